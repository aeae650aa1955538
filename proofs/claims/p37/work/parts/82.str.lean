/-! THE TWO TEXTS OF THE LAW: charAt, indexOf -/
theorem dJ0_length_8abf5_0 : decode cJ0_length_8abf5 0 = .ok (.aload_n 0, 1) := by decide +kernel
theorem dJ0_length_8abf5_1 : decode cJ0_length_8abf5 1 = .ok (.getfield 9, 3) := by decide +kernel
theorem dJ0_length_8abf5_4 : decode cJ0_length_8abf5 4 = .ok (.arraylength, 1) := by decide +kernel
theorem dJ0_length_8abf5_5 : decode cJ0_length_8abf5 5 = .ok (.aload_n 0, 1) := by decide +kernel
theorem dJ0_length_8abf5_6 : decode cJ0_length_8abf5 6 = .ok (.invokevirtual 335, 3) := by decide +kernel
theorem dJ0_length_8abf5_9 : decode cJ0_length_8abf5 9 = .ok (.ishr, 1) := by decide +kernel
theorem dJ0_length_8abf5_10 : decode cJ0_length_8abf5 10 = .ok (.ireturn, 1) := by decide +kernel
theorem dJ0_charAt_5068e_0 : decode cJ0_charAt_5068e 0 = .ok (.aload_n 0, 1) := by decide +kernel
theorem dJ0_charAt_5068e_1 : decode cJ0_charAt_5068e 1 = .ok (.invokevirtual 492, 3) := by decide +kernel
theorem dJ0_charAt_5068e_4 : decode cJ0_charAt_5068e 4 = .ok (.ifCond .eq 12, 3) := by decide +kernel
theorem dJ0_charAt_5068e_7 : decode cJ0_charAt_5068e 7 = .ok (.aload_n 0, 1) := by decide +kernel
theorem dJ0_charAt_5068e_8 : decode cJ0_charAt_5068e 8 = .ok (.getfield 9, 3) := by decide +kernel
theorem dJ0_charAt_5068e_11 : decode cJ0_charAt_5068e 11 = .ok (.iload_n 1, 1) := by decide +kernel
theorem dJ0_charAt_5068e_12 : decode cJ0_charAt_5068e 12 = .ok (.invokestatic 495, 3) := by decide +kernel
theorem dJ0_charAt_5068e_15 : decode cJ0_charAt_5068e 15 = .ok (.ireturn, 1) := by decide +kernel
theorem dJ0_charAt_5068e_16 : decode cJ0_charAt_5068e 16 = .ok (.aload_n 0, 1) := by decide +kernel
theorem dJ0_charAt_5068e_17 : decode cJ0_charAt_5068e 17 = .ok (.getfield 9, 3) := by decide +kernel
theorem dJ0_charAt_5068e_20 : decode cJ0_charAt_5068e 20 = .ok (.iload_n 1, 1) := by decide +kernel
theorem dJ0_charAt_5068e_21 : decode cJ0_charAt_5068e 21 = .ok (.invokestatic 498, 3) := by decide +kernel
theorem dJ0_charAt_5068e_24 : decode cJ0_charAt_5068e 24 = .ok (.ireturn, 1) := by decide +kernel
theorem dJ0_indexOf_0f7a4_0 : decode cJ0_indexOf_0f7a4 0 = .ok (.aload_n 0, 1) := by decide +kernel
theorem dJ0_indexOf_0f7a4_1 : decode cJ0_indexOf_0f7a4 1 = .ok (.iload_n 1, 1) := by decide +kernel
theorem dJ0_indexOf_0f7a4_2 : decode cJ0_indexOf_0f7a4 2 = .ok (.iconst 0, 1) := by decide +kernel
theorem dJ0_indexOf_0f7a4_3 : decode cJ0_indexOf_0f7a4 3 = .ok (.invokevirtual 633, 3) := by decide +kernel
theorem dJ0_indexOf_0f7a4_6 : decode cJ0_indexOf_0f7a4 6 = .ok (.ireturn, 1) := by decide +kernel
theorem dJ0_indexOf_7cf53_0 : decode cJ0_indexOf_7cf53 0 = .ok (.aload_n 0, 1) := by decide +kernel
theorem dJ0_indexOf_7cf53_1 : decode cJ0_indexOf_7cf53 1 = .ok (.invokevirtual 492, 3) := by decide +kernel
theorem dJ0_indexOf_7cf53_4 : decode cJ0_indexOf_7cf53 4 = .ok (.ifCond .eq 19, 3) := by decide +kernel
theorem dJ0_indexOf_7cf53_7 : decode cJ0_indexOf_7cf53 7 = .ok (.aload_n 0, 1) := by decide +kernel
theorem dJ0_indexOf_7cf53_8 : decode cJ0_indexOf_7cf53 8 = .ok (.getfield 9, 3) := by decide +kernel
theorem dJ0_indexOf_7cf53_11 : decode cJ0_indexOf_7cf53 11 = .ok (.iload_n 1, 1) := by decide +kernel
theorem dJ0_indexOf_7cf53_12 : decode cJ0_indexOf_7cf53 12 = .ok (.iload_n 2, 1) := by decide +kernel
theorem dJ0_indexOf_7cf53_13 : decode cJ0_indexOf_7cf53 13 = .ok (.aload_n 0, 1) := by decide +kernel
theorem dJ0_indexOf_7cf53_14 : decode cJ0_indexOf_7cf53 14 = .ok (.invokevirtual 505, 3) := by decide +kernel
theorem dJ0_indexOf_7cf53_17 : decode cJ0_indexOf_7cf53 17 = .ok (.invokestatic 637, 3) := by decide +kernel
theorem dJ0_indexOf_7cf53_20 : decode cJ0_indexOf_7cf53 20 = .ok (.goto 16, 3) := by decide +kernel
theorem dJ0_indexOf_7cf53_23 : decode cJ0_indexOf_7cf53 23 = .ok (.aload_n 0, 1) := by decide +kernel
theorem dJ0_indexOf_7cf53_24 : decode cJ0_indexOf_7cf53 24 = .ok (.getfield 9, 3) := by decide +kernel
theorem dJ0_indexOf_7cf53_27 : decode cJ0_indexOf_7cf53 27 = .ok (.iload_n 1, 1) := by decide +kernel
theorem dJ0_indexOf_7cf53_28 : decode cJ0_indexOf_7cf53 28 = .ok (.iload_n 2, 1) := by decide +kernel
theorem dJ0_indexOf_7cf53_29 : decode cJ0_indexOf_7cf53 29 = .ok (.aload_n 0, 1) := by decide +kernel
theorem dJ0_indexOf_7cf53_30 : decode cJ0_indexOf_7cf53 30 = .ok (.invokevirtual 505, 3) := by decide +kernel
theorem dJ0_indexOf_7cf53_33 : decode cJ0_indexOf_7cf53 33 = .ok (.invokestatic 640, 3) := by decide +kernel
theorem dJ0_indexOf_7cf53_36 : decode cJ0_indexOf_7cf53 36 = .ok (.ireturn, 1) := by decide +kernel
theorem dJ0_coder_7d493_0 : decode cJ0_coder_7d493 0 = .ok (.getstatic 38, 3) := by decide +kernel
theorem dJ0_coder_7d493_3 : decode cJ0_coder_7d493 3 = .ok (.ifCond .eq 10, 3) := by decide +kernel
theorem dJ0_coder_7d493_6 : decode cJ0_coder_7d493 6 = .ok (.aload_n 0, 1) := by decide +kernel
theorem dJ0_coder_7d493_7 : decode cJ0_coder_7d493 7 = .ok (.getfield 15, 3) := by decide +kernel
theorem dJ0_coder_7d493_10 : decode cJ0_coder_7d493 10 = .ok (.goto 4, 3) := by decide +kernel
theorem dJ0_coder_7d493_13 : decode cJ0_coder_7d493 13 = .ok (.iconst 1, 1) := by decide +kernel
theorem dJ0_coder_7d493_14 : decode cJ0_coder_7d493 14 = .ok (.ireturn, 1) := by decide +kernel
theorem dJ0_isLatin1_aae02_0 : decode cJ0_isLatin1_aae02 0 = .ok (.getstatic 38, 3) := by decide +kernel
theorem dJ0_isLatin1_aae02_3 : decode cJ0_isLatin1_aae02 3 = .ok (.ifCond .eq 14, 3) := by decide +kernel
theorem dJ0_isLatin1_aae02_6 : decode cJ0_isLatin1_aae02 6 = .ok (.aload_n 0, 1) := by decide +kernel
theorem dJ0_isLatin1_aae02_7 : decode cJ0_isLatin1_aae02 7 = .ok (.getfield 15, 3) := by decide +kernel
theorem dJ0_isLatin1_aae02_10 : decode cJ0_isLatin1_aae02 10 = .ok (.ifCond .ne 7, 3) := by decide +kernel
theorem dJ0_isLatin1_aae02_13 : decode cJ0_isLatin1_aae02 13 = .ok (.iconst 1, 1) := by decide +kernel
theorem dJ0_isLatin1_aae02_14 : decode cJ0_isLatin1_aae02 14 = .ok (.goto 4, 3) := by decide +kernel
theorem dJ0_isLatin1_aae02_17 : decode cJ0_isLatin1_aae02 17 = .ok (.iconst 0, 1) := by decide +kernel
theorem dJ0_isLatin1_aae02_18 : decode cJ0_isLatin1_aae02 18 = .ok (.ireturn, 1) := by decide +kernel
theorem dJ0_checkIndex_df160_0 : decode cJ0_checkIndex_df160 0 = .ok (.iload_n 0, 1) := by decide +kernel
theorem dJ0_checkIndex_df160_1 : decode cJ0_checkIndex_df160 1 = .ok (.iload_n 1, 1) := by decide +kernel
theorem dJ0_checkIndex_df160_2 : decode cJ0_checkIndex_df160 2 = .ok (.getstatic 1053, 3) := by decide +kernel
theorem dJ0_checkIndex_df160_5 : decode cJ0_checkIndex_df160 5 = .ok (.invokestatic 1059, 3) := by decide +kernel
theorem dJ0_checkIndex_df160_8 : decode cJ0_checkIndex_df160 8 = .ok (.pop, 1) := by decide +kernel
theorem dJ0_checkIndex_df160_9 : decode cJ0_checkIndex_df160 9 = .ok (.return_, 1) := by decide +kernel
theorem dJ1_charAt_3b067_0 : decode cJ1_charAt_3b067 0 = .ok (.iload_n 1, 1) := by decide +kernel
theorem dJ1_charAt_3b067_1 : decode cJ1_charAt_3b067 1 = .ok (.aload_n 0, 1) := by decide +kernel
theorem dJ1_charAt_3b067_2 : decode cJ1_charAt_3b067 2 = .ok (.arraylength, 1) := by decide +kernel
theorem dJ1_charAt_3b067_3 : decode cJ1_charAt_3b067 3 = .ok (.invokestatic 9, 3) := by decide +kernel
theorem dJ1_charAt_3b067_6 : decode cJ1_charAt_3b067 6 = .ok (.aload_n 0, 1) := by decide +kernel
theorem dJ1_charAt_3b067_7 : decode cJ1_charAt_3b067 7 = .ok (.iload_n 1, 1) := by decide +kernel
theorem dJ1_charAt_3b067_8 : decode cJ1_charAt_3b067 8 = .ok (.baload, 1) := by decide +kernel
theorem dJ1_charAt_3b067_9 : decode cJ1_charAt_3b067 9 = .ok (.sipush 255, 3) := by decide +kernel
theorem dJ1_charAt_3b067_12 : decode cJ1_charAt_3b067 12 = .ok (.iand, 1) := by decide +kernel
theorem dJ1_charAt_3b067_13 : decode cJ1_charAt_3b067 13 = .ok (.i2c, 1) := by decide +kernel
theorem dJ1_charAt_3b067_14 : decode cJ1_charAt_3b067 14 = .ok (.ireturn, 1) := by decide +kernel
theorem dJ1_canEncode_9a6ad_0 : decode cJ1_canEncode_9a6ad 0 = .ok (.iload_n 0, 1) := by decide +kernel
theorem dJ1_canEncode_9a6ad_1 : decode cJ1_canEncode_9a6ad 1 = .ok (.ifCond .lt 14, 3) := by decide +kernel
theorem dJ1_canEncode_9a6ad_4 : decode cJ1_canEncode_9a6ad 4 = .ok (.iload_n 0, 1) := by decide +kernel
theorem dJ1_canEncode_9a6ad_5 : decode cJ1_canEncode_9a6ad 5 = .ok (.sipush 255, 3) := by decide +kernel
theorem dJ1_canEncode_9a6ad_8 : decode cJ1_canEncode_9a6ad 8 = .ok (.if_icmp .gt 7, 3) := by decide +kernel
theorem dJ1_canEncode_9a6ad_11 : decode cJ1_canEncode_9a6ad 11 = .ok (.iconst 1, 1) := by decide +kernel
theorem dJ1_canEncode_9a6ad_12 : decode cJ1_canEncode_9a6ad 12 = .ok (.goto 4, 3) := by decide +kernel
theorem dJ1_canEncode_9a6ad_15 : decode cJ1_canEncode_9a6ad 15 = .ok (.iconst 0, 1) := by decide +kernel
theorem dJ1_canEncode_9a6ad_16 : decode cJ1_canEncode_9a6ad 16 = .ok (.ireturn, 1) := by decide +kernel
theorem dJ1_indexOf_4cfef_0 : decode cJ1_indexOf_4cfef 0 = .ok (.iload_n 1, 1) := by decide +kernel
theorem dJ1_indexOf_4cfef_1 : decode cJ1_indexOf_4cfef 1 = .ok (.invokestatic 88, 3) := by decide +kernel
theorem dJ1_indexOf_4cfef_4 : decode cJ1_indexOf_4cfef 4 = .ok (.ifCond .ne 5, 3) := by decide +kernel
theorem dJ1_indexOf_4cfef_7 : decode cJ1_indexOf_4cfef 7 = .ok (.iconst (-1), 1) := by decide +kernel
theorem dJ1_indexOf_4cfef_8 : decode cJ1_indexOf_4cfef 8 = .ok (.ireturn, 1) := by decide +kernel
theorem dJ1_indexOf_4cfef_9 : decode cJ1_indexOf_4cfef 9 = .ok (.iload_n 2, 1) := by decide +kernel
theorem dJ1_indexOf_4cfef_10 : decode cJ1_indexOf_4cfef 10 = .ok (.iconst 0, 1) := by decide +kernel
theorem dJ1_indexOf_4cfef_11 : decode cJ1_indexOf_4cfef 11 = .ok (.invokestatic 92, 3) := by decide +kernel
theorem dJ1_indexOf_4cfef_14 : decode cJ1_indexOf_4cfef 14 = .ok (.istore_n 2, 1) := by decide +kernel
theorem dJ1_indexOf_4cfef_15 : decode cJ1_indexOf_4cfef 15 = .ok (.iload_n 3, 1) := by decide +kernel
theorem dJ1_indexOf_4cfef_16 : decode cJ1_indexOf_4cfef 16 = .ok (.aload_n 0, 1) := by decide +kernel
theorem dJ1_indexOf_4cfef_17 : decode cJ1_indexOf_4cfef 17 = .ok (.arraylength, 1) := by decide +kernel
theorem dJ1_indexOf_4cfef_18 : decode cJ1_indexOf_4cfef 18 = .ok (.invokestatic 38, 3) := by decide +kernel
theorem dJ1_indexOf_4cfef_21 : decode cJ1_indexOf_4cfef 21 = .ok (.istore_n 3, 1) := by decide +kernel
theorem dJ1_indexOf_4cfef_22 : decode cJ1_indexOf_4cfef 22 = .ok (.iload_n 2, 1) := by decide +kernel
theorem dJ1_indexOf_4cfef_23 : decode cJ1_indexOf_4cfef 23 = .ok (.iload_n 3, 1) := by decide +kernel
theorem dJ1_indexOf_4cfef_24 : decode cJ1_indexOf_4cfef 24 = .ok (.if_icmp .lt 5, 3) := by decide +kernel
theorem dJ1_indexOf_4cfef_27 : decode cJ1_indexOf_4cfef 27 = .ok (.iconst (-1), 1) := by decide +kernel
theorem dJ1_indexOf_4cfef_28 : decode cJ1_indexOf_4cfef 28 = .ok (.ireturn, 1) := by decide +kernel
theorem dJ1_indexOf_4cfef_29 : decode cJ1_indexOf_4cfef 29 = .ok (.aload_n 0, 1) := by decide +kernel
theorem dJ1_indexOf_4cfef_30 : decode cJ1_indexOf_4cfef 30 = .ok (.iload_n 1, 1) := by decide +kernel
theorem dJ1_indexOf_4cfef_31 : decode cJ1_indexOf_4cfef 31 = .ok (.iload_n 2, 1) := by decide +kernel
theorem dJ1_indexOf_4cfef_32 : decode cJ1_indexOf_4cfef 32 = .ok (.iload_n 3, 1) := by decide +kernel
theorem dJ1_indexOf_4cfef_33 : decode cJ1_indexOf_4cfef 33 = .ok (.invokestatic 95, 3) := by decide +kernel
theorem dJ1_indexOf_4cfef_36 : decode cJ1_indexOf_4cfef 36 = .ok (.ireturn, 1) := by decide +kernel
theorem dJ1_indexOfChar_4cfef_0 : decode cJ1_indexOfChar_4cfef 0 = .ok (.iload_n 1, 1) := by decide +kernel
theorem dJ1_indexOfChar_4cfef_1 : decode cJ1_indexOfChar_4cfef 1 = .ok (.i2b, 1) := by decide +kernel
theorem dJ1_indexOfChar_4cfef_2 : decode cJ1_indexOfChar_4cfef 2 = .ok (.istore 4, 2) := by decide +kernel
theorem dJ1_indexOfChar_4cfef_4 : decode cJ1_indexOfChar_4cfef 4 = .ok (.iload_n 2, 1) := by decide +kernel
theorem dJ1_indexOfChar_4cfef_5 : decode cJ1_indexOfChar_4cfef 5 = .ok (.istore 5, 2) := by decide +kernel
theorem dJ1_indexOfChar_4cfef_7 : decode cJ1_indexOfChar_4cfef 7 = .ok (.iload 5, 2) := by decide +kernel
theorem dJ1_indexOfChar_4cfef_9 : decode cJ1_indexOfChar_4cfef 9 = .ok (.iload_n 3, 1) := by decide +kernel
theorem dJ1_indexOfChar_4cfef_10 : decode cJ1_indexOfChar_4cfef 10 = .ok (.if_icmp .ge 21, 3) := by decide +kernel
theorem dJ1_indexOfChar_4cfef_13 : decode cJ1_indexOfChar_4cfef 13 = .ok (.aload_n 0, 1) := by decide +kernel
theorem dJ1_indexOfChar_4cfef_14 : decode cJ1_indexOfChar_4cfef 14 = .ok (.iload 5, 2) := by decide +kernel
theorem dJ1_indexOfChar_4cfef_16 : decode cJ1_indexOfChar_4cfef 16 = .ok (.baload, 1) := by decide +kernel
theorem dJ1_indexOfChar_4cfef_17 : decode cJ1_indexOfChar_4cfef 17 = .ok (.iload 4, 2) := by decide +kernel
theorem dJ1_indexOfChar_4cfef_19 : decode cJ1_indexOfChar_4cfef 19 = .ok (.if_icmp .ne 6, 3) := by decide +kernel
theorem dJ1_indexOfChar_4cfef_22 : decode cJ1_indexOfChar_4cfef 22 = .ok (.iload 5, 2) := by decide +kernel
theorem dJ1_indexOfChar_4cfef_24 : decode cJ1_indexOfChar_4cfef 24 = .ok (.ireturn, 1) := by decide +kernel
theorem dJ1_indexOfChar_4cfef_25 : decode cJ1_indexOfChar_4cfef 25 = .ok (.iinc 5 1, 3) := by decide +kernel
theorem dJ1_indexOfChar_4cfef_28 : decode cJ1_indexOfChar_4cfef 28 = .ok (.goto (-21), 3) := by decide +kernel
theorem dJ1_indexOfChar_4cfef_31 : decode cJ1_indexOfChar_4cfef 31 = .ok (.iconst (-1), 1) := by decide +kernel
theorem dJ1_indexOfChar_4cfef_32 : decode cJ1_indexOfChar_4cfef 32 = .ok (.ireturn, 1) := by decide +kernel
theorem dJ3_checkIndex_8e157_0 : decode cJ3_checkIndex_8e157 0 = .ok (.iload_n 0, 1) := by decide +kernel
theorem dJ3_checkIndex_8e157_1 : decode cJ3_checkIndex_8e157 1 = .ok (.ifCond .lt 8, 3) := by decide +kernel
theorem dJ3_checkIndex_8e157_4 : decode cJ3_checkIndex_8e157 4 = .ok (.iload_n 0, 1) := by decide +kernel
theorem dJ3_checkIndex_8e157_5 : decode cJ3_checkIndex_8e157 5 = .ok (.iload_n 1, 1) := by decide +kernel
theorem dJ3_checkIndex_8e157_6 : decode cJ3_checkIndex_8e157 6 = .ok (.if_icmp .lt 10, 3) := by decide +kernel
theorem dJ3_checkIndex_8e157_9 : decode cJ3_checkIndex_8e157 9 = .ok (.aload_n 2, 1) := by decide +kernel
theorem dJ3_checkIndex_8e157_10 : decode cJ3_checkIndex_8e157 10 = .ok (.iload_n 0, 1) := by decide +kernel
theorem dJ3_checkIndex_8e157_11 : decode cJ3_checkIndex_8e157 11 = .ok (.iload_n 1, 1) := by decide +kernel
theorem dJ3_checkIndex_8e157_12 : decode cJ3_checkIndex_8e157 12 = .ok (.invokestatic 95, 3) := by decide +kernel
theorem dJ3_checkIndex_8e157_15 : decode cJ3_checkIndex_8e157 15 = .ok (.athrow, 1) := by decide +kernel
theorem dJ3_checkIndex_8e157_16 : decode cJ3_checkIndex_8e157 16 = .ok (.iload_n 0, 1) := by decide +kernel
theorem dJ3_checkIndex_8e157_17 : decode cJ3_checkIndex_8e157 17 = .ok (.ireturn, 1) := by decide +kernel
theorem m_643 : Jvm.Cond.constant "SilkloftLaw" 7 (40503 : Int32) ∈ lw_all := lw_c3 (List.mem_of_getElem? (i := 163) rfl) rfl
theorem m_1022 : Jvm.Cond.constantLong "SilkloftLaw" 221 (20 : Int64) ∈ lw_all := lw_c5 (List.mem_of_getElem? (i := 62) rfl) rfl
def zt5 : List (List Int32) := [[108, 104, 114, 99, 115], [111, 112, 107, 97, 104]]
def zSt (ak av : Nat → Nat) (A : Nat → Prop) (U : State) (H : Heap) : Prop := vk_S 2 [5, 5] zt5 ak av A U H ∧ va_Z "java/lang/String" "COMPACT_STRINGS" "Z" (.int 1) A U H ∧ va_Zq "jdk/internal/util/Preconditions" "SIOOBE_FORMATTER" "Ljava/util/function/BiFunction;" A U H
theorem zSt.moved {ak av : Nat → Nat} {A : Nat → Prop} {u U : State} {H : Heap} (hvm : u.vm.Alike U.vm) (h : zSt ak av A u H) : zSt ak av A U H := ⟨h.1.moved hvm, h.2.1.moved hvm, h.2.2.moved hvm⟩
theorem zSt.kept {ak av : Nat → Nat} {A : Nat → Prop} {U : State} {H H1 : Heap} (h : zSt ak av A U H) (hq : ∀ a : Nat, a < H.size → ¬ A a → H1[a]? = H[a]?) : zSt ak av A U H1 := ⟨h.1.kept hq, h.2.1.kept hq, h.2.2.kept hq⟩
theorem zSt.narrow {ak av : Nat → Nat} {A B : Nat → Prop} {U : State} {H : Heap} (h : zSt ak av A U H) (hAB : ∀ q, B q → A q) : zSt ak av B U H := ⟨h.1.narrow hAB, h.2.1.narrow hAB, h.2.2.narrow hAB⟩
def zBS (ak av : Nat → Nat) : State → Prop := fun U => zSt ak av (fun _ => False) U U.heap
theorem zblindS {ak av : Nat → Nat} (U : State) (g : JFrame) (mk : MethodId) (a : Array Value) (q : zBS ak av U) : zBS ak av (U.calling g mk a) := zSt.moved (u := U) (U := U.calling g mk a) (Vm.Alike.refl U.vm) q
/-- an end without an answer -/
def zqN : Array Value → State → Outcome → State → Prop := fun _ st o t => o = .returned none ∧ t.heap = st.heap
section ZJS
variable {p : Program} {l : Launch} {e : Env} {R : Room} {s : State} {m : MethodId} {args : Array Value} {below : List Frame} {meth : Method} {c : Code} {H : Heap} {locs : List Loc} {cells slots : Nat} {Q : State → Prop} {cc : ByteArray} {pc : Nat} {ls : Array Slot} {rest : List Value} {own C : String} {idx d n na nL b : Nat} {A A1 A2 : Nat → Prop} {H0 : Heap} {y : MethodName} {code : ByteArray} {ret : Option FieldType} {As st0 : List Value} {ak av : Nat → Nat}
theorem zcNj {a : Array Value} {g : JFrame} (hr : CallRun p l e R s m args below meth c H locs cells slots 0 0 g rest (zqN a) (fun _ => False)) (kk : W p l e R s m args below meth c H locs cells slots Q { g with pc := g.pc + 3, stack := rest }) : W p l e R s m args below meth c H locs cells slots Q g := by
  intro T hT X
  obtain ⟨v', st₀, t, T', L, h0, X', hL, e1, ⟨hv, hh⟩, st⟩ := hr T hT X
  cases hv
  obtain ⟨t2, a1, b1⟩ := kk T' (by rw [e1, hh, h0]) (Stand.forget X' (fun q h => (hL q h).elim))
  exact ⟨t2, st t2 a1, b1⟩
theorem zpreVj (hT : zSt ak av A s H) (hr : ∃ cell : Cell, H[b]? = some cell ∧ cell.vm.isStatics = false ∧ s.vm.findClass C = some cell.cls) : PreV s H C b (va_Pc (.ref b :: As) (zBS ak av)) As := ⟨fun a U g mk q => ⟨q.1, zblindS U g mk a q.2⟩, hr, fun U hU hW => ⟨rfl, by show zSt ak av _ U U.heap; rw [hU]; exact zSt.moved hW.alike (zSt.narrow hT (fun _ h => h.elim))⟩⟩
theorem zpreSj (hT : zSt ak av A s H) : PreS s H (va_Pc As (zBS ak av)) As := ⟨fun a U g mk q => ⟨q.1, zblindS U g mk a q.2⟩, fun U hU hW => ⟨rfl, by show zSt ak av _ U U.heap; rw [hU]; exact zSt.moved hW.alike (zSt.narrow hT (fun _ h => h.elim))⟩⟩
theorem zcallVj {v : Value} (X : zX p m c s args own cc) (hml : c.maxLocals = nL) (hT : zSt ak av A s H) (hM : Met l y (zw y code n ret) (zrm d) (va_Pc (.ref b :: As) (zBS ak av)) (zqR v) 0 0 (fun _ => False)) (hm : zmV y C code n ret na) (hn : n ≤ 21) (hl : Cond.methodLink own idx y ∈ lw_all) (hr : ∃ cell : Cell, H[b]? = some cell ∧ cell.vm.isStatics = false ∧ s.vm.findClass C = some cell.cls) (hR : d + 1 ≤ R.frames ∧ 40 * (d + 1) ≤ R.locals) (hcs : cells ≤ R.cells ∧ slots ≤ R.slots) (hna : As.length = na) (hls : ls.size = nL) (hst : st0 = As.reverse ++ .ref b :: rest) (hrm : (rest.map fun v => v.category).sum ≤ 8) (hd : decode cc pc = .ok (.invokevirtual idx, 3))
    (kk : W p l e R s m args below meth c H locs cells slots Q (F0 m (pc + 3) ls (v :: rest))) : W p l e R s m args below meth c H locs cells slots Q (F0 m pc ls st0) :=
  zcR (W.runV ⟨X.1, X.2.1, hml, X.2.2.1, X.2.2.2⟩ hM (zcwV X.2.2.2 hm hl hR hn) (zpreVj hT hr) rfl hna hls hst (lv_room hrm) hd hcs) kk
theorem zcallSj {v : Value} (X : zX p m c s args own cc) (hml : c.maxLocals = nL) (hT : zSt ak av A s H) (hM : Met l y (zw y code n ret) (zrm d) (va_Pc As (zBS ak av)) (zqR v) 0 0 (fun _ => False)) (hm : zmS y C code n ret na) (hn : n ≤ 21) (hl : Cond.methodLink own idx y ∈ lw_all) (hR : d + 1 ≤ R.frames ∧ 40 * (d + 1) ≤ R.locals) (hcs : cells ≤ R.cells ∧ slots ≤ R.slots) (hna : As.length = na) (hls : ls.size = nL) (hst : st0 = As.reverse ++ rest) (hrm : (rest.map fun v => v.category).sum ≤ 8) (hd : decode cc pc = .ok (.invokestatic idx, 3))
    (kk : W p l e R s m args below meth c H locs cells slots Q (F0 m (pc + 3) ls (v :: rest))) : W p l e R s m args below meth c H locs cells slots Q (F0 m pc ls st0) :=
  zcR (W.runS ⟨X.1, X.2.1, hml, X.2.2.1, X.2.2.2⟩ hM (zcwS X.2.2.2 hm hl hR hn) (zpreSj hT) rfl hna hls hst (lv_room hrm) hd hcs) kk
theorem zcallNj (X : zX p m c s args own cc) (hml : c.maxLocals = nL) (hT : zSt ak av A s H) (hM : Met l y (zw y code n ret) (zrm d) (va_Pc As (zBS ak av)) zqN 0 0 (fun _ => False)) (hm : zmS y C code n ret na) (hn : n ≤ 21) (hl : Cond.methodLink own idx y ∈ lw_all) (hR : d + 1 ≤ R.frames ∧ 40 * (d + 1) ≤ R.locals) (hcs : cells ≤ R.cells ∧ slots ≤ R.slots) (hna : As.length = na) (hls : ls.size = nL) (hst : st0 = As.reverse ++ rest) (hrm : (rest.map fun v => v.category).sum ≤ 8) (hd : decode cc pc = .ok (.invokestatic idx, 3))
    (kk : W p l e R s m args below meth c H locs cells slots Q (F0 m (pc + 3) ls rest)) : W p l e R s m args below meth c H locs cells slots Q (F0 m pc ls st0) :=
  zcNj (W.runS ⟨X.1, X.2.1, hml, X.2.2.1, X.2.2.2⟩ hM (zcwS X.2.2.2 hm hl hR hn) (zpreSj hT) rfl hna hls hst (lv_room hrm) hd hcs) kk
end ZJS
def zch (q : Nat) : Int32 := (zt5.getD 0 []).getD q 0
theorem zch_ok : ∀ q, q < 5 → (((zt5.getD 0 []).getD q 0 &&& 255).toUInt32 % 65536).toInt32 = zch q := by decide
theorem zch_n : ∀ q, q < 5 → narrow .char (.int (zch q)) = .int (zch q) := by
  intro q hq
  rcases (show q = 0 ∨ q = 1 ∨ q = 2 ∨ q = 3 ∨ q = 4 by omega) with rfl | rfl | rfl | rfl | rfl <;> rfl
theorem zmJ0_isLatin1_aae02 : zmV yJ0_isLatin1_aae02 RJ0 cJ0_isLatin1_aae02 1 (some .boolean) 0 := ⟨m_959, m_960, m_21, m_961, rfl, by decide, by decide, by decide +kernel⟩
set_option maxRecDepth 100000 in
set_option maxHeartbeats 4000000 in
theorem ctJ0_isLatin1_aae02_0 (l : Launch) (ak av : Nat → Nat) : Met l yJ0_isLatin1_aae02 (zw yJ0_isLatin1_aae02 cJ0_isLatin1_aae02 1 (some .boolean)) (zrm 0) (va_Pc [.ref (ak 0)] (zBS ak av)) (zqR (.int (bI true))) 0 0 (fun _ => False) := by
  refine zmet (by decide) rfl (Nat.le_of_ble_eq_true rfl) rfl (fun p e s m below meth c ls X hml hr hlocks hv hl => ?_)
  obtain ⟨hS2, hZ, hZq⟩ := id hv
  obtain ⟨hx, hb, -, -⟩ := id X
  have hl : lv_has ls 1 [(0, .ref (ak 0))] := hl
  refine va_gets hx hb hZ va_S.rf X.2.2.1 (X.2.2.2 _ m_962) (fun _ h => h) dJ0_isLatin1_aae02_0 ?_
  refine lv_if_eq (tgt := 17) hx hb dJ0_isLatin1_aae02_3 (by decide) (fun h => absurd h (by decide)) (fun _ => ?_)
  refine lv_aload_n hx hb dJ0_isLatin1_aae02_6 rfl (lv_at hl 0 rfl) ?_
  refine vk_getf hx hb (hS2.1 0 (by decide)).2.1 va_S.rf X.2.2.1 (X.2.2.2 _ m_1245) (fun _ h => h) dJ0_isLatin1_aae02_7 ?_
  refine lv_if_ne (tgt := 17) hx hb dJ0_isLatin1_aae02_10 (by decide) (fun h => absurd h (by decide)) (fun _ => ?_)
  refine lv_iconst (v := 1) hx hb dJ0_isLatin1_aae02_13 (by decide) ?_
  refine lv_goto (tgt := 18) hx hb dJ0_isLatin1_aae02_14 (by decide) ?_
  exact ze_z hx hb hr hlocks rfl dJ0_isLatin1_aae02_18
set_option maxRecDepth 100000 in
set_option maxHeartbeats 4000000 in
theorem ctJ0_isLatin1_aae02_1 (l : Launch) (ak av : Nat → Nat) : Met l yJ0_isLatin1_aae02 (zw yJ0_isLatin1_aae02 cJ0_isLatin1_aae02 1 (some .boolean)) (zrm 0) (va_Pc [.ref (ak 1)] (zBS ak av)) (zqR (.int (bI true))) 0 0 (fun _ => False) := by
  refine zmet (by decide) rfl (Nat.le_of_ble_eq_true rfl) rfl (fun p e s m below meth c ls X hml hr hlocks hv hl => ?_)
  obtain ⟨hS2, hZ, hZq⟩ := id hv
  obtain ⟨hx, hb, -, -⟩ := id X
  have hl : lv_has ls 1 [(0, .ref (ak 1))] := hl
  refine va_gets hx hb hZ va_S.rf X.2.2.1 (X.2.2.2 _ m_962) (fun _ h => h) dJ0_isLatin1_aae02_0 ?_
  refine lv_if_eq (tgt := 17) hx hb dJ0_isLatin1_aae02_3 (by decide) (fun h => absurd h (by decide)) (fun _ => ?_)
  refine lv_aload_n hx hb dJ0_isLatin1_aae02_6 rfl (lv_at hl 0 rfl) ?_
  refine vk_getf hx hb (hS2.1 1 (by decide)).2.1 va_S.rf X.2.2.1 (X.2.2.2 _ m_1245) (fun _ h => h) dJ0_isLatin1_aae02_7 ?_
  refine lv_if_ne (tgt := 17) hx hb dJ0_isLatin1_aae02_10 (by decide) (fun h => absurd h (by decide)) (fun _ => ?_)
  refine lv_iconst (v := 1) hx hb dJ0_isLatin1_aae02_13 (by decide) ?_
  refine lv_goto (tgt := 18) hx hb dJ0_isLatin1_aae02_14 (by decide) ?_
  exact ze_z hx hb hr hlocks rfl dJ0_isLatin1_aae02_18
theorem zmJ0_coder_7d493 : zmV yJ0_coder_7d493 RJ0 cJ0_coder_7d493 1 (some .byte) 0 := ⟨m_1047, m_1048, m_21, m_1049, rfl, by decide, by decide, by decide +kernel⟩
set_option maxRecDepth 100000 in
set_option maxHeartbeats 4000000 in
theorem ctJ0_coder_7d493 (l : Launch) (ak av : Nat → Nat) : Met l yJ0_coder_7d493 (zw yJ0_coder_7d493 cJ0_coder_7d493 1 (some .byte)) (zrm 0) (va_Pc [.ref (ak 1)] (zBS ak av)) (zqR (.int 0)) 0 0 (fun _ => False) := by
  refine zmet (by decide) rfl (Nat.le_of_ble_eq_true rfl) rfl (fun p e s m below meth c ls X hml hr hlocks hv hl => ?_)
  obtain ⟨hS2, hZ, hZq⟩ := id hv
  obtain ⟨hx, hb, -, -⟩ := id X
  have hl : lv_has ls 1 [(0, .ref (ak 1))] := hl
  refine va_gets hx hb hZ va_S.rf X.2.2.1 (X.2.2.2 _ m_962) (fun _ h => h) dJ0_coder_7d493_0 ?_
  refine lv_if_eq (tgt := 13) hx hb dJ0_coder_7d493_3 (by decide) (fun h => absurd h (by decide)) (fun _ => ?_)
  refine lv_aload_n hx hb dJ0_coder_7d493_6 rfl (lv_at hl 0 rfl) ?_
  refine vk_getf hx hb (hS2.1 1 (by decide)).2.1 va_S.rf X.2.2.1 (X.2.2.2 _ m_1245) (fun _ h => h) dJ0_coder_7d493_7 ?_
  refine lv_goto (tgt := 14) hx hb dJ0_coder_7d493_10 (by decide) ?_
  exact W.zret (cc := _) hx hb hr rfl (fun t ht hW => ⟨rfl, ht⟩) (fun q hq => absurd hq List.not_mem_nil) dJ0_coder_7d493_14 hlocks
theorem zmJ0_length_8abf5 : zmV yJ0_length_8abf5 RJ0 cJ0_length_8abf5 1 (some .int) 0 := ⟨m_1043, m_1044, m_21, m_1045, rfl, by decide, by decide, by decide +kernel⟩
set_option maxRecDepth 100000 in
set_option maxHeartbeats 4000000 in
theorem ctJ0_length_8abf5 (l : Launch) (ak av : Nat → Nat) : Met l yJ0_length_8abf5 (zw yJ0_length_8abf5 cJ0_length_8abf5 1 (some .int)) (zrm 1) (va_Pc [.ref (ak 1)] (zBS ak av)) (zqR (.int 5)) 0 0 (fun _ => False) := by
  refine zmet (by decide) rfl (Nat.le_of_ble_eq_true rfl) rfl (fun p e s m below meth c ls X hml hr hlocks hv hl => ?_)
  obtain ⟨hS2, hZ, hZq⟩ := id hv
  obtain ⟨hx, hb, -, -⟩ := id X
  have hl : lv_has ls 1 [(0, .ref (ak 1))] := hl
  refine lv_aload_n hx hb dJ0_length_8abf5_0 rfl (lv_at hl 0 rfl) ?_
  refine vk_getf hx hb (hS2.1 1 (by decide)).2.2.1 va_S.rf X.2.2.1 (X.2.2.2 _ m_1246) (fun _ h => h) dJ0_length_8abf5_1 ?_
  refine va_tlen hx hb (hS2.1 1 (by decide)).2.2.2 va_S.rf (v := 5) rfl dJ0_length_8abf5_4 ?_
  refine lv_aload_n hx hb dJ0_length_8abf5_5 rfl (lv_at hl 0 rfl) ?_
  refine zcallVj (As := []) (rest := [.int 5]) X hml hv (ctJ0_coder_7d493 l ak av) zmJ0_coder_7d493 (by decide) m_1046 (va_Orecv (hS2.1 1 (by decide)).1 va_S.rf) ⟨(Nat.le_of_ble_eq_true rfl), (Nat.le_of_ble_eq_true rfl)⟩ ⟨(Nat.le_of_ble_eq_true rfl), (Nat.le_of_ble_eq_true rfl)⟩ rfl hl.1 rfl (Nat.le_of_ble_eq_true rfl) dJ0_length_8abf5_6 ?_
  refine lv_ishr hx hb dJ0_length_8abf5_9 ?_
  rw [show (5 : Int32) >>> (0 &&& 31) = 5 from by decide]
  exact ze_i hx hb hr hlocks rfl dJ0_length_8abf5_10
theorem zmJ1_canEncode_9a6ad : zmS yJ1_canEncode_9a6ad RJ1 cJ1_canEncode_9a6ad 1 (some .boolean) 1 := ⟨m_1054, m_22, m_1055, rfl, by decide, by decide, by decide +kernel⟩
set_option maxRecDepth 100000 in
set_option maxHeartbeats 4000000 in
theorem ctJ1_canEncode_9a6ad_0 (l : Launch) (ak av : Nat → Nat) : Met l yJ1_canEncode_9a6ad (zw yJ1_canEncode_9a6ad cJ1_canEncode_9a6ad 1 (some .boolean)) (zrm 0) (va_Pc [.int 111] (zBS ak av)) (zqR (.int (bI true))) 0 0 (fun _ => False) := by
  refine zmet (by decide) rfl (Nat.le_of_ble_eq_true rfl) rfl (fun p e s m below meth c ls X hml hr hlocks hv hl => ?_)
  obtain ⟨hS2, hZ, hZq⟩ := id hv
  obtain ⟨hx, hb, -, -⟩ := id X
  have hl : lv_has ls 1 [(0, .int 111)] := hl
  refine lv_iload_n hx hb dJ1_canEncode_9a6ad_0 rfl (lv_at hl 0 rfl) ?_
  refine lv_if_lt (tgt := 15) hx hb dJ1_canEncode_9a6ad_1 (by decide) (fun h => absurd h (by decide)) (fun _ => ?_)
  refine lv_iload_n hx hb dJ1_canEncode_9a6ad_4 rfl (lv_at hl 0 rfl) ?_
  refine lv_sipush (v := 255) hx hb dJ1_canEncode_9a6ad_5 (by decide) ?_
  refine lv_icmp_gt (tgt := 15) hx hb dJ1_canEncode_9a6ad_8 (by decide) (fun h => absurd h (by decide)) (fun _ => ?_)
  refine lv_iconst (v := 1) hx hb dJ1_canEncode_9a6ad_11 (by decide) ?_
  refine lv_goto (tgt := 16) hx hb dJ1_canEncode_9a6ad_12 (by decide) ?_
  exact ze_z hx hb hr hlocks rfl dJ1_canEncode_9a6ad_16
theorem zmJ1_indexOfChar_4cfef : zmS yJ1_indexOfChar_4cfef RJ1 cJ1_indexOfChar_4cfef 6 (some .int) 4 := ⟨m_1061, m_22, m_1062, rfl, by decide, by decide, by decide +kernel⟩
set_option maxRecDepth 100000 in
set_option maxHeartbeats 4000000 in
theorem ctJ1_indexOfChar_4cfef_0 (l : Launch) (ak av : Nat → Nat) : Met l yJ1_indexOfChar_4cfef (zw yJ1_indexOfChar_4cfef cJ1_indexOfChar_4cfef 6 (some .int)) (zrm 0) (va_Pc [.ref (av 1), .int 111, .int 0, .int 5] (zBS ak av)) (zqR (.int 0)) 0 0 (fun _ => False) := by
  refine zmet (by decide) rfl (Nat.le_of_ble_eq_true rfl) rfl (fun p e s m below meth c ls X hml hr hlocks hv hl => ?_)
  obtain ⟨hS2, hZ, hZq⟩ := id hv
  obtain ⟨hx, hb, -, -⟩ := id X
  have hl : lv_has ls 6 [(0, .ref (av 1)), (1, .int 111), (2, .int 0), (3, .int 5)] := hl
  refine lv_iload_n hx hb dJ1_indexOfChar_4cfef_0 rfl (lv_at hl 1 rfl) ?_
  refine lv_i2b (v := 111) hx hb dJ1_indexOfChar_4cfef_1 (by decide) ?_
  refine lv_istore (lv' := [(4, .int 111), (0, .ref (av 1)), (1, .int 111), (2, .int 0), (3, .int 5)]) hx hb dJ1_indexOfChar_4cfef_2 hl (by decide) rfl (fun ls hl => ?_)
  refine lv_iload_n hx hb dJ1_indexOfChar_4cfef_4 rfl (lv_at hl 3 rfl) ?_
  refine lv_istore (lv' := [(5, .int 0), (4, .int 111), (0, .ref (av 1)), (1, .int 111), (2, .int 0), (3, .int 5)]) hx hb dJ1_indexOfChar_4cfef_5 hl (by decide) rfl (fun ls hl => ?_)
  refine lv_iload hx hb dJ1_indexOfChar_4cfef_7 (lv_at hl 0 rfl) ?_
  refine lv_iload_n hx hb dJ1_indexOfChar_4cfef_9 rfl (lv_at hl 5 rfl) ?_
  refine lv_icmp_ge (tgt := 31) hx hb dJ1_indexOfChar_4cfef_10 (by decide) (fun h => absurd h (by decide)) (fun _ => ?_)
  refine lv_aload_n hx hb dJ1_indexOfChar_4cfef_13 rfl (lv_at hl 2 rfl) ?_
  refine lv_iload hx hb dJ1_indexOfChar_4cfef_14 (lv_at hl 0 rfl) ?_
  refine va_tb hx hb (hS2.1 1 (by decide)).2.2.2 va_S.rf (i := 0) (vp_in_nI (n := 0) (N := 5) (by decide) (by decide)) (v := .int 111) rfl dJ1_indexOfChar_4cfef_16 ?_
  refine lv_iload hx hb dJ1_indexOfChar_4cfef_17 (lv_at hl 1 rfl) ?_
  refine lv_icmp_ne (tgt := 25) hx hb dJ1_indexOfChar_4cfef_19 (by decide) (fun h => absurd h (by decide)) (fun _ => ?_)
  refine lv_iload hx hb dJ1_indexOfChar_4cfef_22 (lv_at hl 0 rfl) ?_
  exact ze_i hx hb hr hlocks rfl dJ1_indexOfChar_4cfef_24
theorem zmJ1_indexOf_4cfef : zmS yJ1_indexOf_4cfef RJ1 cJ1_indexOf_4cfef 4 (some .int) 4 := ⟨m_1051, m_22, m_1052, rfl, by decide, by decide, by decide +kernel⟩
set_option maxRecDepth 100000 in
set_option maxHeartbeats 4000000 in
theorem ctJ1_indexOf_4cfef_0 (l : Launch) (ak av : Nat → Nat) : Met l yJ1_indexOf_4cfef (zw yJ1_indexOf_4cfef cJ1_indexOf_4cfef 4 (some .int)) (zrm 2) (va_Pc [.ref (av 1), .int 111, .int 0, .int 5] (zBS ak av)) (zqR (.int 0)) 0 0 (fun _ => False) := by
  refine zmet (by decide) rfl (Nat.le_of_ble_eq_true rfl) rfl (fun p e s m below meth c ls X hml hr hlocks hv hl => ?_)
  obtain ⟨hS2, hZ, hZq⟩ := id hv
  obtain ⟨hx, hb, -, -⟩ := id X
  have hl : lv_has ls 4 [(0, .ref (av 1)), (1, .int 111), (2, .int 0), (3, .int 5)] := hl
  refine lv_iload_n hx hb dJ1_indexOf_4cfef_0 rfl (lv_at hl 1 rfl) ?_
  refine zcallSj (As := [.int 111]) (rest := []) X hml hv (ctJ1_canEncode_9a6ad_0 l ak av) zmJ1_canEncode_9a6ad (by decide) m_1053 ⟨(Nat.le_of_ble_eq_true rfl), (Nat.le_of_ble_eq_true rfl)⟩ ⟨(Nat.le_of_ble_eq_true rfl), (Nat.le_of_ble_eq_true rfl)⟩ rfl hl.1 rfl (Nat.le_of_ble_eq_true rfl) dJ1_indexOf_4cfef_1 ?_
  refine zb_ne (tgt := 9) hx hb dJ1_indexOf_4cfef_4 (by decide) (fun _ => ?_) (fun h => absurd h (by decide))
  refine lv_iload_n hx hb dJ1_indexOf_4cfef_9 rfl (lv_at hl 2 rfl) ?_
  refine lv_iconst (v := 0) hx hb dJ1_indexOf_4cfef_10 (by decide) ?_
  refine z_max (x := 0) (y := 0) X hml hl.1 m_1056 ⟨(Nat.le_of_ble_eq_true rfl), (Nat.le_of_ble_eq_true rfl)⟩ ⟨Nat.zero_le _, Nat.zero_le _⟩ (Nat.le_of_ble_eq_true rfl) dJ1_indexOf_4cfef_11 ?_
  rw [show k_max 0 0 = 0 from by decide]
  refine lv_istore_n (lv' := [(2, .int 0), (0, .ref (av 1)), (1, .int 111), (3, .int 5)]) hx hb dJ1_indexOf_4cfef_14 rfl hl (by decide) rfl (fun ls hl => ?_)
  refine lv_iload_n hx hb dJ1_indexOf_4cfef_15 rfl (lv_at hl 3 rfl) ?_
  refine lv_aload_n hx hb dJ1_indexOf_4cfef_16 rfl (lv_at hl 1 rfl) ?_
  refine va_tlen hx hb (hS2.1 1 (by decide)).2.2.2 va_S.rf (v := 5) rfl dJ1_indexOf_4cfef_17 ?_
  refine va_mmin X.1 X.2.1 (hml.trans hl.1.symm) X.2.2.1 (X.2.2.2 _ m_1057) (X.2.2.2 _ m_1058) (X.2.2.2 _ m_19) (X.2.2.2 _ m_1059) (Nat.le_of_ble_eq_true rfl) (Nat.le_of_ble_eq_true rfl) (Nat.zero_le _) (Nat.zero_le _) (x := 5) (y := 5) dJ1_indexOf_4cfef_18 ?_
  rw [show (if (5 : Int32) < 5 then (5 : Int32) else 5) = 5 from by decide]
  refine lv_istore_n (lv' := [(3, .int 5), (2, .int 0), (0, .ref (av 1)), (1, .int 111)]) hx hb dJ1_indexOf_4cfef_21 rfl hl (by decide) rfl (fun ls hl => ?_)
  refine lv_iload_n hx hb dJ1_indexOf_4cfef_22 rfl (lv_at hl 1 rfl) ?_
  refine lv_iload_n hx hb dJ1_indexOf_4cfef_23 rfl (lv_at hl 0 rfl) ?_
  refine lv_icmp_lt (tgt := 29) hx hb dJ1_indexOf_4cfef_24 (by decide) (fun _ => ?_) (fun h => absurd h (by decide))
  refine lv_aload_n hx hb dJ1_indexOf_4cfef_29 rfl (lv_at hl 2 rfl) ?_
  refine lv_iload_n hx hb dJ1_indexOf_4cfef_30 rfl (lv_at hl 3 rfl) ?_
  refine lv_iload_n hx hb dJ1_indexOf_4cfef_31 rfl (lv_at hl 1 rfl) ?_
  refine lv_iload_n hx hb dJ1_indexOf_4cfef_32 rfl (lv_at hl 0 rfl) ?_
  refine zcallSj (As := [.ref (av 1), .int 111, .int 0, .int 5]) (rest := []) X hml hv (ctJ1_indexOfChar_4cfef_0 l ak av) zmJ1_indexOfChar_4cfef (by decide) m_1060 ⟨(Nat.le_of_ble_eq_true rfl), (Nat.le_of_ble_eq_true rfl)⟩ ⟨(Nat.le_of_ble_eq_true rfl), (Nat.le_of_ble_eq_true rfl)⟩ rfl hl.1 rfl (Nat.le_of_ble_eq_true rfl) dJ1_indexOf_4cfef_33 ?_
  exact ze_i hx hb hr hlocks rfl dJ1_indexOf_4cfef_36
theorem zmJ0_indexOf_7cf53 : zmV yJ0_indexOf_7cf53 RJ0 cJ0_indexOf_7cf53 3 (some .int) 2 := ⟨m_1039, m_1040, m_21, m_1041, rfl, by decide, by decide, by decide +kernel⟩
set_option maxRecDepth 100000 in
set_option maxHeartbeats 4000000 in
theorem ctJ0_indexOf_7cf53_0 (l : Launch) (ak av : Nat → Nat) : Met l yJ0_indexOf_7cf53 (zw yJ0_indexOf_7cf53 cJ0_indexOf_7cf53 3 (some .int)) (zrm 3) (va_Pc [.ref (ak 1), .int 111, .int 0] (zBS ak av)) (zqR (.int 0)) 0 0 (fun _ => False) := by
  refine zmet (by decide) rfl (Nat.le_of_ble_eq_true rfl) rfl (fun p e s m below meth c ls X hml hr hlocks hv hl => ?_)
  obtain ⟨hS2, hZ, hZq⟩ := id hv
  obtain ⟨hx, hb, -, -⟩ := id X
  have hl : lv_has ls 3 [(0, .ref (ak 1)), (1, .int 111), (2, .int 0)] := hl
  refine lv_aload_n hx hb dJ0_indexOf_7cf53_0 rfl (lv_at hl 0 rfl) ?_
  refine zcallVj (As := []) (rest := []) X hml hv (ctJ0_isLatin1_aae02_1 l ak av) zmJ0_isLatin1_aae02 (by decide) m_958 (va_Orecv (hS2.1 1 (by decide)).1 va_S.rf) ⟨(Nat.le_of_ble_eq_true rfl), (Nat.le_of_ble_eq_true rfl)⟩ ⟨(Nat.le_of_ble_eq_true rfl), (Nat.le_of_ble_eq_true rfl)⟩ rfl hl.1 rfl (Nat.le_of_ble_eq_true rfl) dJ0_indexOf_7cf53_1 ?_
  refine zb_eq (tgt := 23) hx hb dJ0_indexOf_7cf53_4 (by decide) (fun h => absurd h (by decide)) (fun _ => ?_)
  refine lv_aload_n hx hb dJ0_indexOf_7cf53_7 rfl (lv_at hl 0 rfl) ?_
  refine vk_getf hx hb (hS2.1 1 (by decide)).2.2.1 va_S.rf X.2.2.1 (X.2.2.2 _ m_1246) (fun _ h => h) dJ0_indexOf_7cf53_8 ?_
  refine lv_iload_n hx hb dJ0_indexOf_7cf53_11 rfl (lv_at hl 1 rfl) ?_
  refine lv_iload_n hx hb dJ0_indexOf_7cf53_12 rfl (lv_at hl 2 rfl) ?_
  refine lv_aload_n hx hb dJ0_indexOf_7cf53_13 rfl (lv_at hl 0 rfl) ?_
  refine zcallVj (As := []) (rest := [.int 0, .int 111, .ref (av 1)]) X hml hv (ctJ0_length_8abf5 l ak av) zmJ0_length_8abf5 (by decide) m_1042 (va_Orecv (hS2.1 1 (by decide)).1 va_S.rf) ⟨(Nat.le_of_ble_eq_true rfl), (Nat.le_of_ble_eq_true rfl)⟩ ⟨(Nat.le_of_ble_eq_true rfl), (Nat.le_of_ble_eq_true rfl)⟩ rfl hl.1 rfl (Nat.le_of_ble_eq_true rfl) dJ0_indexOf_7cf53_14 ?_
  refine zcallSj (As := [.ref (av 1), .int 111, .int 0, .int 5]) (rest := []) X hml hv (ctJ1_indexOf_4cfef_0 l ak av) zmJ1_indexOf_4cfef (by decide) m_1050 ⟨(Nat.le_of_ble_eq_true rfl), (Nat.le_of_ble_eq_true rfl)⟩ ⟨(Nat.le_of_ble_eq_true rfl), (Nat.le_of_ble_eq_true rfl)⟩ rfl hl.1 rfl (Nat.le_of_ble_eq_true rfl) dJ0_indexOf_7cf53_17 ?_
  refine lv_goto (tgt := 36) hx hb dJ0_indexOf_7cf53_20 (by decide) ?_
  exact ze_i hx hb hr hlocks rfl dJ0_indexOf_7cf53_36
theorem zmJ0_indexOf_0f7a4 : zmV yJ0_indexOf_0f7a4 RJ0 cJ0_indexOf_0f7a4 2 (some .int) 1 := ⟨m_1035, m_1036, m_21, m_1037, rfl, by decide, by decide, by decide +kernel⟩
set_option maxRecDepth 100000 in
set_option maxHeartbeats 4000000 in
theorem ctJ0_indexOf_0f7a4_0 (l : Launch) (ak av : Nat → Nat) : Met l yJ0_indexOf_0f7a4 (zw yJ0_indexOf_0f7a4 cJ0_indexOf_0f7a4 2 (some .int)) (zrm 4) (va_Pc [.ref (ak 1), .int 111] (zBS ak av)) (zqR (.int 0)) 0 0 (fun _ => False) := by
  refine zmet (by decide) rfl (Nat.le_of_ble_eq_true rfl) rfl (fun p e s m below meth c ls X hml hr hlocks hv hl => ?_)
  obtain ⟨hS2, hZ, hZq⟩ := id hv
  obtain ⟨hx, hb, -, -⟩ := id X
  have hl : lv_has ls 2 [(0, .ref (ak 1)), (1, .int 111)] := hl
  refine lv_aload_n hx hb dJ0_indexOf_0f7a4_0 rfl (lv_at hl 0 rfl) ?_
  refine lv_iload_n hx hb dJ0_indexOf_0f7a4_1 rfl (lv_at hl 1 rfl) ?_
  refine lv_iconst (v := 0) hx hb dJ0_indexOf_0f7a4_2 (by decide) ?_
  refine zcallVj (As := [.int 111, .int 0]) (rest := []) X hml hv (ctJ0_indexOf_7cf53_0 l ak av) zmJ0_indexOf_7cf53 (by decide) m_1038 (va_Orecv (hS2.1 1 (by decide)).1 va_S.rf) ⟨(Nat.le_of_ble_eq_true rfl), (Nat.le_of_ble_eq_true rfl)⟩ ⟨(Nat.le_of_ble_eq_true rfl), (Nat.le_of_ble_eq_true rfl)⟩ rfl hl.1 rfl (Nat.le_of_ble_eq_true rfl) dJ0_indexOf_0f7a4_3 ?_
  exact ze_i hx hb hr hlocks rfl dJ0_indexOf_0f7a4_6
set_option maxRecDepth 100000 in
set_option maxHeartbeats 4000000 in
theorem ctJ1_canEncode_9a6ad_1 (l : Launch) (ak av : Nat → Nat) : Met l yJ1_canEncode_9a6ad (zw yJ1_canEncode_9a6ad cJ1_canEncode_9a6ad 1 (some .boolean)) (zrm 0) (va_Pc [.int 112] (zBS ak av)) (zqR (.int (bI true))) 0 0 (fun _ => False) := by
  refine zmet (by decide) rfl (Nat.le_of_ble_eq_true rfl) rfl (fun p e s m below meth c ls X hml hr hlocks hv hl => ?_)
  obtain ⟨hS2, hZ, hZq⟩ := id hv
  obtain ⟨hx, hb, -, -⟩ := id X
  have hl : lv_has ls 1 [(0, .int 112)] := hl
  refine lv_iload_n hx hb dJ1_canEncode_9a6ad_0 rfl (lv_at hl 0 rfl) ?_
  refine lv_if_lt (tgt := 15) hx hb dJ1_canEncode_9a6ad_1 (by decide) (fun h => absurd h (by decide)) (fun _ => ?_)
  refine lv_iload_n hx hb dJ1_canEncode_9a6ad_4 rfl (lv_at hl 0 rfl) ?_
  refine lv_sipush (v := 255) hx hb dJ1_canEncode_9a6ad_5 (by decide) ?_
  refine lv_icmp_gt (tgt := 15) hx hb dJ1_canEncode_9a6ad_8 (by decide) (fun h => absurd h (by decide)) (fun _ => ?_)
  refine lv_iconst (v := 1) hx hb dJ1_canEncode_9a6ad_11 (by decide) ?_
  refine lv_goto (tgt := 16) hx hb dJ1_canEncode_9a6ad_12 (by decide) ?_
  exact ze_z hx hb hr hlocks rfl dJ1_canEncode_9a6ad_16
set_option maxRecDepth 100000 in
set_option maxHeartbeats 4000000 in
theorem ctJ1_indexOfChar_4cfef_1 (l : Launch) (ak av : Nat → Nat) : Met l yJ1_indexOfChar_4cfef (zw yJ1_indexOfChar_4cfef cJ1_indexOfChar_4cfef 6 (some .int)) (zrm 0) (va_Pc [.ref (av 1), .int 112, .int 0, .int 5] (zBS ak av)) (zqR (.int 1)) 0 0 (fun _ => False) := by
  refine zmet (by decide) rfl (Nat.le_of_ble_eq_true rfl) rfl (fun p e s m below meth c ls X hml hr hlocks hv hl => ?_)
  obtain ⟨hS2, hZ, hZq⟩ := id hv
  obtain ⟨hx, hb, -, -⟩ := id X
  have hl : lv_has ls 6 [(0, .ref (av 1)), (1, .int 112), (2, .int 0), (3, .int 5)] := hl
  refine lv_iload_n hx hb dJ1_indexOfChar_4cfef_0 rfl (lv_at hl 1 rfl) ?_
  refine lv_i2b (v := 112) hx hb dJ1_indexOfChar_4cfef_1 (by decide) ?_
  refine lv_istore (lv' := [(4, .int 112), (0, .ref (av 1)), (1, .int 112), (2, .int 0), (3, .int 5)]) hx hb dJ1_indexOfChar_4cfef_2 hl (by decide) rfl (fun ls hl => ?_)
  refine lv_iload_n hx hb dJ1_indexOfChar_4cfef_4 rfl (lv_at hl 3 rfl) ?_
  refine lv_istore (lv' := [(5, .int 0), (4, .int 112), (0, .ref (av 1)), (1, .int 112), (2, .int 0), (3, .int 5)]) hx hb dJ1_indexOfChar_4cfef_5 hl (by decide) rfl (fun ls hl => ?_)
  refine lv_iload hx hb dJ1_indexOfChar_4cfef_7 (lv_at hl 0 rfl) ?_
  refine lv_iload_n hx hb dJ1_indexOfChar_4cfef_9 rfl (lv_at hl 5 rfl) ?_
  refine lv_icmp_ge (tgt := 31) hx hb dJ1_indexOfChar_4cfef_10 (by decide) (fun h => absurd h (by decide)) (fun _ => ?_)
  refine lv_aload_n hx hb dJ1_indexOfChar_4cfef_13 rfl (lv_at hl 2 rfl) ?_
  refine lv_iload hx hb dJ1_indexOfChar_4cfef_14 (lv_at hl 0 rfl) ?_
  refine va_tb hx hb (hS2.1 1 (by decide)).2.2.2 va_S.rf (i := 0) (vp_in_nI (n := 0) (N := 5) (by decide) (by decide)) (v := .int 111) rfl dJ1_indexOfChar_4cfef_16 ?_
  refine lv_iload hx hb dJ1_indexOfChar_4cfef_17 (lv_at hl 1 rfl) ?_
  refine lv_icmp_ne (tgt := 25) hx hb dJ1_indexOfChar_4cfef_19 (by decide) (fun _ => ?_) (fun h => absurd h (by decide))
  refine lv_iinc (v := 1) (lv' := [(5, .int 1), (4, .int 112), (0, .ref (av 1)), (1, .int 112), (2, .int 0), (3, .int 5)]) hx hb dJ1_indexOfChar_4cfef_25 hl (k := 0) rfl (by decide) (by decide) rfl (fun ls hl => ?_)
  refine lv_goto (tgt := 7) hx hb dJ1_indexOfChar_4cfef_28 (by decide) ?_
  refine lv_iload hx hb dJ1_indexOfChar_4cfef_7 (lv_at hl 0 rfl) ?_
  refine lv_iload_n hx hb dJ1_indexOfChar_4cfef_9 rfl (lv_at hl 5 rfl) ?_
  refine lv_icmp_ge (tgt := 31) hx hb dJ1_indexOfChar_4cfef_10 (by decide) (fun h => absurd h (by decide)) (fun _ => ?_)
  refine lv_aload_n hx hb dJ1_indexOfChar_4cfef_13 rfl (lv_at hl 2 rfl) ?_
  refine lv_iload hx hb dJ1_indexOfChar_4cfef_14 (lv_at hl 0 rfl) ?_
  refine va_tb hx hb (hS2.1 1 (by decide)).2.2.2 va_S.rf (i := 1) (vp_in_nI (n := 1) (N := 5) (by decide) (by decide)) (v := .int 112) rfl dJ1_indexOfChar_4cfef_16 ?_
  refine lv_iload hx hb dJ1_indexOfChar_4cfef_17 (lv_at hl 1 rfl) ?_
  refine lv_icmp_ne (tgt := 25) hx hb dJ1_indexOfChar_4cfef_19 (by decide) (fun h => absurd h (by decide)) (fun _ => ?_)
  refine lv_iload hx hb dJ1_indexOfChar_4cfef_22 (lv_at hl 0 rfl) ?_
  exact ze_i hx hb hr hlocks rfl dJ1_indexOfChar_4cfef_24
set_option maxRecDepth 100000 in
set_option maxHeartbeats 4000000 in
theorem ctJ1_indexOf_4cfef_1 (l : Launch) (ak av : Nat → Nat) : Met l yJ1_indexOf_4cfef (zw yJ1_indexOf_4cfef cJ1_indexOf_4cfef 4 (some .int)) (zrm 2) (va_Pc [.ref (av 1), .int 112, .int 0, .int 5] (zBS ak av)) (zqR (.int 1)) 0 0 (fun _ => False) := by
  refine zmet (by decide) rfl (Nat.le_of_ble_eq_true rfl) rfl (fun p e s m below meth c ls X hml hr hlocks hv hl => ?_)
  obtain ⟨hS2, hZ, hZq⟩ := id hv
  obtain ⟨hx, hb, -, -⟩ := id X
  have hl : lv_has ls 4 [(0, .ref (av 1)), (1, .int 112), (2, .int 0), (3, .int 5)] := hl
  refine lv_iload_n hx hb dJ1_indexOf_4cfef_0 rfl (lv_at hl 1 rfl) ?_
  refine zcallSj (As := [.int 112]) (rest := []) X hml hv (ctJ1_canEncode_9a6ad_1 l ak av) zmJ1_canEncode_9a6ad (by decide) m_1053 ⟨(Nat.le_of_ble_eq_true rfl), (Nat.le_of_ble_eq_true rfl)⟩ ⟨(Nat.le_of_ble_eq_true rfl), (Nat.le_of_ble_eq_true rfl)⟩ rfl hl.1 rfl (Nat.le_of_ble_eq_true rfl) dJ1_indexOf_4cfef_1 ?_
  refine zb_ne (tgt := 9) hx hb dJ1_indexOf_4cfef_4 (by decide) (fun _ => ?_) (fun h => absurd h (by decide))
  refine lv_iload_n hx hb dJ1_indexOf_4cfef_9 rfl (lv_at hl 2 rfl) ?_
  refine lv_iconst (v := 0) hx hb dJ1_indexOf_4cfef_10 (by decide) ?_
  refine z_max (x := 0) (y := 0) X hml hl.1 m_1056 ⟨(Nat.le_of_ble_eq_true rfl), (Nat.le_of_ble_eq_true rfl)⟩ ⟨Nat.zero_le _, Nat.zero_le _⟩ (Nat.le_of_ble_eq_true rfl) dJ1_indexOf_4cfef_11 ?_
  rw [show k_max 0 0 = 0 from by decide]
  refine lv_istore_n (lv' := [(2, .int 0), (0, .ref (av 1)), (1, .int 112), (3, .int 5)]) hx hb dJ1_indexOf_4cfef_14 rfl hl (by decide) rfl (fun ls hl => ?_)
  refine lv_iload_n hx hb dJ1_indexOf_4cfef_15 rfl (lv_at hl 3 rfl) ?_
  refine lv_aload_n hx hb dJ1_indexOf_4cfef_16 rfl (lv_at hl 1 rfl) ?_
  refine va_tlen hx hb (hS2.1 1 (by decide)).2.2.2 va_S.rf (v := 5) rfl dJ1_indexOf_4cfef_17 ?_
  refine va_mmin X.1 X.2.1 (hml.trans hl.1.symm) X.2.2.1 (X.2.2.2 _ m_1057) (X.2.2.2 _ m_1058) (X.2.2.2 _ m_19) (X.2.2.2 _ m_1059) (Nat.le_of_ble_eq_true rfl) (Nat.le_of_ble_eq_true rfl) (Nat.zero_le _) (Nat.zero_le _) (x := 5) (y := 5) dJ1_indexOf_4cfef_18 ?_
  rw [show (if (5 : Int32) < 5 then (5 : Int32) else 5) = 5 from by decide]
  refine lv_istore_n (lv' := [(3, .int 5), (2, .int 0), (0, .ref (av 1)), (1, .int 112)]) hx hb dJ1_indexOf_4cfef_21 rfl hl (by decide) rfl (fun ls hl => ?_)
  refine lv_iload_n hx hb dJ1_indexOf_4cfef_22 rfl (lv_at hl 1 rfl) ?_
  refine lv_iload_n hx hb dJ1_indexOf_4cfef_23 rfl (lv_at hl 0 rfl) ?_
  refine lv_icmp_lt (tgt := 29) hx hb dJ1_indexOf_4cfef_24 (by decide) (fun _ => ?_) (fun h => absurd h (by decide))
  refine lv_aload_n hx hb dJ1_indexOf_4cfef_29 rfl (lv_at hl 2 rfl) ?_
  refine lv_iload_n hx hb dJ1_indexOf_4cfef_30 rfl (lv_at hl 3 rfl) ?_
  refine lv_iload_n hx hb dJ1_indexOf_4cfef_31 rfl (lv_at hl 1 rfl) ?_
  refine lv_iload_n hx hb dJ1_indexOf_4cfef_32 rfl (lv_at hl 0 rfl) ?_
  refine zcallSj (As := [.ref (av 1), .int 112, .int 0, .int 5]) (rest := []) X hml hv (ctJ1_indexOfChar_4cfef_1 l ak av) zmJ1_indexOfChar_4cfef (by decide) m_1060 ⟨(Nat.le_of_ble_eq_true rfl), (Nat.le_of_ble_eq_true rfl)⟩ ⟨(Nat.le_of_ble_eq_true rfl), (Nat.le_of_ble_eq_true rfl)⟩ rfl hl.1 rfl (Nat.le_of_ble_eq_true rfl) dJ1_indexOf_4cfef_33 ?_
  exact ze_i hx hb hr hlocks rfl dJ1_indexOf_4cfef_36
set_option maxRecDepth 100000 in
set_option maxHeartbeats 4000000 in
theorem ctJ0_indexOf_7cf53_1 (l : Launch) (ak av : Nat → Nat) : Met l yJ0_indexOf_7cf53 (zw yJ0_indexOf_7cf53 cJ0_indexOf_7cf53 3 (some .int)) (zrm 3) (va_Pc [.ref (ak 1), .int 112, .int 0] (zBS ak av)) (zqR (.int 1)) 0 0 (fun _ => False) := by
  refine zmet (by decide) rfl (Nat.le_of_ble_eq_true rfl) rfl (fun p e s m below meth c ls X hml hr hlocks hv hl => ?_)
  obtain ⟨hS2, hZ, hZq⟩ := id hv
  obtain ⟨hx, hb, -, -⟩ := id X
  have hl : lv_has ls 3 [(0, .ref (ak 1)), (1, .int 112), (2, .int 0)] := hl
  refine lv_aload_n hx hb dJ0_indexOf_7cf53_0 rfl (lv_at hl 0 rfl) ?_
  refine zcallVj (As := []) (rest := []) X hml hv (ctJ0_isLatin1_aae02_1 l ak av) zmJ0_isLatin1_aae02 (by decide) m_958 (va_Orecv (hS2.1 1 (by decide)).1 va_S.rf) ⟨(Nat.le_of_ble_eq_true rfl), (Nat.le_of_ble_eq_true rfl)⟩ ⟨(Nat.le_of_ble_eq_true rfl), (Nat.le_of_ble_eq_true rfl)⟩ rfl hl.1 rfl (Nat.le_of_ble_eq_true rfl) dJ0_indexOf_7cf53_1 ?_
  refine zb_eq (tgt := 23) hx hb dJ0_indexOf_7cf53_4 (by decide) (fun h => absurd h (by decide)) (fun _ => ?_)
  refine lv_aload_n hx hb dJ0_indexOf_7cf53_7 rfl (lv_at hl 0 rfl) ?_
  refine vk_getf hx hb (hS2.1 1 (by decide)).2.2.1 va_S.rf X.2.2.1 (X.2.2.2 _ m_1246) (fun _ h => h) dJ0_indexOf_7cf53_8 ?_
  refine lv_iload_n hx hb dJ0_indexOf_7cf53_11 rfl (lv_at hl 1 rfl) ?_
  refine lv_iload_n hx hb dJ0_indexOf_7cf53_12 rfl (lv_at hl 2 rfl) ?_
  refine lv_aload_n hx hb dJ0_indexOf_7cf53_13 rfl (lv_at hl 0 rfl) ?_
  refine zcallVj (As := []) (rest := [.int 0, .int 112, .ref (av 1)]) X hml hv (ctJ0_length_8abf5 l ak av) zmJ0_length_8abf5 (by decide) m_1042 (va_Orecv (hS2.1 1 (by decide)).1 va_S.rf) ⟨(Nat.le_of_ble_eq_true rfl), (Nat.le_of_ble_eq_true rfl)⟩ ⟨(Nat.le_of_ble_eq_true rfl), (Nat.le_of_ble_eq_true rfl)⟩ rfl hl.1 rfl (Nat.le_of_ble_eq_true rfl) dJ0_indexOf_7cf53_14 ?_
  refine zcallSj (As := [.ref (av 1), .int 112, .int 0, .int 5]) (rest := []) X hml hv (ctJ1_indexOf_4cfef_1 l ak av) zmJ1_indexOf_4cfef (by decide) m_1050 ⟨(Nat.le_of_ble_eq_true rfl), (Nat.le_of_ble_eq_true rfl)⟩ ⟨(Nat.le_of_ble_eq_true rfl), (Nat.le_of_ble_eq_true rfl)⟩ rfl hl.1 rfl (Nat.le_of_ble_eq_true rfl) dJ0_indexOf_7cf53_17 ?_
  refine lv_goto (tgt := 36) hx hb dJ0_indexOf_7cf53_20 (by decide) ?_
  exact ze_i hx hb hr hlocks rfl dJ0_indexOf_7cf53_36
set_option maxRecDepth 100000 in
set_option maxHeartbeats 4000000 in
theorem ctJ0_indexOf_0f7a4_1 (l : Launch) (ak av : Nat → Nat) : Met l yJ0_indexOf_0f7a4 (zw yJ0_indexOf_0f7a4 cJ0_indexOf_0f7a4 2 (some .int)) (zrm 4) (va_Pc [.ref (ak 1), .int 112] (zBS ak av)) (zqR (.int 1)) 0 0 (fun _ => False) := by
  refine zmet (by decide) rfl (Nat.le_of_ble_eq_true rfl) rfl (fun p e s m below meth c ls X hml hr hlocks hv hl => ?_)
  obtain ⟨hS2, hZ, hZq⟩ := id hv
  obtain ⟨hx, hb, -, -⟩ := id X
  have hl : lv_has ls 2 [(0, .ref (ak 1)), (1, .int 112)] := hl
  refine lv_aload_n hx hb dJ0_indexOf_0f7a4_0 rfl (lv_at hl 0 rfl) ?_
  refine lv_iload_n hx hb dJ0_indexOf_0f7a4_1 rfl (lv_at hl 1 rfl) ?_
  refine lv_iconst (v := 0) hx hb dJ0_indexOf_0f7a4_2 (by decide) ?_
  refine zcallVj (As := [.int 112, .int 0]) (rest := []) X hml hv (ctJ0_indexOf_7cf53_1 l ak av) zmJ0_indexOf_7cf53 (by decide) m_1038 (va_Orecv (hS2.1 1 (by decide)).1 va_S.rf) ⟨(Nat.le_of_ble_eq_true rfl), (Nat.le_of_ble_eq_true rfl)⟩ ⟨(Nat.le_of_ble_eq_true rfl), (Nat.le_of_ble_eq_true rfl)⟩ rfl hl.1 rfl (Nat.le_of_ble_eq_true rfl) dJ0_indexOf_0f7a4_3 ?_
  exact ze_i hx hb hr hlocks rfl dJ0_indexOf_0f7a4_6
set_option maxRecDepth 100000 in
set_option maxHeartbeats 4000000 in
theorem ctJ1_canEncode_9a6ad_2 (l : Launch) (ak av : Nat → Nat) : Met l yJ1_canEncode_9a6ad (zw yJ1_canEncode_9a6ad cJ1_canEncode_9a6ad 1 (some .boolean)) (zrm 0) (va_Pc [.int 107] (zBS ak av)) (zqR (.int (bI true))) 0 0 (fun _ => False) := by
  refine zmet (by decide) rfl (Nat.le_of_ble_eq_true rfl) rfl (fun p e s m below meth c ls X hml hr hlocks hv hl => ?_)
  obtain ⟨hS2, hZ, hZq⟩ := id hv
  obtain ⟨hx, hb, -, -⟩ := id X
  have hl : lv_has ls 1 [(0, .int 107)] := hl
  refine lv_iload_n hx hb dJ1_canEncode_9a6ad_0 rfl (lv_at hl 0 rfl) ?_
  refine lv_if_lt (tgt := 15) hx hb dJ1_canEncode_9a6ad_1 (by decide) (fun h => absurd h (by decide)) (fun _ => ?_)
  refine lv_iload_n hx hb dJ1_canEncode_9a6ad_4 rfl (lv_at hl 0 rfl) ?_
  refine lv_sipush (v := 255) hx hb dJ1_canEncode_9a6ad_5 (by decide) ?_
  refine lv_icmp_gt (tgt := 15) hx hb dJ1_canEncode_9a6ad_8 (by decide) (fun h => absurd h (by decide)) (fun _ => ?_)
  refine lv_iconst (v := 1) hx hb dJ1_canEncode_9a6ad_11 (by decide) ?_
  refine lv_goto (tgt := 16) hx hb dJ1_canEncode_9a6ad_12 (by decide) ?_
  exact ze_z hx hb hr hlocks rfl dJ1_canEncode_9a6ad_16
set_option maxRecDepth 100000 in
set_option maxHeartbeats 4000000 in
theorem ctJ1_indexOfChar_4cfef_2 (l : Launch) (ak av : Nat → Nat) : Met l yJ1_indexOfChar_4cfef (zw yJ1_indexOfChar_4cfef cJ1_indexOfChar_4cfef 6 (some .int)) (zrm 0) (va_Pc [.ref (av 1), .int 107, .int 0, .int 5] (zBS ak av)) (zqR (.int 2)) 0 0 (fun _ => False) := by
  refine zmet (by decide) rfl (Nat.le_of_ble_eq_true rfl) rfl (fun p e s m below meth c ls X hml hr hlocks hv hl => ?_)
  obtain ⟨hS2, hZ, hZq⟩ := id hv
  obtain ⟨hx, hb, -, -⟩ := id X
  have hl : lv_has ls 6 [(0, .ref (av 1)), (1, .int 107), (2, .int 0), (3, .int 5)] := hl
  refine lv_iload_n hx hb dJ1_indexOfChar_4cfef_0 rfl (lv_at hl 1 rfl) ?_
  refine lv_i2b (v := 107) hx hb dJ1_indexOfChar_4cfef_1 (by decide) ?_
  refine lv_istore (lv' := [(4, .int 107), (0, .ref (av 1)), (1, .int 107), (2, .int 0), (3, .int 5)]) hx hb dJ1_indexOfChar_4cfef_2 hl (by decide) rfl (fun ls hl => ?_)
  refine lv_iload_n hx hb dJ1_indexOfChar_4cfef_4 rfl (lv_at hl 3 rfl) ?_
  refine lv_istore (lv' := [(5, .int 0), (4, .int 107), (0, .ref (av 1)), (1, .int 107), (2, .int 0), (3, .int 5)]) hx hb dJ1_indexOfChar_4cfef_5 hl (by decide) rfl (fun ls hl => ?_)
  refine lv_iload hx hb dJ1_indexOfChar_4cfef_7 (lv_at hl 0 rfl) ?_
  refine lv_iload_n hx hb dJ1_indexOfChar_4cfef_9 rfl (lv_at hl 5 rfl) ?_
  refine lv_icmp_ge (tgt := 31) hx hb dJ1_indexOfChar_4cfef_10 (by decide) (fun h => absurd h (by decide)) (fun _ => ?_)
  refine lv_aload_n hx hb dJ1_indexOfChar_4cfef_13 rfl (lv_at hl 2 rfl) ?_
  refine lv_iload hx hb dJ1_indexOfChar_4cfef_14 (lv_at hl 0 rfl) ?_
  refine va_tb hx hb (hS2.1 1 (by decide)).2.2.2 va_S.rf (i := 0) (vp_in_nI (n := 0) (N := 5) (by decide) (by decide)) (v := .int 111) rfl dJ1_indexOfChar_4cfef_16 ?_
  refine lv_iload hx hb dJ1_indexOfChar_4cfef_17 (lv_at hl 1 rfl) ?_
  refine lv_icmp_ne (tgt := 25) hx hb dJ1_indexOfChar_4cfef_19 (by decide) (fun _ => ?_) (fun h => absurd h (by decide))
  refine lv_iinc (v := 1) (lv' := [(5, .int 1), (4, .int 107), (0, .ref (av 1)), (1, .int 107), (2, .int 0), (3, .int 5)]) hx hb dJ1_indexOfChar_4cfef_25 hl (k := 0) rfl (by decide) (by decide) rfl (fun ls hl => ?_)
  refine lv_goto (tgt := 7) hx hb dJ1_indexOfChar_4cfef_28 (by decide) ?_
  refine lv_iload hx hb dJ1_indexOfChar_4cfef_7 (lv_at hl 0 rfl) ?_
  refine lv_iload_n hx hb dJ1_indexOfChar_4cfef_9 rfl (lv_at hl 5 rfl) ?_
  refine lv_icmp_ge (tgt := 31) hx hb dJ1_indexOfChar_4cfef_10 (by decide) (fun h => absurd h (by decide)) (fun _ => ?_)
  refine lv_aload_n hx hb dJ1_indexOfChar_4cfef_13 rfl (lv_at hl 2 rfl) ?_
  refine lv_iload hx hb dJ1_indexOfChar_4cfef_14 (lv_at hl 0 rfl) ?_
  refine va_tb hx hb (hS2.1 1 (by decide)).2.2.2 va_S.rf (i := 1) (vp_in_nI (n := 1) (N := 5) (by decide) (by decide)) (v := .int 112) rfl dJ1_indexOfChar_4cfef_16 ?_
  refine lv_iload hx hb dJ1_indexOfChar_4cfef_17 (lv_at hl 1 rfl) ?_
  refine lv_icmp_ne (tgt := 25) hx hb dJ1_indexOfChar_4cfef_19 (by decide) (fun _ => ?_) (fun h => absurd h (by decide))
  refine lv_iinc (v := 2) (lv' := [(5, .int 2), (4, .int 107), (0, .ref (av 1)), (1, .int 107), (2, .int 0), (3, .int 5)]) hx hb dJ1_indexOfChar_4cfef_25 hl (k := 0) rfl (by decide) (by decide) rfl (fun ls hl => ?_)
  refine lv_goto (tgt := 7) hx hb dJ1_indexOfChar_4cfef_28 (by decide) ?_
  refine lv_iload hx hb dJ1_indexOfChar_4cfef_7 (lv_at hl 0 rfl) ?_
  refine lv_iload_n hx hb dJ1_indexOfChar_4cfef_9 rfl (lv_at hl 5 rfl) ?_
  refine lv_icmp_ge (tgt := 31) hx hb dJ1_indexOfChar_4cfef_10 (by decide) (fun h => absurd h (by decide)) (fun _ => ?_)
  refine lv_aload_n hx hb dJ1_indexOfChar_4cfef_13 rfl (lv_at hl 2 rfl) ?_
  refine lv_iload hx hb dJ1_indexOfChar_4cfef_14 (lv_at hl 0 rfl) ?_
  refine va_tb hx hb (hS2.1 1 (by decide)).2.2.2 va_S.rf (i := 2) (vp_in_nI (n := 2) (N := 5) (by decide) (by decide)) (v := .int 107) rfl dJ1_indexOfChar_4cfef_16 ?_
  refine lv_iload hx hb dJ1_indexOfChar_4cfef_17 (lv_at hl 1 rfl) ?_
  refine lv_icmp_ne (tgt := 25) hx hb dJ1_indexOfChar_4cfef_19 (by decide) (fun h => absurd h (by decide)) (fun _ => ?_)
  refine lv_iload hx hb dJ1_indexOfChar_4cfef_22 (lv_at hl 0 rfl) ?_
  exact ze_i hx hb hr hlocks rfl dJ1_indexOfChar_4cfef_24
set_option maxRecDepth 100000 in
set_option maxHeartbeats 4000000 in
theorem ctJ1_indexOf_4cfef_2 (l : Launch) (ak av : Nat → Nat) : Met l yJ1_indexOf_4cfef (zw yJ1_indexOf_4cfef cJ1_indexOf_4cfef 4 (some .int)) (zrm 2) (va_Pc [.ref (av 1), .int 107, .int 0, .int 5] (zBS ak av)) (zqR (.int 2)) 0 0 (fun _ => False) := by
  refine zmet (by decide) rfl (Nat.le_of_ble_eq_true rfl) rfl (fun p e s m below meth c ls X hml hr hlocks hv hl => ?_)
  obtain ⟨hS2, hZ, hZq⟩ := id hv
  obtain ⟨hx, hb, -, -⟩ := id X
  have hl : lv_has ls 4 [(0, .ref (av 1)), (1, .int 107), (2, .int 0), (3, .int 5)] := hl
  refine lv_iload_n hx hb dJ1_indexOf_4cfef_0 rfl (lv_at hl 1 rfl) ?_
  refine zcallSj (As := [.int 107]) (rest := []) X hml hv (ctJ1_canEncode_9a6ad_2 l ak av) zmJ1_canEncode_9a6ad (by decide) m_1053 ⟨(Nat.le_of_ble_eq_true rfl), (Nat.le_of_ble_eq_true rfl)⟩ ⟨(Nat.le_of_ble_eq_true rfl), (Nat.le_of_ble_eq_true rfl)⟩ rfl hl.1 rfl (Nat.le_of_ble_eq_true rfl) dJ1_indexOf_4cfef_1 ?_
  refine zb_ne (tgt := 9) hx hb dJ1_indexOf_4cfef_4 (by decide) (fun _ => ?_) (fun h => absurd h (by decide))
  refine lv_iload_n hx hb dJ1_indexOf_4cfef_9 rfl (lv_at hl 2 rfl) ?_
  refine lv_iconst (v := 0) hx hb dJ1_indexOf_4cfef_10 (by decide) ?_
  refine z_max (x := 0) (y := 0) X hml hl.1 m_1056 ⟨(Nat.le_of_ble_eq_true rfl), (Nat.le_of_ble_eq_true rfl)⟩ ⟨Nat.zero_le _, Nat.zero_le _⟩ (Nat.le_of_ble_eq_true rfl) dJ1_indexOf_4cfef_11 ?_
  rw [show k_max 0 0 = 0 from by decide]
  refine lv_istore_n (lv' := [(2, .int 0), (0, .ref (av 1)), (1, .int 107), (3, .int 5)]) hx hb dJ1_indexOf_4cfef_14 rfl hl (by decide) rfl (fun ls hl => ?_)
  refine lv_iload_n hx hb dJ1_indexOf_4cfef_15 rfl (lv_at hl 3 rfl) ?_
  refine lv_aload_n hx hb dJ1_indexOf_4cfef_16 rfl (lv_at hl 1 rfl) ?_
  refine va_tlen hx hb (hS2.1 1 (by decide)).2.2.2 va_S.rf (v := 5) rfl dJ1_indexOf_4cfef_17 ?_
  refine va_mmin X.1 X.2.1 (hml.trans hl.1.symm) X.2.2.1 (X.2.2.2 _ m_1057) (X.2.2.2 _ m_1058) (X.2.2.2 _ m_19) (X.2.2.2 _ m_1059) (Nat.le_of_ble_eq_true rfl) (Nat.le_of_ble_eq_true rfl) (Nat.zero_le _) (Nat.zero_le _) (x := 5) (y := 5) dJ1_indexOf_4cfef_18 ?_
  rw [show (if (5 : Int32) < 5 then (5 : Int32) else 5) = 5 from by decide]
  refine lv_istore_n (lv' := [(3, .int 5), (2, .int 0), (0, .ref (av 1)), (1, .int 107)]) hx hb dJ1_indexOf_4cfef_21 rfl hl (by decide) rfl (fun ls hl => ?_)
  refine lv_iload_n hx hb dJ1_indexOf_4cfef_22 rfl (lv_at hl 1 rfl) ?_
  refine lv_iload_n hx hb dJ1_indexOf_4cfef_23 rfl (lv_at hl 0 rfl) ?_
  refine lv_icmp_lt (tgt := 29) hx hb dJ1_indexOf_4cfef_24 (by decide) (fun _ => ?_) (fun h => absurd h (by decide))
  refine lv_aload_n hx hb dJ1_indexOf_4cfef_29 rfl (lv_at hl 2 rfl) ?_
  refine lv_iload_n hx hb dJ1_indexOf_4cfef_30 rfl (lv_at hl 3 rfl) ?_
  refine lv_iload_n hx hb dJ1_indexOf_4cfef_31 rfl (lv_at hl 1 rfl) ?_
  refine lv_iload_n hx hb dJ1_indexOf_4cfef_32 rfl (lv_at hl 0 rfl) ?_
  refine zcallSj (As := [.ref (av 1), .int 107, .int 0, .int 5]) (rest := []) X hml hv (ctJ1_indexOfChar_4cfef_2 l ak av) zmJ1_indexOfChar_4cfef (by decide) m_1060 ⟨(Nat.le_of_ble_eq_true rfl), (Nat.le_of_ble_eq_true rfl)⟩ ⟨(Nat.le_of_ble_eq_true rfl), (Nat.le_of_ble_eq_true rfl)⟩ rfl hl.1 rfl (Nat.le_of_ble_eq_true rfl) dJ1_indexOf_4cfef_33 ?_
  exact ze_i hx hb hr hlocks rfl dJ1_indexOf_4cfef_36
set_option maxRecDepth 100000 in
set_option maxHeartbeats 4000000 in
theorem ctJ0_indexOf_7cf53_2 (l : Launch) (ak av : Nat → Nat) : Met l yJ0_indexOf_7cf53 (zw yJ0_indexOf_7cf53 cJ0_indexOf_7cf53 3 (some .int)) (zrm 3) (va_Pc [.ref (ak 1), .int 107, .int 0] (zBS ak av)) (zqR (.int 2)) 0 0 (fun _ => False) := by
  refine zmet (by decide) rfl (Nat.le_of_ble_eq_true rfl) rfl (fun p e s m below meth c ls X hml hr hlocks hv hl => ?_)
  obtain ⟨hS2, hZ, hZq⟩ := id hv
  obtain ⟨hx, hb, -, -⟩ := id X
  have hl : lv_has ls 3 [(0, .ref (ak 1)), (1, .int 107), (2, .int 0)] := hl
  refine lv_aload_n hx hb dJ0_indexOf_7cf53_0 rfl (lv_at hl 0 rfl) ?_
  refine zcallVj (As := []) (rest := []) X hml hv (ctJ0_isLatin1_aae02_1 l ak av) zmJ0_isLatin1_aae02 (by decide) m_958 (va_Orecv (hS2.1 1 (by decide)).1 va_S.rf) ⟨(Nat.le_of_ble_eq_true rfl), (Nat.le_of_ble_eq_true rfl)⟩ ⟨(Nat.le_of_ble_eq_true rfl), (Nat.le_of_ble_eq_true rfl)⟩ rfl hl.1 rfl (Nat.le_of_ble_eq_true rfl) dJ0_indexOf_7cf53_1 ?_
  refine zb_eq (tgt := 23) hx hb dJ0_indexOf_7cf53_4 (by decide) (fun h => absurd h (by decide)) (fun _ => ?_)
  refine lv_aload_n hx hb dJ0_indexOf_7cf53_7 rfl (lv_at hl 0 rfl) ?_
  refine vk_getf hx hb (hS2.1 1 (by decide)).2.2.1 va_S.rf X.2.2.1 (X.2.2.2 _ m_1246) (fun _ h => h) dJ0_indexOf_7cf53_8 ?_
  refine lv_iload_n hx hb dJ0_indexOf_7cf53_11 rfl (lv_at hl 1 rfl) ?_
  refine lv_iload_n hx hb dJ0_indexOf_7cf53_12 rfl (lv_at hl 2 rfl) ?_
  refine lv_aload_n hx hb dJ0_indexOf_7cf53_13 rfl (lv_at hl 0 rfl) ?_
  refine zcallVj (As := []) (rest := [.int 0, .int 107, .ref (av 1)]) X hml hv (ctJ0_length_8abf5 l ak av) zmJ0_length_8abf5 (by decide) m_1042 (va_Orecv (hS2.1 1 (by decide)).1 va_S.rf) ⟨(Nat.le_of_ble_eq_true rfl), (Nat.le_of_ble_eq_true rfl)⟩ ⟨(Nat.le_of_ble_eq_true rfl), (Nat.le_of_ble_eq_true rfl)⟩ rfl hl.1 rfl (Nat.le_of_ble_eq_true rfl) dJ0_indexOf_7cf53_14 ?_
  refine zcallSj (As := [.ref (av 1), .int 107, .int 0, .int 5]) (rest := []) X hml hv (ctJ1_indexOf_4cfef_2 l ak av) zmJ1_indexOf_4cfef (by decide) m_1050 ⟨(Nat.le_of_ble_eq_true rfl), (Nat.le_of_ble_eq_true rfl)⟩ ⟨(Nat.le_of_ble_eq_true rfl), (Nat.le_of_ble_eq_true rfl)⟩ rfl hl.1 rfl (Nat.le_of_ble_eq_true rfl) dJ0_indexOf_7cf53_17 ?_
  refine lv_goto (tgt := 36) hx hb dJ0_indexOf_7cf53_20 (by decide) ?_
  exact ze_i hx hb hr hlocks rfl dJ0_indexOf_7cf53_36
set_option maxRecDepth 100000 in
set_option maxHeartbeats 4000000 in
theorem ctJ0_indexOf_0f7a4_2 (l : Launch) (ak av : Nat → Nat) : Met l yJ0_indexOf_0f7a4 (zw yJ0_indexOf_0f7a4 cJ0_indexOf_0f7a4 2 (some .int)) (zrm 4) (va_Pc [.ref (ak 1), .int 107] (zBS ak av)) (zqR (.int 2)) 0 0 (fun _ => False) := by
  refine zmet (by decide) rfl (Nat.le_of_ble_eq_true rfl) rfl (fun p e s m below meth c ls X hml hr hlocks hv hl => ?_)
  obtain ⟨hS2, hZ, hZq⟩ := id hv
  obtain ⟨hx, hb, -, -⟩ := id X
  have hl : lv_has ls 2 [(0, .ref (ak 1)), (1, .int 107)] := hl
  refine lv_aload_n hx hb dJ0_indexOf_0f7a4_0 rfl (lv_at hl 0 rfl) ?_
  refine lv_iload_n hx hb dJ0_indexOf_0f7a4_1 rfl (lv_at hl 1 rfl) ?_
  refine lv_iconst (v := 0) hx hb dJ0_indexOf_0f7a4_2 (by decide) ?_
  refine zcallVj (As := [.int 107, .int 0]) (rest := []) X hml hv (ctJ0_indexOf_7cf53_2 l ak av) zmJ0_indexOf_7cf53 (by decide) m_1038 (va_Orecv (hS2.1 1 (by decide)).1 va_S.rf) ⟨(Nat.le_of_ble_eq_true rfl), (Nat.le_of_ble_eq_true rfl)⟩ ⟨(Nat.le_of_ble_eq_true rfl), (Nat.le_of_ble_eq_true rfl)⟩ rfl hl.1 rfl (Nat.le_of_ble_eq_true rfl) dJ0_indexOf_0f7a4_3 ?_
  exact ze_i hx hb hr hlocks rfl dJ0_indexOf_0f7a4_6
set_option maxRecDepth 100000 in
set_option maxHeartbeats 4000000 in
theorem ctJ1_canEncode_9a6ad_3 (l : Launch) (ak av : Nat → Nat) : Met l yJ1_canEncode_9a6ad (zw yJ1_canEncode_9a6ad cJ1_canEncode_9a6ad 1 (some .boolean)) (zrm 0) (va_Pc [.int 97] (zBS ak av)) (zqR (.int (bI true))) 0 0 (fun _ => False) := by
  refine zmet (by decide) rfl (Nat.le_of_ble_eq_true rfl) rfl (fun p e s m below meth c ls X hml hr hlocks hv hl => ?_)
  obtain ⟨hS2, hZ, hZq⟩ := id hv
  obtain ⟨hx, hb, -, -⟩ := id X
  have hl : lv_has ls 1 [(0, .int 97)] := hl
  refine lv_iload_n hx hb dJ1_canEncode_9a6ad_0 rfl (lv_at hl 0 rfl) ?_
  refine lv_if_lt (tgt := 15) hx hb dJ1_canEncode_9a6ad_1 (by decide) (fun h => absurd h (by decide)) (fun _ => ?_)
  refine lv_iload_n hx hb dJ1_canEncode_9a6ad_4 rfl (lv_at hl 0 rfl) ?_
  refine lv_sipush (v := 255) hx hb dJ1_canEncode_9a6ad_5 (by decide) ?_
  refine lv_icmp_gt (tgt := 15) hx hb dJ1_canEncode_9a6ad_8 (by decide) (fun h => absurd h (by decide)) (fun _ => ?_)
  refine lv_iconst (v := 1) hx hb dJ1_canEncode_9a6ad_11 (by decide) ?_
  refine lv_goto (tgt := 16) hx hb dJ1_canEncode_9a6ad_12 (by decide) ?_
  exact ze_z hx hb hr hlocks rfl dJ1_canEncode_9a6ad_16
set_option maxRecDepth 100000 in
set_option maxHeartbeats 4000000 in
theorem ctJ1_indexOfChar_4cfef_3 (l : Launch) (ak av : Nat → Nat) : Met l yJ1_indexOfChar_4cfef (zw yJ1_indexOfChar_4cfef cJ1_indexOfChar_4cfef 6 (some .int)) (zrm 0) (va_Pc [.ref (av 1), .int 97, .int 0, .int 5] (zBS ak av)) (zqR (.int 3)) 0 0 (fun _ => False) := by
  refine zmet (by decide) rfl (Nat.le_of_ble_eq_true rfl) rfl (fun p e s m below meth c ls X hml hr hlocks hv hl => ?_)
  obtain ⟨hS2, hZ, hZq⟩ := id hv
  obtain ⟨hx, hb, -, -⟩ := id X
  have hl : lv_has ls 6 [(0, .ref (av 1)), (1, .int 97), (2, .int 0), (3, .int 5)] := hl
  refine lv_iload_n hx hb dJ1_indexOfChar_4cfef_0 rfl (lv_at hl 1 rfl) ?_
  refine lv_i2b (v := 97) hx hb dJ1_indexOfChar_4cfef_1 (by decide) ?_
  refine lv_istore (lv' := [(4, .int 97), (0, .ref (av 1)), (1, .int 97), (2, .int 0), (3, .int 5)]) hx hb dJ1_indexOfChar_4cfef_2 hl (by decide) rfl (fun ls hl => ?_)
  refine lv_iload_n hx hb dJ1_indexOfChar_4cfef_4 rfl (lv_at hl 3 rfl) ?_
  refine lv_istore (lv' := [(5, .int 0), (4, .int 97), (0, .ref (av 1)), (1, .int 97), (2, .int 0), (3, .int 5)]) hx hb dJ1_indexOfChar_4cfef_5 hl (by decide) rfl (fun ls hl => ?_)
  refine lv_iload hx hb dJ1_indexOfChar_4cfef_7 (lv_at hl 0 rfl) ?_
  refine lv_iload_n hx hb dJ1_indexOfChar_4cfef_9 rfl (lv_at hl 5 rfl) ?_
  refine lv_icmp_ge (tgt := 31) hx hb dJ1_indexOfChar_4cfef_10 (by decide) (fun h => absurd h (by decide)) (fun _ => ?_)
  refine lv_aload_n hx hb dJ1_indexOfChar_4cfef_13 rfl (lv_at hl 2 rfl) ?_
  refine lv_iload hx hb dJ1_indexOfChar_4cfef_14 (lv_at hl 0 rfl) ?_
  refine va_tb hx hb (hS2.1 1 (by decide)).2.2.2 va_S.rf (i := 0) (vp_in_nI (n := 0) (N := 5) (by decide) (by decide)) (v := .int 111) rfl dJ1_indexOfChar_4cfef_16 ?_
  refine lv_iload hx hb dJ1_indexOfChar_4cfef_17 (lv_at hl 1 rfl) ?_
  refine lv_icmp_ne (tgt := 25) hx hb dJ1_indexOfChar_4cfef_19 (by decide) (fun _ => ?_) (fun h => absurd h (by decide))
  refine lv_iinc (v := 1) (lv' := [(5, .int 1), (4, .int 97), (0, .ref (av 1)), (1, .int 97), (2, .int 0), (3, .int 5)]) hx hb dJ1_indexOfChar_4cfef_25 hl (k := 0) rfl (by decide) (by decide) rfl (fun ls hl => ?_)
  refine lv_goto (tgt := 7) hx hb dJ1_indexOfChar_4cfef_28 (by decide) ?_
  refine lv_iload hx hb dJ1_indexOfChar_4cfef_7 (lv_at hl 0 rfl) ?_
  refine lv_iload_n hx hb dJ1_indexOfChar_4cfef_9 rfl (lv_at hl 5 rfl) ?_
  refine lv_icmp_ge (tgt := 31) hx hb dJ1_indexOfChar_4cfef_10 (by decide) (fun h => absurd h (by decide)) (fun _ => ?_)
  refine lv_aload_n hx hb dJ1_indexOfChar_4cfef_13 rfl (lv_at hl 2 rfl) ?_
  refine lv_iload hx hb dJ1_indexOfChar_4cfef_14 (lv_at hl 0 rfl) ?_
  refine va_tb hx hb (hS2.1 1 (by decide)).2.2.2 va_S.rf (i := 1) (vp_in_nI (n := 1) (N := 5) (by decide) (by decide)) (v := .int 112) rfl dJ1_indexOfChar_4cfef_16 ?_
  refine lv_iload hx hb dJ1_indexOfChar_4cfef_17 (lv_at hl 1 rfl) ?_
  refine lv_icmp_ne (tgt := 25) hx hb dJ1_indexOfChar_4cfef_19 (by decide) (fun _ => ?_) (fun h => absurd h (by decide))
  refine lv_iinc (v := 2) (lv' := [(5, .int 2), (4, .int 97), (0, .ref (av 1)), (1, .int 97), (2, .int 0), (3, .int 5)]) hx hb dJ1_indexOfChar_4cfef_25 hl (k := 0) rfl (by decide) (by decide) rfl (fun ls hl => ?_)
  refine lv_goto (tgt := 7) hx hb dJ1_indexOfChar_4cfef_28 (by decide) ?_
  refine lv_iload hx hb dJ1_indexOfChar_4cfef_7 (lv_at hl 0 rfl) ?_
  refine lv_iload_n hx hb dJ1_indexOfChar_4cfef_9 rfl (lv_at hl 5 rfl) ?_
  refine lv_icmp_ge (tgt := 31) hx hb dJ1_indexOfChar_4cfef_10 (by decide) (fun h => absurd h (by decide)) (fun _ => ?_)
  refine lv_aload_n hx hb dJ1_indexOfChar_4cfef_13 rfl (lv_at hl 2 rfl) ?_
  refine lv_iload hx hb dJ1_indexOfChar_4cfef_14 (lv_at hl 0 rfl) ?_
  refine va_tb hx hb (hS2.1 1 (by decide)).2.2.2 va_S.rf (i := 2) (vp_in_nI (n := 2) (N := 5) (by decide) (by decide)) (v := .int 107) rfl dJ1_indexOfChar_4cfef_16 ?_
  refine lv_iload hx hb dJ1_indexOfChar_4cfef_17 (lv_at hl 1 rfl) ?_
  refine lv_icmp_ne (tgt := 25) hx hb dJ1_indexOfChar_4cfef_19 (by decide) (fun _ => ?_) (fun h => absurd h (by decide))
  refine lv_iinc (v := 3) (lv' := [(5, .int 3), (4, .int 97), (0, .ref (av 1)), (1, .int 97), (2, .int 0), (3, .int 5)]) hx hb dJ1_indexOfChar_4cfef_25 hl (k := 0) rfl (by decide) (by decide) rfl (fun ls hl => ?_)
  refine lv_goto (tgt := 7) hx hb dJ1_indexOfChar_4cfef_28 (by decide) ?_
  refine lv_iload hx hb dJ1_indexOfChar_4cfef_7 (lv_at hl 0 rfl) ?_
  refine lv_iload_n hx hb dJ1_indexOfChar_4cfef_9 rfl (lv_at hl 5 rfl) ?_
  refine lv_icmp_ge (tgt := 31) hx hb dJ1_indexOfChar_4cfef_10 (by decide) (fun h => absurd h (by decide)) (fun _ => ?_)
  refine lv_aload_n hx hb dJ1_indexOfChar_4cfef_13 rfl (lv_at hl 2 rfl) ?_
  refine lv_iload hx hb dJ1_indexOfChar_4cfef_14 (lv_at hl 0 rfl) ?_
  refine va_tb hx hb (hS2.1 1 (by decide)).2.2.2 va_S.rf (i := 3) (vp_in_nI (n := 3) (N := 5) (by decide) (by decide)) (v := .int 97) rfl dJ1_indexOfChar_4cfef_16 ?_
  refine lv_iload hx hb dJ1_indexOfChar_4cfef_17 (lv_at hl 1 rfl) ?_
  refine lv_icmp_ne (tgt := 25) hx hb dJ1_indexOfChar_4cfef_19 (by decide) (fun h => absurd h (by decide)) (fun _ => ?_)
  refine lv_iload hx hb dJ1_indexOfChar_4cfef_22 (lv_at hl 0 rfl) ?_
  exact ze_i hx hb hr hlocks rfl dJ1_indexOfChar_4cfef_24
set_option maxRecDepth 100000 in
set_option maxHeartbeats 4000000 in
theorem ctJ1_indexOf_4cfef_3 (l : Launch) (ak av : Nat → Nat) : Met l yJ1_indexOf_4cfef (zw yJ1_indexOf_4cfef cJ1_indexOf_4cfef 4 (some .int)) (zrm 2) (va_Pc [.ref (av 1), .int 97, .int 0, .int 5] (zBS ak av)) (zqR (.int 3)) 0 0 (fun _ => False) := by
  refine zmet (by decide) rfl (Nat.le_of_ble_eq_true rfl) rfl (fun p e s m below meth c ls X hml hr hlocks hv hl => ?_)
  obtain ⟨hS2, hZ, hZq⟩ := id hv
  obtain ⟨hx, hb, -, -⟩ := id X
  have hl : lv_has ls 4 [(0, .ref (av 1)), (1, .int 97), (2, .int 0), (3, .int 5)] := hl
  refine lv_iload_n hx hb dJ1_indexOf_4cfef_0 rfl (lv_at hl 1 rfl) ?_
  refine zcallSj (As := [.int 97]) (rest := []) X hml hv (ctJ1_canEncode_9a6ad_3 l ak av) zmJ1_canEncode_9a6ad (by decide) m_1053 ⟨(Nat.le_of_ble_eq_true rfl), (Nat.le_of_ble_eq_true rfl)⟩ ⟨(Nat.le_of_ble_eq_true rfl), (Nat.le_of_ble_eq_true rfl)⟩ rfl hl.1 rfl (Nat.le_of_ble_eq_true rfl) dJ1_indexOf_4cfef_1 ?_
  refine zb_ne (tgt := 9) hx hb dJ1_indexOf_4cfef_4 (by decide) (fun _ => ?_) (fun h => absurd h (by decide))
  refine lv_iload_n hx hb dJ1_indexOf_4cfef_9 rfl (lv_at hl 2 rfl) ?_
  refine lv_iconst (v := 0) hx hb dJ1_indexOf_4cfef_10 (by decide) ?_
  refine z_max (x := 0) (y := 0) X hml hl.1 m_1056 ⟨(Nat.le_of_ble_eq_true rfl), (Nat.le_of_ble_eq_true rfl)⟩ ⟨Nat.zero_le _, Nat.zero_le _⟩ (Nat.le_of_ble_eq_true rfl) dJ1_indexOf_4cfef_11 ?_
  rw [show k_max 0 0 = 0 from by decide]
  refine lv_istore_n (lv' := [(2, .int 0), (0, .ref (av 1)), (1, .int 97), (3, .int 5)]) hx hb dJ1_indexOf_4cfef_14 rfl hl (by decide) rfl (fun ls hl => ?_)
  refine lv_iload_n hx hb dJ1_indexOf_4cfef_15 rfl (lv_at hl 3 rfl) ?_
  refine lv_aload_n hx hb dJ1_indexOf_4cfef_16 rfl (lv_at hl 1 rfl) ?_
  refine va_tlen hx hb (hS2.1 1 (by decide)).2.2.2 va_S.rf (v := 5) rfl dJ1_indexOf_4cfef_17 ?_
  refine va_mmin X.1 X.2.1 (hml.trans hl.1.symm) X.2.2.1 (X.2.2.2 _ m_1057) (X.2.2.2 _ m_1058) (X.2.2.2 _ m_19) (X.2.2.2 _ m_1059) (Nat.le_of_ble_eq_true rfl) (Nat.le_of_ble_eq_true rfl) (Nat.zero_le _) (Nat.zero_le _) (x := 5) (y := 5) dJ1_indexOf_4cfef_18 ?_
  rw [show (if (5 : Int32) < 5 then (5 : Int32) else 5) = 5 from by decide]
  refine lv_istore_n (lv' := [(3, .int 5), (2, .int 0), (0, .ref (av 1)), (1, .int 97)]) hx hb dJ1_indexOf_4cfef_21 rfl hl (by decide) rfl (fun ls hl => ?_)
  refine lv_iload_n hx hb dJ1_indexOf_4cfef_22 rfl (lv_at hl 1 rfl) ?_
  refine lv_iload_n hx hb dJ1_indexOf_4cfef_23 rfl (lv_at hl 0 rfl) ?_
  refine lv_icmp_lt (tgt := 29) hx hb dJ1_indexOf_4cfef_24 (by decide) (fun _ => ?_) (fun h => absurd h (by decide))
  refine lv_aload_n hx hb dJ1_indexOf_4cfef_29 rfl (lv_at hl 2 rfl) ?_
  refine lv_iload_n hx hb dJ1_indexOf_4cfef_30 rfl (lv_at hl 3 rfl) ?_
  refine lv_iload_n hx hb dJ1_indexOf_4cfef_31 rfl (lv_at hl 1 rfl) ?_
  refine lv_iload_n hx hb dJ1_indexOf_4cfef_32 rfl (lv_at hl 0 rfl) ?_
  refine zcallSj (As := [.ref (av 1), .int 97, .int 0, .int 5]) (rest := []) X hml hv (ctJ1_indexOfChar_4cfef_3 l ak av) zmJ1_indexOfChar_4cfef (by decide) m_1060 ⟨(Nat.le_of_ble_eq_true rfl), (Nat.le_of_ble_eq_true rfl)⟩ ⟨(Nat.le_of_ble_eq_true rfl), (Nat.le_of_ble_eq_true rfl)⟩ rfl hl.1 rfl (Nat.le_of_ble_eq_true rfl) dJ1_indexOf_4cfef_33 ?_
  exact ze_i hx hb hr hlocks rfl dJ1_indexOf_4cfef_36
set_option maxRecDepth 100000 in
set_option maxHeartbeats 4000000 in
theorem ctJ0_indexOf_7cf53_3 (l : Launch) (ak av : Nat → Nat) : Met l yJ0_indexOf_7cf53 (zw yJ0_indexOf_7cf53 cJ0_indexOf_7cf53 3 (some .int)) (zrm 3) (va_Pc [.ref (ak 1), .int 97, .int 0] (zBS ak av)) (zqR (.int 3)) 0 0 (fun _ => False) := by
  refine zmet (by decide) rfl (Nat.le_of_ble_eq_true rfl) rfl (fun p e s m below meth c ls X hml hr hlocks hv hl => ?_)
  obtain ⟨hS2, hZ, hZq⟩ := id hv
  obtain ⟨hx, hb, -, -⟩ := id X
  have hl : lv_has ls 3 [(0, .ref (ak 1)), (1, .int 97), (2, .int 0)] := hl
  refine lv_aload_n hx hb dJ0_indexOf_7cf53_0 rfl (lv_at hl 0 rfl) ?_
  refine zcallVj (As := []) (rest := []) X hml hv (ctJ0_isLatin1_aae02_1 l ak av) zmJ0_isLatin1_aae02 (by decide) m_958 (va_Orecv (hS2.1 1 (by decide)).1 va_S.rf) ⟨(Nat.le_of_ble_eq_true rfl), (Nat.le_of_ble_eq_true rfl)⟩ ⟨(Nat.le_of_ble_eq_true rfl), (Nat.le_of_ble_eq_true rfl)⟩ rfl hl.1 rfl (Nat.le_of_ble_eq_true rfl) dJ0_indexOf_7cf53_1 ?_
  refine zb_eq (tgt := 23) hx hb dJ0_indexOf_7cf53_4 (by decide) (fun h => absurd h (by decide)) (fun _ => ?_)
  refine lv_aload_n hx hb dJ0_indexOf_7cf53_7 rfl (lv_at hl 0 rfl) ?_
  refine vk_getf hx hb (hS2.1 1 (by decide)).2.2.1 va_S.rf X.2.2.1 (X.2.2.2 _ m_1246) (fun _ h => h) dJ0_indexOf_7cf53_8 ?_
  refine lv_iload_n hx hb dJ0_indexOf_7cf53_11 rfl (lv_at hl 1 rfl) ?_
  refine lv_iload_n hx hb dJ0_indexOf_7cf53_12 rfl (lv_at hl 2 rfl) ?_
  refine lv_aload_n hx hb dJ0_indexOf_7cf53_13 rfl (lv_at hl 0 rfl) ?_
  refine zcallVj (As := []) (rest := [.int 0, .int 97, .ref (av 1)]) X hml hv (ctJ0_length_8abf5 l ak av) zmJ0_length_8abf5 (by decide) m_1042 (va_Orecv (hS2.1 1 (by decide)).1 va_S.rf) ⟨(Nat.le_of_ble_eq_true rfl), (Nat.le_of_ble_eq_true rfl)⟩ ⟨(Nat.le_of_ble_eq_true rfl), (Nat.le_of_ble_eq_true rfl)⟩ rfl hl.1 rfl (Nat.le_of_ble_eq_true rfl) dJ0_indexOf_7cf53_14 ?_
  refine zcallSj (As := [.ref (av 1), .int 97, .int 0, .int 5]) (rest := []) X hml hv (ctJ1_indexOf_4cfef_3 l ak av) zmJ1_indexOf_4cfef (by decide) m_1050 ⟨(Nat.le_of_ble_eq_true rfl), (Nat.le_of_ble_eq_true rfl)⟩ ⟨(Nat.le_of_ble_eq_true rfl), (Nat.le_of_ble_eq_true rfl)⟩ rfl hl.1 rfl (Nat.le_of_ble_eq_true rfl) dJ0_indexOf_7cf53_17 ?_
  refine lv_goto (tgt := 36) hx hb dJ0_indexOf_7cf53_20 (by decide) ?_
  exact ze_i hx hb hr hlocks rfl dJ0_indexOf_7cf53_36
set_option maxRecDepth 100000 in
set_option maxHeartbeats 4000000 in
theorem ctJ0_indexOf_0f7a4_3 (l : Launch) (ak av : Nat → Nat) : Met l yJ0_indexOf_0f7a4 (zw yJ0_indexOf_0f7a4 cJ0_indexOf_0f7a4 2 (some .int)) (zrm 4) (va_Pc [.ref (ak 1), .int 97] (zBS ak av)) (zqR (.int 3)) 0 0 (fun _ => False) := by
  refine zmet (by decide) rfl (Nat.le_of_ble_eq_true rfl) rfl (fun p e s m below meth c ls X hml hr hlocks hv hl => ?_)
  obtain ⟨hS2, hZ, hZq⟩ := id hv
  obtain ⟨hx, hb, -, -⟩ := id X
  have hl : lv_has ls 2 [(0, .ref (ak 1)), (1, .int 97)] := hl
  refine lv_aload_n hx hb dJ0_indexOf_0f7a4_0 rfl (lv_at hl 0 rfl) ?_
  refine lv_iload_n hx hb dJ0_indexOf_0f7a4_1 rfl (lv_at hl 1 rfl) ?_
  refine lv_iconst (v := 0) hx hb dJ0_indexOf_0f7a4_2 (by decide) ?_
  refine zcallVj (As := [.int 97, .int 0]) (rest := []) X hml hv (ctJ0_indexOf_7cf53_3 l ak av) zmJ0_indexOf_7cf53 (by decide) m_1038 (va_Orecv (hS2.1 1 (by decide)).1 va_S.rf) ⟨(Nat.le_of_ble_eq_true rfl), (Nat.le_of_ble_eq_true rfl)⟩ ⟨(Nat.le_of_ble_eq_true rfl), (Nat.le_of_ble_eq_true rfl)⟩ rfl hl.1 rfl (Nat.le_of_ble_eq_true rfl) dJ0_indexOf_0f7a4_3 ?_
  exact ze_i hx hb hr hlocks rfl dJ0_indexOf_0f7a4_6
set_option maxRecDepth 100000 in
set_option maxHeartbeats 4000000 in
theorem ctJ1_canEncode_9a6ad_4 (l : Launch) (ak av : Nat → Nat) : Met l yJ1_canEncode_9a6ad (zw yJ1_canEncode_9a6ad cJ1_canEncode_9a6ad 1 (some .boolean)) (zrm 0) (va_Pc [.int 104] (zBS ak av)) (zqR (.int (bI true))) 0 0 (fun _ => False) := by
  refine zmet (by decide) rfl (Nat.le_of_ble_eq_true rfl) rfl (fun p e s m below meth c ls X hml hr hlocks hv hl => ?_)
  obtain ⟨hS2, hZ, hZq⟩ := id hv
  obtain ⟨hx, hb, -, -⟩ := id X
  have hl : lv_has ls 1 [(0, .int 104)] := hl
  refine lv_iload_n hx hb dJ1_canEncode_9a6ad_0 rfl (lv_at hl 0 rfl) ?_
  refine lv_if_lt (tgt := 15) hx hb dJ1_canEncode_9a6ad_1 (by decide) (fun h => absurd h (by decide)) (fun _ => ?_)
  refine lv_iload_n hx hb dJ1_canEncode_9a6ad_4 rfl (lv_at hl 0 rfl) ?_
  refine lv_sipush (v := 255) hx hb dJ1_canEncode_9a6ad_5 (by decide) ?_
  refine lv_icmp_gt (tgt := 15) hx hb dJ1_canEncode_9a6ad_8 (by decide) (fun h => absurd h (by decide)) (fun _ => ?_)
  refine lv_iconst (v := 1) hx hb dJ1_canEncode_9a6ad_11 (by decide) ?_
  refine lv_goto (tgt := 16) hx hb dJ1_canEncode_9a6ad_12 (by decide) ?_
  exact ze_z hx hb hr hlocks rfl dJ1_canEncode_9a6ad_16
set_option maxRecDepth 100000 in
set_option maxHeartbeats 4000000 in
theorem ctJ1_indexOfChar_4cfef_4 (l : Launch) (ak av : Nat → Nat) : Met l yJ1_indexOfChar_4cfef (zw yJ1_indexOfChar_4cfef cJ1_indexOfChar_4cfef 6 (some .int)) (zrm 0) (va_Pc [.ref (av 1), .int 104, .int 0, .int 5] (zBS ak av)) (zqR (.int 4)) 0 0 (fun _ => False) := by
  refine zmet (by decide) rfl (Nat.le_of_ble_eq_true rfl) rfl (fun p e s m below meth c ls X hml hr hlocks hv hl => ?_)
  obtain ⟨hS2, hZ, hZq⟩ := id hv
  obtain ⟨hx, hb, -, -⟩ := id X
  have hl : lv_has ls 6 [(0, .ref (av 1)), (1, .int 104), (2, .int 0), (3, .int 5)] := hl
  refine lv_iload_n hx hb dJ1_indexOfChar_4cfef_0 rfl (lv_at hl 1 rfl) ?_
  refine lv_i2b (v := 104) hx hb dJ1_indexOfChar_4cfef_1 (by decide) ?_
  refine lv_istore (lv' := [(4, .int 104), (0, .ref (av 1)), (1, .int 104), (2, .int 0), (3, .int 5)]) hx hb dJ1_indexOfChar_4cfef_2 hl (by decide) rfl (fun ls hl => ?_)
  refine lv_iload_n hx hb dJ1_indexOfChar_4cfef_4 rfl (lv_at hl 3 rfl) ?_
  refine lv_istore (lv' := [(5, .int 0), (4, .int 104), (0, .ref (av 1)), (1, .int 104), (2, .int 0), (3, .int 5)]) hx hb dJ1_indexOfChar_4cfef_5 hl (by decide) rfl (fun ls hl => ?_)
  refine lv_iload hx hb dJ1_indexOfChar_4cfef_7 (lv_at hl 0 rfl) ?_
  refine lv_iload_n hx hb dJ1_indexOfChar_4cfef_9 rfl (lv_at hl 5 rfl) ?_
  refine lv_icmp_ge (tgt := 31) hx hb dJ1_indexOfChar_4cfef_10 (by decide) (fun h => absurd h (by decide)) (fun _ => ?_)
  refine lv_aload_n hx hb dJ1_indexOfChar_4cfef_13 rfl (lv_at hl 2 rfl) ?_
  refine lv_iload hx hb dJ1_indexOfChar_4cfef_14 (lv_at hl 0 rfl) ?_
  refine va_tb hx hb (hS2.1 1 (by decide)).2.2.2 va_S.rf (i := 0) (vp_in_nI (n := 0) (N := 5) (by decide) (by decide)) (v := .int 111) rfl dJ1_indexOfChar_4cfef_16 ?_
  refine lv_iload hx hb dJ1_indexOfChar_4cfef_17 (lv_at hl 1 rfl) ?_
  refine lv_icmp_ne (tgt := 25) hx hb dJ1_indexOfChar_4cfef_19 (by decide) (fun _ => ?_) (fun h => absurd h (by decide))
  refine lv_iinc (v := 1) (lv' := [(5, .int 1), (4, .int 104), (0, .ref (av 1)), (1, .int 104), (2, .int 0), (3, .int 5)]) hx hb dJ1_indexOfChar_4cfef_25 hl (k := 0) rfl (by decide) (by decide) rfl (fun ls hl => ?_)
  refine lv_goto (tgt := 7) hx hb dJ1_indexOfChar_4cfef_28 (by decide) ?_
  refine lv_iload hx hb dJ1_indexOfChar_4cfef_7 (lv_at hl 0 rfl) ?_
  refine lv_iload_n hx hb dJ1_indexOfChar_4cfef_9 rfl (lv_at hl 5 rfl) ?_
  refine lv_icmp_ge (tgt := 31) hx hb dJ1_indexOfChar_4cfef_10 (by decide) (fun h => absurd h (by decide)) (fun _ => ?_)
  refine lv_aload_n hx hb dJ1_indexOfChar_4cfef_13 rfl (lv_at hl 2 rfl) ?_
  refine lv_iload hx hb dJ1_indexOfChar_4cfef_14 (lv_at hl 0 rfl) ?_
  refine va_tb hx hb (hS2.1 1 (by decide)).2.2.2 va_S.rf (i := 1) (vp_in_nI (n := 1) (N := 5) (by decide) (by decide)) (v := .int 112) rfl dJ1_indexOfChar_4cfef_16 ?_
  refine lv_iload hx hb dJ1_indexOfChar_4cfef_17 (lv_at hl 1 rfl) ?_
  refine lv_icmp_ne (tgt := 25) hx hb dJ1_indexOfChar_4cfef_19 (by decide) (fun _ => ?_) (fun h => absurd h (by decide))
  refine lv_iinc (v := 2) (lv' := [(5, .int 2), (4, .int 104), (0, .ref (av 1)), (1, .int 104), (2, .int 0), (3, .int 5)]) hx hb dJ1_indexOfChar_4cfef_25 hl (k := 0) rfl (by decide) (by decide) rfl (fun ls hl => ?_)
  refine lv_goto (tgt := 7) hx hb dJ1_indexOfChar_4cfef_28 (by decide) ?_
  refine lv_iload hx hb dJ1_indexOfChar_4cfef_7 (lv_at hl 0 rfl) ?_
  refine lv_iload_n hx hb dJ1_indexOfChar_4cfef_9 rfl (lv_at hl 5 rfl) ?_
  refine lv_icmp_ge (tgt := 31) hx hb dJ1_indexOfChar_4cfef_10 (by decide) (fun h => absurd h (by decide)) (fun _ => ?_)
  refine lv_aload_n hx hb dJ1_indexOfChar_4cfef_13 rfl (lv_at hl 2 rfl) ?_
  refine lv_iload hx hb dJ1_indexOfChar_4cfef_14 (lv_at hl 0 rfl) ?_
  refine va_tb hx hb (hS2.1 1 (by decide)).2.2.2 va_S.rf (i := 2) (vp_in_nI (n := 2) (N := 5) (by decide) (by decide)) (v := .int 107) rfl dJ1_indexOfChar_4cfef_16 ?_
  refine lv_iload hx hb dJ1_indexOfChar_4cfef_17 (lv_at hl 1 rfl) ?_
  refine lv_icmp_ne (tgt := 25) hx hb dJ1_indexOfChar_4cfef_19 (by decide) (fun _ => ?_) (fun h => absurd h (by decide))
  refine lv_iinc (v := 3) (lv' := [(5, .int 3), (4, .int 104), (0, .ref (av 1)), (1, .int 104), (2, .int 0), (3, .int 5)]) hx hb dJ1_indexOfChar_4cfef_25 hl (k := 0) rfl (by decide) (by decide) rfl (fun ls hl => ?_)
  refine lv_goto (tgt := 7) hx hb dJ1_indexOfChar_4cfef_28 (by decide) ?_
  refine lv_iload hx hb dJ1_indexOfChar_4cfef_7 (lv_at hl 0 rfl) ?_
  refine lv_iload_n hx hb dJ1_indexOfChar_4cfef_9 rfl (lv_at hl 5 rfl) ?_
  refine lv_icmp_ge (tgt := 31) hx hb dJ1_indexOfChar_4cfef_10 (by decide) (fun h => absurd h (by decide)) (fun _ => ?_)
  refine lv_aload_n hx hb dJ1_indexOfChar_4cfef_13 rfl (lv_at hl 2 rfl) ?_
  refine lv_iload hx hb dJ1_indexOfChar_4cfef_14 (lv_at hl 0 rfl) ?_
  refine va_tb hx hb (hS2.1 1 (by decide)).2.2.2 va_S.rf (i := 3) (vp_in_nI (n := 3) (N := 5) (by decide) (by decide)) (v := .int 97) rfl dJ1_indexOfChar_4cfef_16 ?_
  refine lv_iload hx hb dJ1_indexOfChar_4cfef_17 (lv_at hl 1 rfl) ?_
  refine lv_icmp_ne (tgt := 25) hx hb dJ1_indexOfChar_4cfef_19 (by decide) (fun _ => ?_) (fun h => absurd h (by decide))
  refine lv_iinc (v := 4) (lv' := [(5, .int 4), (4, .int 104), (0, .ref (av 1)), (1, .int 104), (2, .int 0), (3, .int 5)]) hx hb dJ1_indexOfChar_4cfef_25 hl (k := 0) rfl (by decide) (by decide) rfl (fun ls hl => ?_)
  refine lv_goto (tgt := 7) hx hb dJ1_indexOfChar_4cfef_28 (by decide) ?_
  refine lv_iload hx hb dJ1_indexOfChar_4cfef_7 (lv_at hl 0 rfl) ?_
  refine lv_iload_n hx hb dJ1_indexOfChar_4cfef_9 rfl (lv_at hl 5 rfl) ?_
  refine lv_icmp_ge (tgt := 31) hx hb dJ1_indexOfChar_4cfef_10 (by decide) (fun h => absurd h (by decide)) (fun _ => ?_)
  refine lv_aload_n hx hb dJ1_indexOfChar_4cfef_13 rfl (lv_at hl 2 rfl) ?_
  refine lv_iload hx hb dJ1_indexOfChar_4cfef_14 (lv_at hl 0 rfl) ?_
  refine va_tb hx hb (hS2.1 1 (by decide)).2.2.2 va_S.rf (i := 4) (vp_in_nI (n := 4) (N := 5) (by decide) (by decide)) (v := .int 104) rfl dJ1_indexOfChar_4cfef_16 ?_
  refine lv_iload hx hb dJ1_indexOfChar_4cfef_17 (lv_at hl 1 rfl) ?_
  refine lv_icmp_ne (tgt := 25) hx hb dJ1_indexOfChar_4cfef_19 (by decide) (fun h => absurd h (by decide)) (fun _ => ?_)
  refine lv_iload hx hb dJ1_indexOfChar_4cfef_22 (lv_at hl 0 rfl) ?_
  exact ze_i hx hb hr hlocks rfl dJ1_indexOfChar_4cfef_24
set_option maxRecDepth 100000 in
set_option maxHeartbeats 4000000 in
theorem ctJ1_indexOf_4cfef_4 (l : Launch) (ak av : Nat → Nat) : Met l yJ1_indexOf_4cfef (zw yJ1_indexOf_4cfef cJ1_indexOf_4cfef 4 (some .int)) (zrm 2) (va_Pc [.ref (av 1), .int 104, .int 0, .int 5] (zBS ak av)) (zqR (.int 4)) 0 0 (fun _ => False) := by
  refine zmet (by decide) rfl (Nat.le_of_ble_eq_true rfl) rfl (fun p e s m below meth c ls X hml hr hlocks hv hl => ?_)
  obtain ⟨hS2, hZ, hZq⟩ := id hv
  obtain ⟨hx, hb, -, -⟩ := id X
  have hl : lv_has ls 4 [(0, .ref (av 1)), (1, .int 104), (2, .int 0), (3, .int 5)] := hl
  refine lv_iload_n hx hb dJ1_indexOf_4cfef_0 rfl (lv_at hl 1 rfl) ?_
  refine zcallSj (As := [.int 104]) (rest := []) X hml hv (ctJ1_canEncode_9a6ad_4 l ak av) zmJ1_canEncode_9a6ad (by decide) m_1053 ⟨(Nat.le_of_ble_eq_true rfl), (Nat.le_of_ble_eq_true rfl)⟩ ⟨(Nat.le_of_ble_eq_true rfl), (Nat.le_of_ble_eq_true rfl)⟩ rfl hl.1 rfl (Nat.le_of_ble_eq_true rfl) dJ1_indexOf_4cfef_1 ?_
  refine zb_ne (tgt := 9) hx hb dJ1_indexOf_4cfef_4 (by decide) (fun _ => ?_) (fun h => absurd h (by decide))
  refine lv_iload_n hx hb dJ1_indexOf_4cfef_9 rfl (lv_at hl 2 rfl) ?_
  refine lv_iconst (v := 0) hx hb dJ1_indexOf_4cfef_10 (by decide) ?_
  refine z_max (x := 0) (y := 0) X hml hl.1 m_1056 ⟨(Nat.le_of_ble_eq_true rfl), (Nat.le_of_ble_eq_true rfl)⟩ ⟨Nat.zero_le _, Nat.zero_le _⟩ (Nat.le_of_ble_eq_true rfl) dJ1_indexOf_4cfef_11 ?_
  rw [show k_max 0 0 = 0 from by decide]
  refine lv_istore_n (lv' := [(2, .int 0), (0, .ref (av 1)), (1, .int 104), (3, .int 5)]) hx hb dJ1_indexOf_4cfef_14 rfl hl (by decide) rfl (fun ls hl => ?_)
  refine lv_iload_n hx hb dJ1_indexOf_4cfef_15 rfl (lv_at hl 3 rfl) ?_
  refine lv_aload_n hx hb dJ1_indexOf_4cfef_16 rfl (lv_at hl 1 rfl) ?_
  refine va_tlen hx hb (hS2.1 1 (by decide)).2.2.2 va_S.rf (v := 5) rfl dJ1_indexOf_4cfef_17 ?_
  refine va_mmin X.1 X.2.1 (hml.trans hl.1.symm) X.2.2.1 (X.2.2.2 _ m_1057) (X.2.2.2 _ m_1058) (X.2.2.2 _ m_19) (X.2.2.2 _ m_1059) (Nat.le_of_ble_eq_true rfl) (Nat.le_of_ble_eq_true rfl) (Nat.zero_le _) (Nat.zero_le _) (x := 5) (y := 5) dJ1_indexOf_4cfef_18 ?_
  rw [show (if (5 : Int32) < 5 then (5 : Int32) else 5) = 5 from by decide]
  refine lv_istore_n (lv' := [(3, .int 5), (2, .int 0), (0, .ref (av 1)), (1, .int 104)]) hx hb dJ1_indexOf_4cfef_21 rfl hl (by decide) rfl (fun ls hl => ?_)
  refine lv_iload_n hx hb dJ1_indexOf_4cfef_22 rfl (lv_at hl 1 rfl) ?_
  refine lv_iload_n hx hb dJ1_indexOf_4cfef_23 rfl (lv_at hl 0 rfl) ?_
  refine lv_icmp_lt (tgt := 29) hx hb dJ1_indexOf_4cfef_24 (by decide) (fun _ => ?_) (fun h => absurd h (by decide))
  refine lv_aload_n hx hb dJ1_indexOf_4cfef_29 rfl (lv_at hl 2 rfl) ?_
  refine lv_iload_n hx hb dJ1_indexOf_4cfef_30 rfl (lv_at hl 3 rfl) ?_
  refine lv_iload_n hx hb dJ1_indexOf_4cfef_31 rfl (lv_at hl 1 rfl) ?_
  refine lv_iload_n hx hb dJ1_indexOf_4cfef_32 rfl (lv_at hl 0 rfl) ?_
  refine zcallSj (As := [.ref (av 1), .int 104, .int 0, .int 5]) (rest := []) X hml hv (ctJ1_indexOfChar_4cfef_4 l ak av) zmJ1_indexOfChar_4cfef (by decide) m_1060 ⟨(Nat.le_of_ble_eq_true rfl), (Nat.le_of_ble_eq_true rfl)⟩ ⟨(Nat.le_of_ble_eq_true rfl), (Nat.le_of_ble_eq_true rfl)⟩ rfl hl.1 rfl (Nat.le_of_ble_eq_true rfl) dJ1_indexOf_4cfef_33 ?_
  exact ze_i hx hb hr hlocks rfl dJ1_indexOf_4cfef_36
set_option maxRecDepth 100000 in
set_option maxHeartbeats 4000000 in
theorem ctJ0_indexOf_7cf53_4 (l : Launch) (ak av : Nat → Nat) : Met l yJ0_indexOf_7cf53 (zw yJ0_indexOf_7cf53 cJ0_indexOf_7cf53 3 (some .int)) (zrm 3) (va_Pc [.ref (ak 1), .int 104, .int 0] (zBS ak av)) (zqR (.int 4)) 0 0 (fun _ => False) := by
  refine zmet (by decide) rfl (Nat.le_of_ble_eq_true rfl) rfl (fun p e s m below meth c ls X hml hr hlocks hv hl => ?_)
  obtain ⟨hS2, hZ, hZq⟩ := id hv
  obtain ⟨hx, hb, -, -⟩ := id X
  have hl : lv_has ls 3 [(0, .ref (ak 1)), (1, .int 104), (2, .int 0)] := hl
  refine lv_aload_n hx hb dJ0_indexOf_7cf53_0 rfl (lv_at hl 0 rfl) ?_
  refine zcallVj (As := []) (rest := []) X hml hv (ctJ0_isLatin1_aae02_1 l ak av) zmJ0_isLatin1_aae02 (by decide) m_958 (va_Orecv (hS2.1 1 (by decide)).1 va_S.rf) ⟨(Nat.le_of_ble_eq_true rfl), (Nat.le_of_ble_eq_true rfl)⟩ ⟨(Nat.le_of_ble_eq_true rfl), (Nat.le_of_ble_eq_true rfl)⟩ rfl hl.1 rfl (Nat.le_of_ble_eq_true rfl) dJ0_indexOf_7cf53_1 ?_
  refine zb_eq (tgt := 23) hx hb dJ0_indexOf_7cf53_4 (by decide) (fun h => absurd h (by decide)) (fun _ => ?_)
  refine lv_aload_n hx hb dJ0_indexOf_7cf53_7 rfl (lv_at hl 0 rfl) ?_
  refine vk_getf hx hb (hS2.1 1 (by decide)).2.2.1 va_S.rf X.2.2.1 (X.2.2.2 _ m_1246) (fun _ h => h) dJ0_indexOf_7cf53_8 ?_
  refine lv_iload_n hx hb dJ0_indexOf_7cf53_11 rfl (lv_at hl 1 rfl) ?_
  refine lv_iload_n hx hb dJ0_indexOf_7cf53_12 rfl (lv_at hl 2 rfl) ?_
  refine lv_aload_n hx hb dJ0_indexOf_7cf53_13 rfl (lv_at hl 0 rfl) ?_
  refine zcallVj (As := []) (rest := [.int 0, .int 104, .ref (av 1)]) X hml hv (ctJ0_length_8abf5 l ak av) zmJ0_length_8abf5 (by decide) m_1042 (va_Orecv (hS2.1 1 (by decide)).1 va_S.rf) ⟨(Nat.le_of_ble_eq_true rfl), (Nat.le_of_ble_eq_true rfl)⟩ ⟨(Nat.le_of_ble_eq_true rfl), (Nat.le_of_ble_eq_true rfl)⟩ rfl hl.1 rfl (Nat.le_of_ble_eq_true rfl) dJ0_indexOf_7cf53_14 ?_
  refine zcallSj (As := [.ref (av 1), .int 104, .int 0, .int 5]) (rest := []) X hml hv (ctJ1_indexOf_4cfef_4 l ak av) zmJ1_indexOf_4cfef (by decide) m_1050 ⟨(Nat.le_of_ble_eq_true rfl), (Nat.le_of_ble_eq_true rfl)⟩ ⟨(Nat.le_of_ble_eq_true rfl), (Nat.le_of_ble_eq_true rfl)⟩ rfl hl.1 rfl (Nat.le_of_ble_eq_true rfl) dJ0_indexOf_7cf53_17 ?_
  refine lv_goto (tgt := 36) hx hb dJ0_indexOf_7cf53_20 (by decide) ?_
  exact ze_i hx hb hr hlocks rfl dJ0_indexOf_7cf53_36
set_option maxRecDepth 100000 in
set_option maxHeartbeats 4000000 in
theorem ctJ0_indexOf_0f7a4_4 (l : Launch) (ak av : Nat → Nat) : Met l yJ0_indexOf_0f7a4 (zw yJ0_indexOf_0f7a4 cJ0_indexOf_0f7a4 2 (some .int)) (zrm 4) (va_Pc [.ref (ak 1), .int 104] (zBS ak av)) (zqR (.int 4)) 0 0 (fun _ => False) := by
  refine zmet (by decide) rfl (Nat.le_of_ble_eq_true rfl) rfl (fun p e s m below meth c ls X hml hr hlocks hv hl => ?_)
  obtain ⟨hS2, hZ, hZq⟩ := id hv
  obtain ⟨hx, hb, -, -⟩ := id X
  have hl : lv_has ls 2 [(0, .ref (ak 1)), (1, .int 104)] := hl
  refine lv_aload_n hx hb dJ0_indexOf_0f7a4_0 rfl (lv_at hl 0 rfl) ?_
  refine lv_iload_n hx hb dJ0_indexOf_0f7a4_1 rfl (lv_at hl 1 rfl) ?_
  refine lv_iconst (v := 0) hx hb dJ0_indexOf_0f7a4_2 (by decide) ?_
  refine zcallVj (As := [.int 104, .int 0]) (rest := []) X hml hv (ctJ0_indexOf_7cf53_4 l ak av) zmJ0_indexOf_7cf53 (by decide) m_1038 (va_Orecv (hS2.1 1 (by decide)).1 va_S.rf) ⟨(Nat.le_of_ble_eq_true rfl), (Nat.le_of_ble_eq_true rfl)⟩ ⟨(Nat.le_of_ble_eq_true rfl), (Nat.le_of_ble_eq_true rfl)⟩ rfl hl.1 rfl (Nat.le_of_ble_eq_true rfl) dJ0_indexOf_0f7a4_3 ?_
  exact ze_i hx hb hr hlocks rfl dJ0_indexOf_0f7a4_6
theorem ctJ0_indexOf (l : Launch) (ak av : Nat → Nat) {x : Int32} (hx : x = 111 ∨ x = 112 ∨ x = 107 ∨ x = 97 ∨ x = 104) : ∃ k, k < 5 ∧ Met l yJ0_indexOf_0f7a4 (zw yJ0_indexOf_0f7a4 cJ0_indexOf_0f7a4 2 (some .int)) (zrm 4) (va_Pc [.ref (ak 1), .int x] (zBS ak av)) (zqR (.int (nI k))) 0 0 (fun _ => False) := by
  rcases hx with rfl | rfl | rfl | rfl | rfl
  · exact ⟨0, by decide, ctJ0_indexOf_0f7a4_0 l ak av⟩
  · exact ⟨1, by decide, ctJ0_indexOf_0f7a4_1 l ak av⟩
  · exact ⟨2, by decide, ctJ0_indexOf_0f7a4_2 l ak av⟩
  · exact ⟨3, by decide, ctJ0_indexOf_0f7a4_3 l ak av⟩
  · exact ⟨4, by decide, ctJ0_indexOf_0f7a4_4 l ak av⟩
theorem zmJ3_checkIndex_8e157 : zmS yJ3_checkIndex_8e157 RJ3 cJ3_checkIndex_8e157 3 (some .int) 3 := ⟨m_973, m_23, m_974, rfl, by decide, by decide, by decide +kernel⟩
set_option maxRecDepth 100000 in
set_option maxHeartbeats 4000000 in
theorem ctJ3_checkIndex_8e157_n (l : Launch) (ak av : Nat → Nat) (q : Nat) (hq : q < 5) : Met l yJ3_checkIndex_8e157 (zw yJ3_checkIndex_8e157 cJ3_checkIndex_8e157 3 (some .int)) (zrm 0) (va_Pc [.int (nI q), .int 5, .null] (zBS ak av)) (zqR (.int (nI q))) 0 0 (fun _ => False) := by
  refine zmet (by decide) rfl (Nat.le_of_ble_eq_true rfl) rfl (fun p e s m below meth c ls X hml hr hlocks hv hl => ?_)
  obtain ⟨hS2, hZ, hZq⟩ := id hv
  obtain ⟨hx, hb, -, -⟩ := id X
  have hl : lv_has ls 3 [(0, .int (nI q)), (1, .int 5), (2, .null)] := hl
  refine lv_iload_n hx hb dJ3_checkIndex_8e157_0 rfl (lv_at hl 0 rfl) ?_
  refine lv_if_lt (tgt := 9) hx hb dJ3_checkIndex_8e157_1 (by decide) (fun h => absurd h (nI_pos (by omega))) (fun _ => ?_)
  refine lv_iload_n hx hb dJ3_checkIndex_8e157_4 rfl (lv_at hl 0 rfl) ?_
  refine lv_iload_n hx hb dJ3_checkIndex_8e157_5 rfl (lv_at hl 1 rfl) ?_
  refine lv_icmp_lt (tgt := 16) hx hb dJ3_checkIndex_8e157_6 (by decide) (fun _ => ?_) (fun h => absurd ((nI_ltI (by omega) (by decide)).mpr hq) h)
  refine lv_iload_n hx hb dJ3_checkIndex_8e157_16 rfl (lv_at hl 0 rfl) ?_
  exact ze_i hx hb hr hlocks rfl dJ3_checkIndex_8e157_17
set_option maxRecDepth 100000 in
set_option maxHeartbeats 4000000 in
theorem ctJ3_checkIndex_8e157_r (l : Launch) (ak av : Nat → Nat) (q : Nat) (hq : q < 5) (t : Nat) : Met l yJ3_checkIndex_8e157 (zw yJ3_checkIndex_8e157 cJ3_checkIndex_8e157 3 (some .int)) (zrm 0) (va_Pc [.int (nI q), .int 5, .ref t] (zBS ak av)) (zqR (.int (nI q))) 0 0 (fun _ => False) := by
  refine zmet (by decide) rfl (Nat.le_of_ble_eq_true rfl) rfl (fun p e s m below meth c ls X hml hr hlocks hv hl => ?_)
  obtain ⟨hS2, hZ, hZq⟩ := id hv
  obtain ⟨hx, hb, -, -⟩ := id X
  have hl : lv_has ls 3 [(0, .int (nI q)), (1, .int 5), (2, .ref t)] := hl
  refine lv_iload_n hx hb dJ3_checkIndex_8e157_0 rfl (lv_at hl 0 rfl) ?_
  refine lv_if_lt (tgt := 9) hx hb dJ3_checkIndex_8e157_1 (by decide) (fun h => absurd h (nI_pos (by omega))) (fun _ => ?_)
  refine lv_iload_n hx hb dJ3_checkIndex_8e157_4 rfl (lv_at hl 0 rfl) ?_
  refine lv_iload_n hx hb dJ3_checkIndex_8e157_5 rfl (lv_at hl 1 rfl) ?_
  refine lv_icmp_lt (tgt := 16) hx hb dJ3_checkIndex_8e157_6 (by decide) (fun _ => ?_) (fun h => absurd ((nI_ltI (by omega) (by decide)).mpr hq) h)
  refine lv_iload_n hx hb dJ3_checkIndex_8e157_16 rfl (lv_at hl 0 rfl) ?_
  exact ze_i hx hb hr hlocks rfl dJ3_checkIndex_8e157_17
theorem zmJ0_checkIndex_df160 : zmS yJ0_checkIndex_df160 RJ0 cJ0_checkIndex_df160 2 none 2 := ⟨m_968, m_21, m_969, rfl, by decide, by decide, by decide +kernel⟩
set_option maxRecDepth 100000 in
set_option maxHeartbeats 4000000 in
theorem ctJ0_checkIndex_df160 (l : Launch) (ak av : Nat → Nat) (q : Nat) (hq : q < 5) : Met l yJ0_checkIndex_df160 (zw yJ0_checkIndex_df160 cJ0_checkIndex_df160 2 none) (zrm 1) (va_Pc [.int (nI q), .int 5] (zBS ak av)) zqN 0 0 (fun _ => False) := by
  refine zmet (by decide) rfl (Nat.le_of_ble_eq_true rfl) rfl (fun p e s m below meth c ls X hml hr hlocks hv hl => ?_)
  obtain ⟨hS2, hZ, hZq⟩ := id hv
  obtain ⟨hx, hb, -, -⟩ := id X
  have hl : lv_has ls 2 [(0, .int (nI q)), (1, .int 5)] := hl
  rcases hZq with hZ2 | ⟨t, hZ2⟩
  · refine lv_iload_n hx hb dJ0_checkIndex_df160_0 rfl (lv_at hl 0 rfl) ?_
    refine lv_iload_n hx hb dJ0_checkIndex_df160_1 rfl (lv_at hl 1 rfl) ?_
    refine va_gets hx hb hZ2 va_S.rf X.2.2.1 (X.2.2.2 _ m_970) (fun _ h => h) dJ0_checkIndex_df160_2 ?_
    refine zcallSj (As := [.int (nI q), .int 5, .null]) (rest := []) X hml hv (ctJ3_checkIndex_8e157_n l ak av q hq) zmJ3_checkIndex_8e157 (by decide) m_972 ⟨(Nat.le_of_ble_eq_true rfl), (Nat.le_of_ble_eq_true rfl)⟩ ⟨(Nat.le_of_ble_eq_true rfl), (Nat.le_of_ble_eq_true rfl)⟩ rfl hl.1 rfl (Nat.le_of_ble_eq_true rfl) dJ0_checkIndex_df160_5 ?_
    refine lv_pop hx hb dJ0_checkIndex_df160_8 rfl ?_
    exact W.vret (cc := _) hx hb hr (fun t ht hW => ⟨rfl, ht⟩) (fun q hq => absurd hq List.not_mem_nil) dJ0_checkIndex_df160_9 hlocks
  · refine lv_iload_n hx hb dJ0_checkIndex_df160_0 rfl (lv_at hl 0 rfl) ?_
    refine lv_iload_n hx hb dJ0_checkIndex_df160_1 rfl (lv_at hl 1 rfl) ?_
    refine va_gets hx hb hZ2 va_S.rf X.2.2.1 (X.2.2.2 _ m_970) (fun _ h => h) dJ0_checkIndex_df160_2 ?_
    refine zcallSj (As := [.int (nI q), .int 5, .ref t]) (rest := []) X hml hv (ctJ3_checkIndex_8e157_r l ak av q hq t) zmJ3_checkIndex_8e157 (by decide) m_972 ⟨(Nat.le_of_ble_eq_true rfl), (Nat.le_of_ble_eq_true rfl)⟩ ⟨(Nat.le_of_ble_eq_true rfl), (Nat.le_of_ble_eq_true rfl)⟩ rfl hl.1 rfl (Nat.le_of_ble_eq_true rfl) dJ0_checkIndex_df160_5 ?_
    refine lv_pop hx hb dJ0_checkIndex_df160_8 rfl ?_
    exact W.vret (cc := _) hx hb hr (fun t ht hW => ⟨rfl, ht⟩) (fun q hq => absurd hq List.not_mem_nil) dJ0_checkIndex_df160_9 hlocks
theorem zmJ1_charAt_3b067 : zmS yJ1_charAt_3b067 RJ1 cJ1_charAt_3b067 2 (some .char) 2 := ⟨m_965, m_22, m_966, rfl, by decide, by decide, by decide +kernel⟩
set_option maxRecDepth 100000 in
set_option maxHeartbeats 4000000 in
theorem ctJ1_charAt_3b067 (l : Launch) (ak av : Nat → Nat) (q : Nat) (hq : q < 5) : Met l yJ1_charAt_3b067 (zw yJ1_charAt_3b067 cJ1_charAt_3b067 2 (some .char)) (zrm 2) (va_Pc [.ref (av 0), .int (nI q)] (zBS ak av)) (zqR (.int (zch q))) 0 0 (fun _ => False) := by
  refine zmet (by decide) rfl (Nat.le_of_ble_eq_true rfl) rfl (fun p e s m below meth c ls X hml hr hlocks hv hl => ?_)
  obtain ⟨hS2, hZ, hZq⟩ := id hv
  obtain ⟨hx, hb, -, -⟩ := id X
  have hl : lv_has ls 2 [(0, .ref (av 0)), (1, .int (nI q))] := hl
  refine lv_iload_n hx hb dJ1_charAt_3b067_0 rfl (lv_at hl 1 rfl) ?_
  refine lv_aload_n hx hb dJ1_charAt_3b067_1 rfl (lv_at hl 0 rfl) ?_
  refine va_tlen hx hb (hS2.1 0 (by decide)).2.2.2 va_S.rf (v := 5) rfl dJ1_charAt_3b067_2 ?_
  refine zcallNj (As := [.int (nI q), .int 5]) (rest := []) X hml hv (ctJ0_checkIndex_df160 l ak av q hq) zmJ0_checkIndex_df160 (by decide) m_967 ⟨(Nat.le_of_ble_eq_true rfl), (Nat.le_of_ble_eq_true rfl)⟩ ⟨(Nat.le_of_ble_eq_true rfl), (Nat.le_of_ble_eq_true rfl)⟩ rfl hl.1 rfl (Nat.le_of_ble_eq_true rfl) dJ1_charAt_3b067_3 ?_
  refine lv_aload_n hx hb dJ1_charAt_3b067_6 rfl (lv_at hl 0 rfl) ?_
  refine lv_iload_n hx hb dJ1_charAt_3b067_7 rfl (lv_at hl 1 rfl) ?_
  refine va_tb hx hb (hS2.1 0 (by decide)).2.2.2 va_S.rf (i := nI q) (vp_in_nI hq (by decide)) (v := .int ((zt5.getD 0 []).getD q 0)) (by rw [nI_clamp (by omega)]) dJ1_charAt_3b067_8 ?_
  refine lv_sipush (v := 255) hx hb dJ1_charAt_3b067_9 (by decide) ?_
  refine lv_iand hx hb dJ1_charAt_3b067_12 ?_
  refine lv_i2c (v := zch q) hx hb dJ1_charAt_3b067_13 (zch_ok q hq) ?_
  exact W.zret (cc := _) hx hb hr (zch_n q hq) (fun t ht hW => ⟨rfl, ht⟩) (fun q hq => absurd hq List.not_mem_nil) dJ1_charAt_3b067_14 hlocks
theorem zmJ0_charAt_5068e : zmV yJ0_charAt_5068e RJ0 cJ0_charAt_5068e 2 (some .char) 1 := ⟨m_955, m_956, m_21, m_957, rfl, by decide, by decide, by decide +kernel⟩
set_option maxRecDepth 100000 in
set_option maxHeartbeats 4000000 in
theorem ctJ0_charAt_5068e (l : Launch) (ak av : Nat → Nat) (q : Nat) (hq : q < 5) : Met l yJ0_charAt_5068e (zw yJ0_charAt_5068e cJ0_charAt_5068e 2 (some .char)) (zrm 3) (va_Pc [.ref (ak 0), .int (nI q)] (zBS ak av)) (zqR (.int (zch q))) 0 0 (fun _ => False) := by
  refine zmet (by decide) rfl (Nat.le_of_ble_eq_true rfl) rfl (fun p e s m below meth c ls X hml hr hlocks hv hl => ?_)
  obtain ⟨hS2, hZ, hZq⟩ := id hv
  obtain ⟨hx, hb, -, -⟩ := id X
  have hl : lv_has ls 2 [(0, .ref (ak 0)), (1, .int (nI q))] := hl
  refine lv_aload_n hx hb dJ0_charAt_5068e_0 rfl (lv_at hl 0 rfl) ?_
  refine zcallVj (As := []) (rest := []) X hml hv (ctJ0_isLatin1_aae02_0 l ak av) zmJ0_isLatin1_aae02 (by decide) m_958 (va_Orecv (hS2.1 0 (by decide)).1 va_S.rf) ⟨(Nat.le_of_ble_eq_true rfl), (Nat.le_of_ble_eq_true rfl)⟩ ⟨(Nat.le_of_ble_eq_true rfl), (Nat.le_of_ble_eq_true rfl)⟩ rfl hl.1 rfl (Nat.le_of_ble_eq_true rfl) dJ0_charAt_5068e_1 ?_
  refine zb_eq (tgt := 16) hx hb dJ0_charAt_5068e_4 (by decide) (fun h => absurd h (by decide)) (fun _ => ?_)
  refine lv_aload_n hx hb dJ0_charAt_5068e_7 rfl (lv_at hl 0 rfl) ?_
  refine vk_getf hx hb (hS2.1 0 (by decide)).2.2.1 va_S.rf X.2.2.1 (X.2.2.2 _ m_1246) (fun _ h => h) dJ0_charAt_5068e_8 ?_
  refine lv_iload_n hx hb dJ0_charAt_5068e_11 rfl (lv_at hl 1 rfl) ?_
  refine zcallSj (As := [.ref (av 0), .int (nI q)]) (rest := []) X hml hv (ctJ1_charAt_3b067 l ak av q hq) zmJ1_charAt_3b067 (by decide) m_964 ⟨(Nat.le_of_ble_eq_true rfl), (Nat.le_of_ble_eq_true rfl)⟩ ⟨(Nat.le_of_ble_eq_true rfl), (Nat.le_of_ble_eq_true rfl)⟩ rfl hl.1 rfl (Nat.le_of_ble_eq_true rfl) dJ0_charAt_5068e_12 ?_
  exact W.zret (cc := _) hx hb hr (zch_n q hq) (fun t ht hW => ⟨rfl, ht⟩) (fun q hq => absurd hq List.not_mem_nil) dJ0_charAt_5068e_15 hlocks
