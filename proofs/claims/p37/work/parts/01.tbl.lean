-- ===== PART A: goes FIRST, ahead of the names: the tables' words, and 'selects' of the private methods out of them =====
/-- a private method of a class that the tables say can be made, by its rows of tables_1 -/
def lw_okq (q : MethodName × Nat) : Prop := (q.1.cls ≠ "java/lang/invoke/MethodHandle" ∧ q.1.cls ≠ "java/lang/invoke/VarHandle") ∧ Cond.instantiable q.1.cls q.2 ∈ tables_1 ∧ Cond.privateMethod q.1 ∈ tables_1 ∧ Cond.instanceMethod q.1 ∈ tables_1
theorem lw_p0 : lw_okq (⟨"Silkloft$Loft", "daysLeft", "(LSilkloft$Canopy;)I"⟩, 13) := ⟨⟨by decide +kernel, by decide +kernel⟩, List.mem_of_getElem? (i := 37) (by decide +kernel), List.mem_of_getElem? (i := 409) (by decide +kernel), List.mem_of_getElem? (i := 410) (by decide +kernel)⟩
theorem lw_p1 : lw_okq (⟨"Silkloft$Loft", "isReachedBy", "(LSilkloft$Finding;I)Z"⟩, 13) := ⟨⟨by decide +kernel, by decide +kernel⟩, List.mem_of_getElem? (i := 37) (by decide +kernel), List.mem_of_getElem? (i := 421) (by decide +kernel), List.mem_of_getElem? (i := 422) (by decide +kernel)⟩
theorem lw_p2 : lw_okq (⟨"Silkloft$Loft", "isFreeOf", "(LSilkloft$Finding;I)Z"⟩, 13) := ⟨⟨by decide +kernel, by decide +kernel⟩, List.mem_of_getElem? (i := 37) (by decide +kernel), List.mem_of_getElem? (i := 433) (by decide +kernel), List.mem_of_getElem? (i := 434) (by decide +kernel)⟩
theorem lw_p3 : lw_okq (⟨"Silkloft$Loft", "enrol", "(II)I"⟩, 13) := ⟨⟨by decide +kernel, by decide +kernel⟩, List.mem_of_getElem? (i := 37) (by decide +kernel), List.mem_of_getElem? (i := 467) (by decide +kernel), List.mem_of_getElem? (i := 468) (by decide +kernel)⟩
theorem lw_p4 : lw_okq (⟨"Silkloft$Loft", "relicense", "(III)I"⟩, 13) := ⟨⟨by decide +kernel, by decide +kernel⟩, List.mem_of_getElem? (i := 37) (by decide +kernel), List.mem_of_getElem? (i := 475) (by decide +kernel), List.mem_of_getElem? (i := 476) (by decide +kernel)⟩
theorem lw_p5 : lw_okq (⟨"Silkloft$Loft", "enter", "(CIII)I"⟩, 13) := ⟨⟨by decide +kernel, by decide +kernel⟩, List.mem_of_getElem? (i := 37) (by decide +kernel), List.mem_of_getElem? (i := 479) (by decide +kernel), List.mem_of_getElem? (i := 480) (by decide +kernel)⟩
theorem lw_p6 : lw_okq (⟨"Silkloft$Loft", "changePeriod", "(I)I"⟩, 13) := ⟨⟨by decide +kernel, by decide +kernel⟩, List.mem_of_getElem? (i := 37) (by decide +kernel), List.mem_of_getElem? (i := 487) (by decide +kernel), List.mem_of_getElem? (i := 488) (by decide +kernel)⟩
theorem lw_p7 : lw_okq (⟨"Silkloft$Loft", "letDaysPass", "(I)I"⟩, 13) := ⟨⟨by decide +kernel, by decide +kernel⟩, List.mem_of_getElem? (i := 37) (by decide +kernel), List.mem_of_getElem? (i := 491) (by decide +kernel), List.mem_of_getElem? (i := 492) (by decide +kernel)⟩
theorem lw_p8 : lw_okq (⟨"Silkloft$Loft", "putOnHook", "(II)I"⟩, 13) := ⟨⟨by decide +kernel, by decide +kernel⟩, List.mem_of_getElem? (i := 37) (by decide +kernel), List.mem_of_getElem? (i := 495) (by decide +kernel), List.mem_of_getElem? (i := 496) (by decide +kernel)⟩
theorem lw_p9 : lw_okq (⟨"Silkloft$Loft", "doStep", "(II)I"⟩, 13) := ⟨⟨by decide +kernel, by decide +kernel⟩, List.mem_of_getElem? (i := 37) (by decide +kernel), List.mem_of_getElem? (i := 499) (by decide +kernel), List.mem_of_getElem? (i := 500) (by decide +kernel)⟩
theorem lw_p10 : lw_okq (⟨"Silkloft$Loft", "endPacking", "(I)V"⟩, 13) := ⟨⟨by decide +kernel, by decide +kernel⟩, List.mem_of_getElem? (i := 37) (by decide +kernel), List.mem_of_getElem? (i := 503) (by decide +kernel), List.mem_of_getElem? (i := 504) (by decide +kernel)⟩
theorem lw_p11 : lw_okq (⟨"Silkloft$Loft", "takeOffHook", "(LSilkloft$Canopy;)I"⟩, 13) := ⟨⟨by decide +kernel, by decide +kernel⟩, List.mem_of_getElem? (i := 37) (by decide +kernel), List.mem_of_getElem? (i := 511) (by decide +kernel), List.mem_of_getElem? (i := 512) (by decide +kernel)⟩
theorem lw_p12 : lw_okq (⟨"Silkloft$Loft", "beginLoad", "()I"⟩, 13) := ⟨⟨by decide +kernel, by decide +kernel⟩, List.mem_of_getElem? (i := 37) (by decide +kernel), List.mem_of_getElem? (i := 515) (by decide +kernel), List.mem_of_getElem? (i := 516) (by decide +kernel)⟩
theorem lw_p13 : lw_okq (⟨"Silkloft$Loft", "putAboard", "(LSilkloft$Load;II)I"⟩, 13) := ⟨⟨by decide +kernel, by decide +kernel⟩, List.mem_of_getElem? (i := 37) (by decide +kernel), List.mem_of_getElem? (i := 523) (by decide +kernel), List.mem_of_getElem? (i := 524) (by decide +kernel)⟩
theorem lw_p14 : lw_okq (⟨"Silkloft$Loft", "takeLastOff", "(LSilkloft$Load;)I"⟩, 13) := ⟨⟨by decide +kernel, by decide +kernel⟩, List.mem_of_getElem? (i := 37) (by decide +kernel), List.mem_of_getElem? (i := 527) (by decide +kernel), List.mem_of_getElem? (i := 528) (by decide +kernel)⟩
theorem lw_p15 : lw_okq (⟨"Silkloft$Loft", "letJump", "(LSilkloft$Load;I)I"⟩, 13) := ⟨⟨by decide +kernel, by decide +kernel⟩, List.mem_of_getElem? (i := 37) (by decide +kernel), List.mem_of_getElem? (i := 531) (by decide +kernel), List.mem_of_getElem? (i := 532) (by decide +kernel)⟩
def lw_privs_1 : List (MethodName × Nat) := [(⟨"Silkloft$Loft", "daysLeft", "(LSilkloft$Canopy;)I"⟩, 13), (⟨"Silkloft$Loft", "isReachedBy", "(LSilkloft$Finding;I)Z"⟩, 13), (⟨"Silkloft$Loft", "isFreeOf", "(LSilkloft$Finding;I)Z"⟩, 13), (⟨"Silkloft$Loft", "enrol", "(II)I"⟩, 13), (⟨"Silkloft$Loft", "relicense", "(III)I"⟩, 13), (⟨"Silkloft$Loft", "enter", "(CIII)I"⟩, 13), (⟨"Silkloft$Loft", "changePeriod", "(I)I"⟩, 13), (⟨"Silkloft$Loft", "letDaysPass", "(I)I"⟩, 13), (⟨"Silkloft$Loft", "putOnHook", "(II)I"⟩, 13), (⟨"Silkloft$Loft", "doStep", "(II)I"⟩, 13), (⟨"Silkloft$Loft", "endPacking", "(I)V"⟩, 13), (⟨"Silkloft$Loft", "takeOffHook", "(LSilkloft$Canopy;)I"⟩, 13), (⟨"Silkloft$Loft", "beginLoad", "()I"⟩, 13), (⟨"Silkloft$Loft", "putAboard", "(LSilkloft$Load;II)I"⟩, 13), (⟨"Silkloft$Loft", "takeLastOff", "(LSilkloft$Load;)I"⟩, 13), (⟨"Silkloft$Loft", "letJump", "(LSilkloft$Load;I)I"⟩, 13)]
theorem lw_r1 : ∀ q ∈ lw_privs_1, lw_okq q := List.forall_mem_cons.mpr ⟨lw_p0, List.forall_mem_cons.mpr ⟨lw_p1, List.forall_mem_cons.mpr ⟨lw_p2, List.forall_mem_cons.mpr ⟨lw_p3, List.forall_mem_cons.mpr ⟨lw_p4, List.forall_mem_cons.mpr ⟨lw_p5, List.forall_mem_cons.mpr ⟨lw_p6, List.forall_mem_cons.mpr ⟨lw_p7, List.forall_mem_cons.mpr ⟨lw_p8, List.forall_mem_cons.mpr ⟨lw_p9, List.forall_mem_cons.mpr ⟨lw_p10, List.forall_mem_cons.mpr ⟨lw_p11, List.forall_mem_cons.mpr ⟨lw_p12, List.forall_mem_cons.mpr ⟨lw_p13, List.forall_mem_cons.mpr ⟨lw_p14, List.forall_mem_cons.mpr ⟨lw_p15, fun _ h => absurd h List.not_mem_nil⟩⟩⟩⟩⟩⟩⟩⟩⟩⟩⟩⟩⟩⟩⟩⟩
theorem lw_p16 : lw_okq (⟨"Silkloft$Loft", "noteFinding", "(I)I"⟩, 13) := ⟨⟨by decide +kernel, by decide +kernel⟩, List.mem_of_getElem? (i := 37) (by decide +kernel), List.mem_of_getElem? (i := 539) (by decide +kernel), List.mem_of_getElem? (i := 540) (by decide +kernel)⟩
theorem lw_p17 : lw_okq (⟨"Silkloft$Loft", "raiseLevel", "(LSilkloft$Finding;)I"⟩, 13) := ⟨⟨by decide +kernel, by decide +kernel⟩, List.mem_of_getElem? (i := 37) (by decide +kernel), List.mem_of_getElem? (i := 547) (by decide +kernel), List.mem_of_getElem? (i := 548) (by decide +kernel)⟩
theorem lw_p18 : lw_okq (⟨"Silkloft$Loft", "noteCause", "(LSilkloft$Finding;C)I"⟩, 13) := ⟨⟨by decide +kernel, by decide +kernel⟩, List.mem_of_getElem? (i := 37) (by decide +kernel), List.mem_of_getElem? (i := 551) (by decide +kernel), List.mem_of_getElem? (i := 552) (by decide +kernel)⟩
theorem lw_p19 : lw_okq (⟨"Silkloft$Loft", "shut", "(LSilkloft$Finding;)I"⟩, 13) := ⟨⟨by decide +kernel, by decide +kernel⟩, List.mem_of_getElem? (i := 37) (by decide +kernel), List.mem_of_getElem? (i := 555) (by decide +kernel), List.mem_of_getElem? (i := 556) (by decide +kernel)⟩
theorem lw_p20 : lw_okq (⟨"Silkloft$Loft", "mend", "(I)I"⟩, 13) := ⟨⟨by decide +kernel, by decide +kernel⟩, List.mem_of_getElem? (i := 37) (by decide +kernel), List.mem_of_getElem? (i := 559) (by decide +kernel), List.mem_of_getElem? (i := 560) (by decide +kernel)⟩
theorem lw_p21 : lw_okq (⟨"Silkloft$Loft", "tryOut", "(IZ)I"⟩, 13) := ⟨⟨by decide +kernel, by decide +kernel⟩, List.mem_of_getElem? (i := 37) (by decide +kernel), List.mem_of_getElem? (i := 563) (by decide +kernel), List.mem_of_getElem? (i := 564) (by decide +kernel)⟩
theorem lw_p22 : lw_okq (⟨"Silkloft$Loft", "noteFindingIfRoom", "(I)V"⟩, 13) := ⟨⟨by decide +kernel, by decide +kernel⟩, List.mem_of_getElem? (i := 37) (by decide +kernel), List.mem_of_getElem? (i := 571) (by decide +kernel), List.mem_of_getElem? (i := 572) (by decide +kernel)⟩
theorem lw_p23 : lw_okq (⟨"Silkloft$Loft", "handOut", "(LSilkloft$Canopy;II)I"⟩, 13) := ⟨⟨by decide +kernel, by decide +kernel⟩, List.mem_of_getElem? (i := 37) (by decide +kernel), List.mem_of_getElem? (i := 575) (by decide +kernel), List.mem_of_getElem? (i := 576) (by decide +kernel)⟩
theorem lw_p24 : lw_okq (⟨"Silkloft$Loft", "takeIn", "(IZZ)I"⟩, 13) := ⟨⟨by decide +kernel, by decide +kernel⟩, List.mem_of_getElem? (i := 37) (by decide +kernel), List.mem_of_getElem? (i := 579) (by decide +kernel), List.mem_of_getElem? (i := 580) (by decide +kernel)⟩
theorem lw_p25 : lw_okq (⟨"Silkloft$Loft", "hasRiggersLike", "(LSilkloft$Loft;)Z"⟩, 13) := ⟨⟨by decide +kernel, by decide +kernel⟩, List.mem_of_getElem? (i := 37) (by decide +kernel), List.mem_of_getElem? (i := 590) (by decide +kernel), List.mem_of_getElem? (i := 591) (by decide +kernel)⟩
theorem lw_p26 : lw_okq (⟨"Silkloft$Loft", "hasCanopiesLike", "(LSilkloft$Loft;)Z"⟩, 13) := ⟨⟨by decide +kernel, by decide +kernel⟩, List.mem_of_getElem? (i := 37) (by decide +kernel), List.mem_of_getElem? (i := 598) (by decide +kernel), List.mem_of_getElem? (i := 599) (by decide +kernel)⟩
theorem lw_p27 : lw_okq (⟨"Silkloft$Canopy", "isMadeLike", "(LSilkloft$Canopy;)Z"⟩, 20) := ⟨⟨by decide +kernel, by decide +kernel⟩, List.mem_of_getElem? (i := 89) (by decide +kernel), List.mem_of_getElem? (i := 606) (by decide +kernel), List.mem_of_getElem? (i := 607) (by decide +kernel)⟩
theorem lw_p28 : lw_okq (⟨"Silkloft$Canopy", "isPackedLike", "(LSilkloft$Canopy;)Z"⟩, 20) := ⟨⟨by decide +kernel, by decide +kernel⟩, List.mem_of_getElem? (i := 89) (by decide +kernel), List.mem_of_getElem? (i := 610) (by decide +kernel), List.mem_of_getElem? (i := 611) (by decide +kernel)⟩
theorem lw_p29 : lw_okq (⟨"Silkloft$Canopy", "isTriedLike", "(LSilkloft$Canopy;)Z"⟩, 20) := ⟨⟨by decide +kernel, by decide +kernel⟩, List.mem_of_getElem? (i := 89) (by decide +kernel), List.mem_of_getElem? (i := 614) (by decide +kernel), List.mem_of_getElem? (i := 615) (by decide +kernel)⟩
theorem lw_p30 : lw_okq (⟨"Silkloft$Loft", "hasLoadsLike", "(LSilkloft$Loft;)Z"⟩, 13) := ⟨⟨by decide +kernel, by decide +kernel⟩, List.mem_of_getElem? (i := 37) (by decide +kernel), List.mem_of_getElem? (i := 618) (by decide +kernel), List.mem_of_getElem? (i := 619) (by decide +kernel)⟩
theorem lw_p31 : lw_okq (⟨"Silkloft$Loft", "hasFindingsLike", "(LSilkloft$Loft;)Z"⟩, 13) := ⟨⟨by decide +kernel, by decide +kernel⟩, List.mem_of_getElem? (i := 37) (by decide +kernel), List.mem_of_getElem? (i := 626) (by decide +kernel), List.mem_of_getElem? (i := 627) (by decide +kernel)⟩
def lw_privs_2 : List (MethodName × Nat) := [(⟨"Silkloft$Loft", "noteFinding", "(I)I"⟩, 13), (⟨"Silkloft$Loft", "raiseLevel", "(LSilkloft$Finding;)I"⟩, 13), (⟨"Silkloft$Loft", "noteCause", "(LSilkloft$Finding;C)I"⟩, 13), (⟨"Silkloft$Loft", "shut", "(LSilkloft$Finding;)I"⟩, 13), (⟨"Silkloft$Loft", "mend", "(I)I"⟩, 13), (⟨"Silkloft$Loft", "tryOut", "(IZ)I"⟩, 13), (⟨"Silkloft$Loft", "noteFindingIfRoom", "(I)V"⟩, 13), (⟨"Silkloft$Loft", "handOut", "(LSilkloft$Canopy;II)I"⟩, 13), (⟨"Silkloft$Loft", "takeIn", "(IZZ)I"⟩, 13), (⟨"Silkloft$Loft", "hasRiggersLike", "(LSilkloft$Loft;)Z"⟩, 13), (⟨"Silkloft$Loft", "hasCanopiesLike", "(LSilkloft$Loft;)Z"⟩, 13), (⟨"Silkloft$Canopy", "isMadeLike", "(LSilkloft$Canopy;)Z"⟩, 20), (⟨"Silkloft$Canopy", "isPackedLike", "(LSilkloft$Canopy;)Z"⟩, 20), (⟨"Silkloft$Canopy", "isTriedLike", "(LSilkloft$Canopy;)Z"⟩, 20), (⟨"Silkloft$Loft", "hasLoadsLike", "(LSilkloft$Loft;)Z"⟩, 13), (⟨"Silkloft$Loft", "hasFindingsLike", "(LSilkloft$Loft;)Z"⟩, 13)]
theorem lw_r2 : ∀ q ∈ lw_privs_2, lw_okq q := List.forall_mem_cons.mpr ⟨lw_p16, List.forall_mem_cons.mpr ⟨lw_p17, List.forall_mem_cons.mpr ⟨lw_p18, List.forall_mem_cons.mpr ⟨lw_p19, List.forall_mem_cons.mpr ⟨lw_p20, List.forall_mem_cons.mpr ⟨lw_p21, List.forall_mem_cons.mpr ⟨lw_p22, List.forall_mem_cons.mpr ⟨lw_p23, List.forall_mem_cons.mpr ⟨lw_p24, List.forall_mem_cons.mpr ⟨lw_p25, List.forall_mem_cons.mpr ⟨lw_p26, List.forall_mem_cons.mpr ⟨lw_p27, List.forall_mem_cons.mpr ⟨lw_p28, List.forall_mem_cons.mpr ⟨lw_p29, List.forall_mem_cons.mpr ⟨lw_p30, List.forall_mem_cons.mpr ⟨lw_p31, fun _ h => absurd h List.not_mem_nil⟩⟩⟩⟩⟩⟩⟩⟩⟩⟩⟩⟩⟩⟩⟩⟩
theorem lw_p32 : lw_okq (⟨"Silkloft", "act", "(IIIII)I"⟩, 3) := ⟨⟨by decide +kernel, by decide +kernel⟩, List.mem_of_getElem? (i := 29) (by decide +kernel), List.mem_of_getElem? (i := 654) (by decide +kernel), List.mem_of_getElem? (i := 655) (by decide +kernel)⟩
theorem lw_p33 : lw_okq (⟨"java/lang/Throwable", "fillInStackTrace", "(I)Ljava/lang/Throwable;"⟩, 6) := ⟨⟨by decide +kernel, by decide +kernel⟩, List.mem_of_getElem? (i := 705) (by decide +kernel), List.mem_of_getElem? (i := 703) (by decide +kernel), List.mem_of_getElem? (i := 704) (by decide +kernel)⟩
theorem lw_p34 : lw_okq (⟨"Silkloft", "canopyAt", "(I)LSilkloft$Canopy;"⟩, 3) := ⟨⟨by decide +kernel, by decide +kernel⟩, List.mem_of_getElem? (i := 29) (by decide +kernel), List.mem_of_getElem? (i := 838) (by decide +kernel), List.mem_of_getElem? (i := 839) (by decide +kernel)⟩
theorem lw_p35 : lw_okq (⟨"Silkloft$Book", "numberOf", "(II)I"⟩, 5) := ⟨⟨by decide +kernel, by decide +kernel⟩, List.mem_of_getElem? (i := 51) (by decide +kernel), List.mem_of_getElem? (i := 1130) (by decide +kernel), List.mem_of_getElem? (i := 1131) (by decide +kernel)⟩
def lw_privs_3 : List (MethodName × Nat) := [(⟨"Silkloft", "act", "(IIIII)I"⟩, 3), (⟨"java/lang/Throwable", "fillInStackTrace", "(I)Ljava/lang/Throwable;"⟩, 6), (⟨"Silkloft", "canopyAt", "(I)LSilkloft$Canopy;"⟩, 3), (⟨"Silkloft$Book", "numberOf", "(II)I"⟩, 5)]
theorem lw_r3 : ∀ q ∈ lw_privs_3, lw_okq q := List.forall_mem_cons.mpr ⟨lw_p32, List.forall_mem_cons.mpr ⟨lw_p33, List.forall_mem_cons.mpr ⟨lw_p34, List.forall_mem_cons.mpr ⟨lw_p35, fun _ h => absurd h List.not_mem_nil⟩⟩⟩⟩
def lw_privs : List (MethodName × Nat) := lw_privs_1 ++ (lw_privs_2 ++ (lw_privs_3))
def lw_tbl : List Cond := k2_sels lw_privs ++ tables_1
theorem lw_privs_ok : ∀ q ∈ lw_privs, lw_okq q := by
  show ∀ q ∈ lw_privs_1 ++ (lw_privs_2 ++ (lw_privs_3)), lw_okq q
  exact List.forall_mem_append.mpr ⟨lw_r1, List.forall_mem_append.mpr ⟨lw_r2, lw_r3⟩⟩
/-- the streams that the claim lets the run draw from -/
abbrev lw_cs : List Choice := [Jvm.Choice.named "NaN.bits"]
theorem lw_bits : nanBits ∈ lw_cs := by first | decide | exact List.mem_cons_self | simp [lw_cs, nanBits]

-- names, printed by the kit (claim/NAMES.whole.lean.txt)
def RX0 : String := "Silkloft$Book"
def TX0 : u_T := fun k => match k with
  | 0 => ("Silkloft$Book", "count", "I", false)
  | 1 => ("Silkloft$Book", "owners", "[I", true)
  | 2 => ("Silkloft$Book", "hooks", "[I", true)
  | 3 => ("Silkloft$Book", "days", "[I", true)
  | _ => ("Silkloft$Book", "riggers", "[I", true)
def tyX0 : Nat → FieldType := fun k => match k with
  | 0 => .int
  | 1 => .array .int
  | 2 => .array .int
  | 3 => .array .int
  | _ => .array .int
theorem nmX0 : ∀ a, a < 5 → ∀ b, b < 5 → a ≠ b → (TX0 a).2.1 ≠ (TX0 b).2.1 := by decide +kernel
theorem tyX0_ok : ∀ k, k < 5 → parseFieldDescriptor (TX0 k).2.2.1 = some (tyX0 k) := by decide +kernel
abbrev cX0_init : ByteArray := prog_2_method_1_code
def yX0_init : MethodName := ⟨RX0, "<init>", "()V"⟩
abbrev cX0_write : ByteArray := prog_2_method_2_code
def yX0_write : MethodName := ⟨RX0, "write", "(III[I)I"⟩
abbrev cX0_has : ByteArray := prog_2_method_3_code
def yX0_has : MethodName := ⟨RX0, "has", "(I)Z"⟩
abbrev cX0_handsOf : ByteArray := prog_2_method_4_code
def yX0_handsOf : MethodName := ⟨RX0, "handsOf", "(I)J"⟩
abbrev cX0_lookUp : ByteArray := prog_2_method_5_code
def yX0_lookUp : MethodName := ⟨RX0, "lookUp", "(IIC)I"⟩
abbrev cX0_numberOf : ByteArray := prog_2_method_6_code
def yX0_numberOf : MethodName := ⟨RX0, "numberOf", "(II)I"⟩
abbrev cX0_isLike : ByteArray := prog_2_method_7_code
def yX0_isLike : MethodName := ⟨RX0, "isLike", "(LSilkloft$Book;)Z"⟩
def RX1 : String := "Silkloft$Canopy"
def TX1 : u_T := fun k => match k with
  | 0 => ("Silkloft$Canopy", "kind", "C", false)
  | 1 => ("Silkloft$Canopy", "cloth", "I", false)
  | 2 => ("Silkloft$Canopy", "lines", "I", false)
  | 3 => ("Silkloft$Canopy", "life", "I", false)
  | 4 => ("Silkloft$Canopy", "added", "I", false)
  | 5 => ("Silkloft$Canopy", "state", "C", false)
  | 6 => ("Silkloft$Canopy", "hook", "I", false)
  | 7 => ("Silkloft$Canopy", "stepsDone", "I", false)
  | 8 => ("Silkloft$Canopy", "stepRiggers", "[I", true)
  | 9 => ("Silkloft$Canopy", "packingCount", "I", false)
  | 10 => ("Silkloft$Canopy", "latestPacking", "I", false)
  | 11 => ("Silkloft$Canopy", "hooksEver", "I", false)
  | 12 => ("Silkloft$Canopy", "handsEver", "J", false)
  | 13 => ("Silkloft$Canopy", "jumpCount", "I", false)
  | 14 => ("Silkloft$Canopy", "repairCount", "I", false)
  | 15 => ("Silkloft$Canopy", "goodDrops", "I", false)
  | 16 => ("Silkloft$Canopy", "lastGoodDrop", "I", false)
  | 17 => ("Silkloft$Canopy", "goodDropBefore", "I", false)
  | 18 => ("Silkloft$Canopy", "dueBack", "I", false)
  | _ => ("Silkloft$Canopy", "deposit", "I", false)
def tyX1 : Nat → FieldType := fun k => match k with
  | 0 => .char
  | 1 => .int
  | 2 => .int
  | 3 => .int
  | 4 => .int
  | 5 => .char
  | 6 => .int
  | 7 => .int
  | 8 => .array .int
  | 9 => .int
  | 10 => .int
  | 11 => .int
  | 12 => .long
  | 13 => .int
  | 14 => .int
  | 15 => .int
  | 16 => .int
  | 17 => .int
  | 18 => .int
  | _ => .int
theorem nmX1 : ∀ a, a < 20 → ∀ b, b < 20 → a ≠ b → (TX1 a).2.1 ≠ (TX1 b).2.1 := by decide +kernel
theorem tyX1_ok : ∀ k, k < 20 → parseFieldDescriptor (TX1 k).2.2.1 = some (tyX1 k) := by decide +kernel
abbrev cX1_init : ByteArray := prog_3_method_1_code
def yX1_init : MethodName := ⟨RX1, "<init>", "()V"⟩
abbrev cX1_begin : ByteArray := prog_3_method_2_code
def yX1_begin : MethodName := ⟨RX1, "begin", "(CIIII)V"⟩
abbrev cX1_noteDrop : ByteArray := prog_3_method_3_code
def yX1_noteDrop : MethodName := ⟨RX1, "noteDrop", "(ZI)V"⟩
abbrev cX1_land : ByteArray := prog_3_method_4_code
def yX1_land : MethodName := ⟨RX1, "land", "()V"⟩
abbrev cX1_isLike : ByteArray := prog_3_method_5_code
def yX1_isLike : MethodName := ⟨RX1, "isLike", "(LSilkloft$Canopy;)Z"⟩
abbrev cX1_isMadeLike : ByteArray := prog_3_method_6_code
def yX1_isMadeLike : MethodName := ⟨RX1, "isMadeLike", "(LSilkloft$Canopy;)Z"⟩
abbrev cX1_isPackedLike : ByteArray := prog_3_method_7_code
def yX1_isPackedLike : MethodName := ⟨RX1, "isPackedLike", "(LSilkloft$Canopy;)Z"⟩
abbrev cX1_isTriedLike : ByteArray := prog_3_method_8_code
def yX1_isTriedLike : MethodName := ⟨RX1, "isTriedLike", "(LSilkloft$Canopy;)Z"⟩
def RX2 : String := "Silkloft$Diary"
def TX2 : u_T := fun k => match k with
  | 0 => ("Silkloft$Diary", "count", "I", false)
  | _ => ("Silkloft$Diary", "rows", "[I", true)
def tyX2 : Nat → FieldType := fun k => match k with
  | 0 => .int
  | _ => .array .int
theorem nmX2 : ∀ a, a < 2 → ∀ b, b < 2 → a ≠ b → (TX2 a).2.1 ≠ (TX2 b).2.1 := by decide +kernel
theorem tyX2_ok : ∀ k, k < 2 → parseFieldDescriptor (TX2 k).2.2.1 = some (tyX2 k) := by decide +kernel
abbrev cX2_init : ByteArray := prog_4_method_1_code
def yX2_init : MethodName := ⟨RX2, "<init>", "()V"⟩
abbrev cX2_isFull : ByteArray := prog_4_method_2_code
def yX2_isFull : MethodName := ⟨RX2, "isFull", "()Z"⟩
abbrev cX2_write : ByteArray := prog_4_method_3_code
def yX2_write : MethodName := ⟨RX2, "write", "(IIIII)V"⟩
abbrev cX2_repeat : ByteArray := prog_4_method_4_code
def yX2_repeat : MethodName := ⟨RX2, "repeat", "(ILSilkloft$Loft;)Z"⟩
def RX3 : String := "Silkloft$Finding"
def TX3 : u_T := fun k => match k with
  | 0 => ("Silkloft$Finding", "canopy", "I", false)
  | 1 => ("Silkloft$Finding", "packing", "I", false)
  | 2 => ("Silkloft$Finding", "level", "I", false)
  | 3 => ("Silkloft$Finding", "cause", "C", false)
  | 4 => ("Silkloft$Finding", "isClosed", "Z", false)
  | 5 => ("Silkloft$Finding", "madeBy", "I", false)
  | _ => ("Silkloft$Finding", "repairedBy", "I", false)
def tyX3 : Nat → FieldType := fun k => match k with
  | 0 => .int
  | 1 => .int
  | 2 => .int
  | 3 => .char
  | 4 => .boolean
  | 5 => .int
  | _ => .int
theorem nmX3 : ∀ a, a < 7 → ∀ b, b < 7 → a ≠ b → (TX3 a).2.1 ≠ (TX3 b).2.1 := by decide +kernel
theorem tyX3_ok : ∀ k, k < 7 → parseFieldDescriptor (TX3 k).2.2.1 = some (tyX3 k) := by decide +kernel
abbrev cX3_init : ByteArray := prog_5_method_1_code
def yX3_init : MethodName := ⟨RX3, "<init>", "()V"⟩
abbrev cX3_begin : ByteArray := prog_5_method_2_code
def yX3_begin : MethodName := ⟨RX3, "begin", "(III)V"⟩
abbrev cX3_goesBy : ByteArray := prog_5_method_3_code
def yX3_goesBy : MethodName := ⟨RX3, "goesBy", "(IC)Z"⟩
abbrev cX3_isLike : ByteArray := prog_5_method_4_code
def yX3_isLike : MethodName := ⟨RX3, "isLike", "(LSilkloft$Finding;)Z"⟩
def RX4 : String := "Silkloft$Load"
def TX4 : u_T := fun k => match k with
  | 0 => ("Silkloft$Load", "aboard", "I", false)
  | 1 => ("Silkloft$Load", "hasJumped", "Z", false)
  | 2 => ("Silkloft$Load", "mains", "[I", true)
  | _ => ("Silkloft$Load", "reserves", "[I", true)
def tyX4 : Nat → FieldType := fun k => match k with
  | 0 => .int
  | 1 => .boolean
  | 2 => .array .int
  | _ => .array .int
theorem nmX4 : ∀ a, a < 4 → ∀ b, b < 4 → a ≠ b → (TX4 a).2.1 ≠ (TX4 b).2.1 := by decide +kernel
theorem tyX4_ok : ∀ k, k < 4 → parseFieldDescriptor (TX4 k).2.2.1 = some (tyX4 k) := by decide +kernel
abbrev cX4_init : ByteArray := prog_6_method_1_code
def yX4_init : MethodName := ⟨RX4, "<init>", "()V"⟩
abbrev cX4_begin : ByteArray := prog_6_method_2_code
def yX4_begin : MethodName := ⟨RX4, "begin", "()V"⟩
abbrev cX4_isLike : ByteArray := prog_6_method_3_code
def yX4_isLike : MethodName := ⟨RX4, "isLike", "(LSilkloft$Load;)Z"⟩
def RX5 : String := "Silkloft$Loft"
def TX5 : u_T := fun k => match k with
  | 0 => ("Silkloft$Loft", "riggers", "[LSilkloft$Rigger;", true)
  | 1 => ("Silkloft$Loft", "canopies", "[LSilkloft$Canopy;", true)
  | 2 => ("Silkloft$Loft", "loads", "[LSilkloft$Load;", true)
  | 3 => ("Silkloft$Loft", "findings", "[LSilkloft$Finding;", true)
  | 4 => ("Silkloft$Loft", "book", "LSilkloft$Book;", true)
  | 5 => ("Silkloft$Loft", "riggerCount", "I", false)
  | 6 => ("Silkloft$Loft", "canopyCount", "I", false)
  | 7 => ("Silkloft$Loft", "loadCount", "I", false)
  | 8 => ("Silkloft$Loft", "findingCount", "I", false)
  | 9 => ("Silkloft$Loft", "day", "I", false)
  | 10 => ("Silkloft$Loft", "period", "I", false)
  | 11 => ("Silkloft$Loft", "keptSum", "J", false)
  | _ => ("Silkloft$Loft", "actCount", "I", false)
def tyX5 : Nat → FieldType := fun k => match k with
  | 0 => .array (.object "Silkloft$Rigger")
  | 1 => .array (.object "Silkloft$Canopy")
  | 2 => .array (.object "Silkloft$Load")
  | 3 => .array (.object "Silkloft$Finding")
  | 4 => .object "Silkloft$Book"
  | 5 => .int
  | 6 => .int
  | 7 => .int
  | 8 => .int
  | 9 => .int
  | 10 => .int
  | 11 => .long
  | _ => .int
theorem nmX5 : ∀ a, a < 13 → ∀ b, b < 13 → a ≠ b → (TX5 a).2.1 ≠ (TX5 b).2.1 := by decide +kernel
theorem tyX5_ok : ∀ k, k < 13 → parseFieldDescriptor (TX5 k).2.2.1 = some (tyX5 k) := by decide +kernel
abbrev cX5_init : ByteArray := prog_7_method_1_code
def yX5_init : MethodName := ⟨RX5, "<init>", "()V"⟩
abbrev cX5_clear : ByteArray := prog_7_method_2_code
def yX5_clear : MethodName := ⟨RX5, "clear", "()V"⟩
abbrev cX5_hasRigger : ByteArray := prog_7_method_3_code
def yX5_hasRigger : MethodName := ⟨RX5, "hasRigger", "(I)Z"⟩
abbrev cX5_hasCanopy : ByteArray := prog_7_method_4_code
def yX5_hasCanopy : MethodName := ⟨RX5, "hasCanopy", "(I)Z"⟩
abbrev cX5_hasLoad : ByteArray := prog_7_method_5_code
def yX5_hasLoad : MethodName := ⟨RX5, "hasLoad", "(I)Z"⟩
abbrev cX5_hasFinding : ByteArray := prog_7_method_6_code
def yX5_hasFinding : MethodName := ⟨RX5, "hasFinding", "(I)Z"⟩
abbrev cX5_perform : ByteArray := prog_7_method_7_code
def yX5_perform : MethodName := ⟨RX5, "perform", "(IIIII)I"⟩
abbrev cX5_enrol : ByteArray := prog_7_method_8_code
def yX5_enrol : MethodName := ⟨RX5, "enrol", "(II)I"⟩
abbrev cX5_relicense : ByteArray := prog_7_method_9_code
def yX5_relicense : MethodName := ⟨RX5, "relicense", "(III)I"⟩
abbrev cX5_enter : ByteArray := prog_7_method_10_code
def yX5_enter : MethodName := ⟨RX5, "enter", "(CIII)I"⟩
abbrev cX5_changePeriod : ByteArray := prog_7_method_11_code
def yX5_changePeriod : MethodName := ⟨RX5, "changePeriod", "(I)I"⟩
abbrev cX5_letDaysPass : ByteArray := prog_7_method_12_code
def yX5_letDaysPass : MethodName := ⟨RX5, "letDaysPass", "(I)I"⟩
abbrev cX5_putOnHook : ByteArray := prog_7_method_13_code
def yX5_putOnHook : MethodName := ⟨RX5, "putOnHook", "(II)I"⟩
abbrev cX5_isHookFree : ByteArray := prog_7_method_14_code
def yX5_isHookFree : MethodName := ⟨RX5, "isHookFree", "(I)Z"⟩
abbrev cX5_doStep : ByteArray := prog_7_method_15_code
def yX5_doStep : MethodName := ⟨RX5, "doStep", "(II)I"⟩
abbrev cX5_endPacking : ByteArray := prog_7_method_16_code
def yX5_endPacking : MethodName := ⟨RX5, "endPacking", "(I)V"⟩
abbrev cX5_takeOffHook : ByteArray := prog_7_method_17_code
def yX5_takeOffHook : MethodName := ⟨RX5, "takeOffHook", "(LSilkloft$Canopy;)I"⟩
abbrev cX5_beginLoad : ByteArray := prog_7_method_18_code
def yX5_beginLoad : MethodName := ⟨RX5, "beginLoad", "()I"⟩
abbrev cX5_putAboard : ByteArray := prog_7_method_19_code
def yX5_putAboard : MethodName := ⟨RX5, "putAboard", "(LSilkloft$Load;II)I"⟩
abbrev cX5_takeLastOff : ByteArray := prog_7_method_20_code
def yX5_takeLastOff : MethodName := ⟨RX5, "takeLastOff", "(LSilkloft$Load;)I"⟩
abbrev cX5_letJump : ByteArray := prog_7_method_21_code
def yX5_letJump : MethodName := ⟨RX5, "letJump", "(LSilkloft$Load;I)I"⟩
abbrev cX5_noteFinding : ByteArray := prog_7_method_22_code
def yX5_noteFinding : MethodName := ⟨RX5, "noteFinding", "(I)I"⟩
abbrev cX5_noteFindingIfRoom : ByteArray := prog_7_method_23_code
def yX5_noteFindingIfRoom : MethodName := ⟨RX5, "noteFindingIfRoom", "(I)V"⟩
abbrev cX5_raiseLevel : ByteArray := prog_7_method_24_code
def yX5_raiseLevel : MethodName := ⟨RX5, "raiseLevel", "(LSilkloft$Finding;)I"⟩
abbrev cX5_noteCause : ByteArray := prog_7_method_25_code
def yX5_noteCause : MethodName := ⟨RX5, "noteCause", "(LSilkloft$Finding;C)I"⟩
abbrev cX5_shut : ByteArray := prog_7_method_26_code
def yX5_shut : MethodName := ⟨RX5, "shut", "(LSilkloft$Finding;)I"⟩
abbrev cX5_mend : ByteArray := prog_7_method_27_code
def yX5_mend : MethodName := ⟨RX5, "mend", "(I)I"⟩
abbrev cX5_tryOut : ByteArray := prog_7_method_28_code
def yX5_tryOut : MethodName := ⟨RX5, "tryOut", "(IZ)I"⟩
abbrev cX5_handOut : ByteArray := prog_7_method_29_code
def yX5_handOut : MethodName := ⟨RX5, "handOut", "(LSilkloft$Canopy;II)I"⟩
abbrev cX5_takeIn : ByteArray := prog_7_method_30_code
def yX5_takeIn : MethodName := ⟨RX5, "takeIn", "(IZZ)I"⟩
abbrev cX5_isFitToJump : ByteArray := prog_7_method_31_code
def yX5_isFitToJump : MethodName := ⟨RX5, "isFitToJump", "(I)Z"⟩
abbrev cX5_isTooOld : ByteArray := prog_7_method_32_code
def yX5_isTooOld : MethodName := ⟨RX5, "isTooOld", "(LSilkloft$Canopy;)Z"⟩
abbrev cX5_daysLeft : ByteArray := prog_7_method_33_code
def yX5_daysLeft : MethodName := ⟨RX5, "daysLeft", "(LSilkloft$Canopy;)I"⟩
abbrev cX5_isOnGround : ByteArray := prog_7_method_34_code
def yX5_isOnGround : MethodName := ⟨RX5, "isOnGround", "(I)Z"⟩
abbrev cX5_countGroundedBy : ByteArray := prog_7_method_35_code
def yX5_countGroundedBy : MethodName := ⟨RX5, "countGroundedBy", "(I)I"⟩
abbrev cX5_isReachedBy : ByteArray := prog_7_method_36_code
def yX5_isReachedBy : MethodName := ⟨RX5, "isReachedBy", "(LSilkloft$Finding;I)Z"⟩
abbrev cX5_isFreeOf : ByteArray := prog_7_method_37_code
def yX5_isFreeOf : MethodName := ⟨RX5, "isFreeOf", "(LSilkloft$Finding;I)Z"⟩
abbrev cX5_countSharers : ByteArray := prog_7_method_38_code
def yX5_countSharers : MethodName := ⟨RX5, "countSharers", "(I)I"⟩
abbrev cX5_firstReserveToRepack : ByteArray := prog_7_method_39_code
def yX5_firstReserveToRepack : MethodName := ⟨RX5, "firstReserveToRepack", "()I"⟩
abbrev cX5_sumOfDeposits : ByteArray := prog_7_method_40_code
def yX5_sumOfDeposits : MethodName := ⟨RX5, "sumOfDeposits", "()J"⟩
abbrev cX5_countGrounded : ByteArray := prog_7_method_41_code
def yX5_countGrounded : MethodName := ⟨RX5, "countGrounded", "()I"⟩
abbrev cX5_sumOfGoodDrops : ByteArray := prog_7_method_42_code
def yX5_sumOfGoodDrops : MethodName := ⟨RX5, "sumOfGoodDrops", "()I"⟩
abbrev cX5_isLike : ByteArray := prog_7_method_43_code
def yX5_isLike : MethodName := ⟨RX5, "isLike", "(LSilkloft$Loft;)Z"⟩
abbrev cX5_hasRiggersLike : ByteArray := prog_7_method_44_code
def yX5_hasRiggersLike : MethodName := ⟨RX5, "hasRiggersLike", "(LSilkloft$Loft;)Z"⟩
abbrev cX5_hasCanopiesLike : ByteArray := prog_7_method_45_code
def yX5_hasCanopiesLike : MethodName := ⟨RX5, "hasCanopiesLike", "(LSilkloft$Loft;)Z"⟩
abbrev cX5_hasLoadsLike : ByteArray := prog_7_method_46_code
def yX5_hasLoadsLike : MethodName := ⟨RX5, "hasLoadsLike", "(LSilkloft$Loft;)Z"⟩
abbrev cX5_hasFindingsLike : ByteArray := prog_7_method_47_code
def yX5_hasFindingsLike : MethodName := ⟨RX5, "hasFindingsLike", "(LSilkloft$Loft;)Z"⟩
def RX6 : String := "Silkloft$Refusal"
def TX6 : u_T := fun k => match k with
  | _ => ("", "", "", false)
def tyX6 : Nat → FieldType := fun k => match k with
  | _ => .int
theorem nmX6 : ∀ a, a < 0 → ∀ b, b < 0 → a ≠ b → (TX6 a).2.1 ≠ (TX6 b).2.1 := by decide +kernel
theorem tyX6_ok : ∀ k, k < 0 → parseFieldDescriptor (TX6 k).2.2.1 = some (tyX6 k) := by decide +kernel
def RX7 : String := "Silkloft$Rigger"
def TX7 : u_T := fun k => match k with
  | 0 => ("Silkloft$Rigger", "licences", "I", false)
  | _ => ("Silkloft$Rigger", "until", "I", false)
def tyX7 : Nat → FieldType := fun k => match k with
  | 0 => .int
  | _ => .int
theorem nmX7 : ∀ a, a < 2 → ∀ b, b < 2 → a ≠ b → (TX7 a).2.1 ≠ (TX7 b).2.1 := by decide +kernel
theorem tyX7_ok : ∀ k, k < 2 → parseFieldDescriptor (TX7 k).2.2.1 = some (tyX7 k) := by decide +kernel
abbrev cX7_init : ByteArray := prog_9_method_1_code
def yX7_init : MethodName := ⟨RX7, "<init>", "()V"⟩
abbrev cX7_set : ByteArray := prog_9_method_2_code
def yX7_set : MethodName := ⟨RX7, "set", "(II)V"⟩
abbrev cX7_may : ByteArray := prog_9_method_3_code
def yX7_may : MethodName := ⟨RX7, "may", "(II)Z"⟩
abbrev cX7_isLike : ByteArray := prog_9_method_4_code
def yX7_isLike : MethodName := ⟨RX7, "isLike", "(LSilkloft$Rigger;)Z"⟩
def RX8 : String := "Silkloft$Rules"
def TX8 : u_T := fun k => match k with
  | _ => ("", "", "", false)
def tyX8 : Nat → FieldType := fun k => match k with
  | _ => .int
theorem nmX8 : ∀ a, a < 0 → ∀ b, b < 0 → a ≠ b → (TX8 a).2.1 ≠ (TX8 b).2.1 := by decide +kernel
theorem tyX8_ok : ∀ k, k < 0 → parseFieldDescriptor (TX8 k).2.2.1 = some (tyX8 k) := by decide +kernel
abbrev cX8_refusalOf : ByteArray := prog_10_method_2_code
def yX8_refusalOf : MethodName := ⟨RX8, "refusalOf", "(LSilkloft$Loft;IIIII)LSilkloft$Refusal;"⟩
abbrev cX8_isIn : ByteArray := prog_10_method_3_code
def yX8_isIn : MethodName := ⟨RX8, "isIn", "(III)Z"⟩
abbrev cX8_areLicences : ByteArray := prog_10_method_4_code
def yX8_areLicences : MethodName := ⟨RX8, "areLicences", "(II)Z"⟩
abbrev cX8_ofAddRigger : ByteArray := prog_10_method_5_code
def yX8_ofAddRigger : MethodName := ⟨RX8, "ofAddRigger", "(LSilkloft$Loft;II)LSilkloft$Refusal;"⟩
abbrev cX8_ofSetLicences : ByteArray := prog_10_method_6_code
def yX8_ofSetLicences : MethodName := ⟨RX8, "ofSetLicences", "(LSilkloft$Loft;III)LSilkloft$Refusal;"⟩
abbrev cX8_ofAddCanopy : ByteArray := prog_10_method_7_code
def yX8_ofAddCanopy : MethodName := ⟨RX8, "ofAddCanopy", "(LSilkloft$Loft;IIII)LSilkloft$Refusal;"⟩
abbrev cX8_ofGoOn : ByteArray := prog_10_method_8_code
def yX8_ofGoOn : MethodName := ⟨RX8, "ofGoOn", "(LSilkloft$Loft;I)LSilkloft$Refusal;"⟩
abbrev cX8_ofCanopyIn : ByteArray := prog_10_method_9_code
def yX8_ofCanopyIn : MethodName := ⟨RX8, "ofCanopyIn", "(LSilkloft$Loft;IC)LSilkloft$Refusal;"⟩
abbrev cX8_ofHang : ByteArray := prog_10_method_10_code
def yX8_ofHang : MethodName := ⟨RX8, "ofHang", "(LSilkloft$Loft;II)LSilkloft$Refusal;"⟩
abbrev cX8_ofStep : ByteArray := prog_10_method_11_code
def yX8_ofStep : MethodName := ⟨RX8, "ofStep", "(LSilkloft$Loft;II)LSilkloft$Refusal;"⟩
abbrev cX8_ofBoard : ByteArray := prog_10_method_12_code
def yX8_ofBoard : MethodName := ⟨RX8, "ofBoard", "(LSilkloft$Loft;III)LSilkloft$Refusal;"⟩
abbrev cX8_ofLeave : ByteArray := prog_10_method_13_code
def yX8_ofLeave : MethodName := ⟨RX8, "ofLeave", "(LSilkloft$Loft;I)LSilkloft$Refusal;"⟩
abbrev cX8_ofJump : ByteArray := prog_10_method_14_code
def yX8_ofJump : MethodName := ⟨RX8, "ofJump", "(LSilkloft$Loft;I)LSilkloft$Refusal;"⟩
abbrev cX8_ofFind : ByteArray := prog_10_method_15_code
def yX8_ofFind : MethodName := ⟨RX8, "ofFind", "(LSilkloft$Loft;I)LSilkloft$Refusal;"⟩
abbrev cX8_ofWiden : ByteArray := prog_10_method_16_code
def yX8_ofWiden : MethodName := ⟨RX8, "ofWiden", "(LSilkloft$Loft;I)LSilkloft$Refusal;"⟩
abbrev cX8_ofTellCause : ByteArray := prog_10_method_17_code
def yX8_ofTellCause : MethodName := ⟨RX8, "ofTellCause", "(LSilkloft$Loft;II)LSilkloft$Refusal;"⟩
abbrev cX8_ofRepair : ByteArray := prog_10_method_18_code
def yX8_ofRepair : MethodName := ⟨RX8, "ofRepair", "(LSilkloft$Loft;II)LSilkloft$Refusal;"⟩
abbrev cX8_ofHire : ByteArray := prog_10_method_19_code
def yX8_ofHire : MethodName := ⟨RX8, "ofHire", "(LSilkloft$Loft;III)LSilkloft$Refusal;"⟩
def RX9 : String := "Silkloft"
def TX9 : u_T := fun k => match k with
  | 0 => ("Silkloft", "loft", "LSilkloft$Loft;", true)
  | 1 => ("Silkloft", "again", "LSilkloft$Loft;", true)
  | _ => ("Silkloft", "diary", "LSilkloft$Diary;", true)
def tyX9 : Nat → FieldType := fun k => match k with
  | 0 => .object "Silkloft$Loft"
  | 1 => .object "Silkloft$Loft"
  | _ => .object "Silkloft$Diary"
theorem nmX9 : ∀ a, a < 3 → ∀ b, b < 3 → a ≠ b → (TX9 a).2.1 ≠ (TX9 b).2.1 := by decide +kernel
theorem tyX9_ok : ∀ k, k < 3 → parseFieldDescriptor (TX9 k).2.2.1 = some (tyX9 k) := by decide +kernel
abbrev cX9_init : ByteArray := prog_1_method_1_code
def yX9_init : MethodName := ⟨RX9, "<init>", "()V"⟩
abbrev cX9_addRigger : ByteArray := prog_1_method_2_code
def yX9_addRigger : MethodName := ⟨RX9, "addRigger", "(II)I"⟩
abbrev cX9_addCanopy : ByteArray := prog_1_method_4_code
def yX9_addCanopy : MethodName := ⟨RX9, "addCanopy", "(CIII)I"⟩
abbrev cX9_setPeriod : ByteArray := prog_1_method_5_code
def yX9_setPeriod : MethodName := ⟨RX9, "setPeriod", "(I)I"⟩
abbrev cX9_goOn : ByteArray := prog_1_method_6_code
def yX9_goOn : MethodName := ⟨RX9, "goOn", "(I)I"⟩
abbrev cX9_hang : ByteArray := prog_1_method_7_code
def yX9_hang : MethodName := ⟨RX9, "hang", "(II)I"⟩
abbrev cX9_step : ByteArray := prog_1_method_8_code
def yX9_step : MethodName := ⟨RX9, "step", "(II)I"⟩
abbrev cX9_breakOff : ByteArray := prog_1_method_9_code
def yX9_breakOff : MethodName := ⟨RX9, "breakOff", "(I)I"⟩
abbrev cX9_load : ByteArray := prog_1_method_10_code
def yX9_load : MethodName := ⟨RX9, "load", "()I"⟩
abbrev cX9_board : ByteArray := prog_1_method_11_code
def yX9_board : MethodName := ⟨RX9, "board", "(III)I"⟩
abbrev cX9_leave : ByteArray := prog_1_method_12_code
def yX9_leave : MethodName := ⟨RX9, "leave", "(I)I"⟩
abbrev cX9_jump : ByteArray := prog_1_method_13_code
def yX9_jump : MethodName := ⟨RX9, "jump", "(II)I"⟩
abbrev cX9_find : ByteArray := prog_1_method_14_code
def yX9_find : MethodName := ⟨RX9, "find", "(I)I"⟩
abbrev cX9_widen : ByteArray := prog_1_method_15_code
def yX9_widen : MethodName := ⟨RX9, "widen", "(I)I"⟩
abbrev cX9_tellCause : ByteArray := prog_1_method_16_code
def yX9_tellCause : MethodName := ⟨RX9, "tellCause", "(IC)C"⟩
abbrev cX9_close : ByteArray := prog_1_method_17_code
def yX9_close : MethodName := ⟨RX9, "close", "(I)Z"⟩
abbrev cX9_grounds : ByteArray := prog_1_method_18_code
def yX9_grounds : MethodName := ⟨RX9, "grounds", "(I)I"⟩
abbrev cX9_repair : ByteArray := prog_1_method_19_code
def yX9_repair : MethodName := ⟨RX9, "repair", "(II)I"⟩
abbrev cX9_drop : ByteArray := prog_1_method_20_code
def yX9_drop : MethodName := ⟨RX9, "drop", "(IZ)I"⟩
abbrev cX9_hire : ByteArray := prog_1_method_21_code
def yX9_hire : MethodName := ⟨RX9, "hire", "(III)I"⟩
abbrev cX9_back : ByteArray := prog_1_method_22_code
def yX9_back : MethodName := ⟨RX9, "back", "(IZZ)I"⟩
abbrev cX9_stateOf : ByteArray := prog_1_method_23_code
def yX9_stateOf : MethodName := ⟨RX9, "stateOf", "(I)C"⟩
abbrev cX9_isGrounded : ByteArray := prog_1_method_24_code
def yX9_isGrounded : MethodName := ⟨RX9, "isGrounded", "(I)Z"⟩
abbrev cX9_isOut : ByteArray := prog_1_method_25_code
def yX9_isOut : MethodName := ⟨RX9, "isOut", "(I)Z"⟩
abbrev cX9_packings : ByteArray := prog_1_method_26_code
def yX9_packings : MethodName := ⟨RX9, "packings", "(I)I"⟩
abbrev cX9_packingOf : ByteArray := prog_1_method_27_code
def yX9_packingOf : MethodName := ⟨RX9, "packingOf", "(IIC)I"⟩
abbrev cX9_jumps : ByteArray := prog_1_method_28_code
def yX9_jumps : MethodName := ⟨RX9, "jumps", "(I)I"⟩
abbrev cX9_sharers : ByteArray := prog_1_method_29_code
def yX9_sharers : MethodName := ⟨RX9, "sharers", "(I)I"⟩
abbrev cX9_next : ByteArray := prog_1_method_30_code
def yX9_next : MethodName := ⟨RX9, "next", "()I"⟩
abbrev cX9_held : ByteArray := prog_1_method_31_code
def yX9_held : MethodName := ⟨RX9, "held", "()J"⟩
abbrev cX9_kept : ByteArray := prog_1_method_32_code
def yX9_kept : MethodName := ⟨RX9, "kept", "()J"⟩
abbrev cX9_groundedShare : ByteArray := prog_1_method_33_code
def yX9_groundedShare : MethodName := ⟨RX9, "groundedShare", "()F"⟩
abbrev cX9_meanDrops : ByteArray := prog_1_method_34_code
def yX9_meanDrops : MethodName := ⟨RX9, "meanDrops", "()D"⟩
abbrev cX9_isSound : ByteArray := prog_1_method_35_code
def yX9_isSound : MethodName := ⟨RX9, "isSound", "()Z"⟩
abbrev cX9_canopyAt : ByteArray := prog_1_method_36_code
def yX9_canopyAt : MethodName := ⟨RX9, "canopyAt", "(I)LSilkloft$Canopy;"⟩
abbrev cX9_act : ByteArray := prog_1_method_37_code
def yX9_act : MethodName := ⟨RX9, "act", "(IIIII)I"⟩
abbrev cX9_throwFor : ByteArray := prog_1_method_38_code
def yX9_throwFor : MethodName := ⟨RX9, "throwFor", "(LSilkloft$Refusal;)V"⟩
def RX10 : String := "SilkloftModel"
def TX10 : u_T := fun k => match k with
  | _ => ("", "", "", false)
def tyX10 : Nat → FieldType := fun k => match k with
  | _ => .int
theorem nmX10 : ∀ a, a < 0 → ∀ b, b < 0 → a ≠ b → (TX10 a).2.1 ≠ (TX10 b).2.1 := by decide +kernel
theorem tyX10_ok : ∀ k, k < 0 → parseFieldDescriptor (TX10 k).2.2.1 = some (tyX10 k) := by decide +kernel
def RJx145de : String := "java/io/Serializable"
def TJx145de : u_T := fun k => match k with
  | _ => ("", "", "", false)
def tyJx145de : Nat → FieldType := fun k => match k with
  | _ => .int
theorem nmJx145de : ∀ a, a < 0 → ∀ b, b < 0 → a ≠ b → (TJx145de a).2.1 ≠ (TJx145de b).2.1 := by decide +kernel
theorem tyJx145de_ok : ∀ k, k < 0 → parseFieldDescriptor (TJx145de k).2.2.1 = some (tyJx145de k) := by decide +kernel
def RJx00060 : String := "java/lang/ArrayIndexOutOfBoundsException"
def TJx00060 : u_T := fun k => match k with
  | 0 => ("java/lang/Throwable", "backtrace", "Ljava/lang/Object;", false)
  | 1 => ("java/lang/Throwable", "detailMessage", "Ljava/lang/String;", false)
  | 2 => ("java/lang/Throwable", "cause", "Ljava/lang/Throwable;", false)
  | 3 => ("java/lang/Throwable", "stackTrace", "[Ljava/lang/StackTraceElement;", false)
  | 4 => ("java/lang/Throwable", "depth", "I", false)
  | _ => ("java/lang/Throwable", "suppressedExceptions", "Ljava/util/List;", false)
def tyJx00060 : Nat → FieldType := fun k => match k with
  | 0 => .object "java/lang/Object"
  | 1 => .object "java/lang/String"
  | 2 => .object "java/lang/Throwable"
  | 3 => .array (.object "java/lang/StackTraceElement")
  | 4 => .int
  | _ => .object "java/util/List"
theorem nmJx00060 : ∀ a, a < 6 → ∀ b, b < 6 → a ≠ b → (TJx00060 a).2.1 ≠ (TJx00060 b).2.1 := by decide +kernel
theorem tyJx00060_ok : ∀ k, k < 6 → parseFieldDescriptor (TJx00060 k).2.2.1 = some (tyJx00060 k) := by decide +kernel
abbrev cJx00060_init_a7421 : ByteArray := prog_15_method_2_code
def yJx00060_init_a7421 : MethodName := ⟨RJx00060, "<init>", "(Ljava/lang/String;)V"⟩
def RJx9f9b0 : String := "java/lang/CharSequence"
def TJx9f9b0 : u_T := fun k => match k with
  | _ => ("", "", "", false)
def tyJx9f9b0 : Nat → FieldType := fun k => match k with
  | _ => .int
theorem nmJx9f9b0 : ∀ a, a < 0 → ∀ b, b < 0 → a ≠ b → (TJx9f9b0 a).2.1 ≠ (TJx9f9b0 b).2.1 := by decide +kernel
theorem tyJx9f9b0_ok : ∀ k, k < 0 → parseFieldDescriptor (TJx9f9b0 k).2.2.1 = some (tyJx9f9b0 k) := by decide +kernel
def RJ11 : String := "java/lang/Character"
def TJ11 : u_T := fun k => match k with
  | _ => ("", "", "", false)
def tyJ11 : Nat → FieldType := fun k => match k with
  | _ => .int
theorem nmJ11 : ∀ a, a < 0 → ∀ b, b < 0 → a ≠ b → (TJ11 a).2.1 ≠ (TJ11 b).2.1 := by decide +kernel
theorem tyJ11_ok : ∀ k, k < 0 → parseFieldDescriptor (TJ11 k).2.2.1 = some (tyJ11 k) := by decide +kernel
abbrev cJ11_isValidCodePoint_9a6ad : ByteArray := prog_17_method_11_code
def yJ11_isValidCodePoint_9a6ad : MethodName := ⟨RJ11, "isValidCodePoint", "(I)Z"⟩
abbrev cJ11_highSurrogate_5068e : ByteArray := prog_17_method_28_code
def yJ11_highSurrogate_5068e : MethodName := ⟨RJ11, "highSurrogate", "(I)C"⟩
abbrev cJ11_lowSurrogate_5068e : ByteArray := prog_17_method_29_code
def yJ11_lowSurrogate_5068e : MethodName := ⟨RJ11, "lowSurrogate", "(I)C"⟩
def RJxb160c : String := "java/lang/Comparable"
def TJxb160c : u_T := fun k => match k with
  | _ => ("", "", "", false)
def tyJxb160c : Nat → FieldType := fun k => match k with
  | _ => .int
theorem nmJxb160c : ∀ a, a < 0 → ∀ b, b < 0 → a ≠ b → (TJxb160c a).2.1 ≠ (TJxb160c b).2.1 := by decide +kernel
theorem tyJxb160c_ok : ∀ k, k < 0 → parseFieldDescriptor (TJxb160c k).2.2.1 = some (tyJxb160c k) := by decide +kernel
def RJx29ce0 : String := "java/lang/Enum"
def TJx29ce0 : u_T := fun k => match k with
  | _ => ("", "", "", false)
def tyJx29ce0 : Nat → FieldType := fun k => match k with
  | _ => .int
theorem nmJx29ce0 : ∀ a, a < 0 → ∀ b, b < 0 → a ≠ b → (TJx29ce0 a).2.1 ≠ (TJx29ce0 b).2.1 := by decide +kernel
theorem tyJx29ce0_ok : ∀ k, k < 0 → parseFieldDescriptor (TJx29ce0 k).2.2.1 = some (tyJx29ce0 k) := by decide +kernel
def RJ9 : String := "java/lang/Math"
def TJ9 : u_T := fun k => match k with
  | _ => ("", "", "", false)
def tyJ9 : Nat → FieldType := fun k => match k with
  | _ => .int
theorem nmJ9 : ∀ a, a < 0 → ∀ b, b < 0 → a ≠ b → (TJ9 a).2.1 ≠ (TJ9 b).2.1 := by decide +kernel
theorem tyJ9_ok : ∀ k, k < 0 → parseFieldDescriptor (TJ9 k).2.2.1 = some (tyJ9 k) := by decide +kernel
abbrev cJ9_max_7cf53 : ByteArray := prog_24_method_65_code
def yJ9_max_7cf53 : MethodName := ⟨RJ9, "max", "(II)I"⟩
abbrev cJ9_min_7cf53 : ByteArray := prog_24_method_69_code
def yJ9_min_7cf53 : MethodName := ⟨RJ9, "min", "(II)I"⟩
def RJ0 : String := "java/lang/String"
def TJ0 : u_T := fun k => match k with
  | 0 => ("java/lang/String", "value", "[B", true)
  | _ => ("java/lang/String", "coder", "B", true)
def tyJ0 : Nat → FieldType := fun k => match k with
  | 0 => .array .byte
  | _ => .byte
theorem nmJ0 : ∀ a, a < 2 → ∀ b, b < 2 → a ≠ b → (TJ0 a).2.1 ≠ (TJ0 b).2.1 := by decide +kernel
theorem tyJ0_ok : ∀ k, k < 2 → parseFieldDescriptor (TJ0 k).2.2.1 = some (tyJ0 k) := by decide +kernel
abbrev cJ0_length_8abf5 : ByteArray := prog_26_method_54_code
def yJ0_length_8abf5 : MethodName := ⟨RJ0, "length", "()I"⟩
abbrev cJ0_charAt_5068e : ByteArray := prog_26_method_56_code
def yJ0_charAt_5068e : MethodName := ⟨RJ0, "charAt", "(I)C"⟩
abbrev cJ0_indexOf_0f7a4 : ByteArray := prog_26_method_79_code
def yJ0_indexOf_0f7a4 : MethodName := ⟨RJ0, "indexOf", "(I)I"⟩
abbrev cJ0_indexOf_7cf53 : ByteArray := prog_26_method_80_code
def yJ0_indexOf_7cf53 : MethodName := ⟨RJ0, "indexOf", "(II)I"⟩
abbrev cJ0_coder_7d493 : ByteArray := prog_26_method_152_code
def yJ0_coder_7d493 : MethodName := ⟨RJ0, "coder", "()B"⟩
abbrev cJ0_isLatin1_aae02 : ByteArray := prog_26_method_154_code
def yJ0_isLatin1_aae02 : MethodName := ⟨RJ0, "isLatin1", "()Z"⟩
abbrev cJ0_checkIndex_df160 : ByteArray := prog_26_method_155_code
def yJ0_checkIndex_df160 : MethodName := ⟨RJ0, "checkIndex", "(II)V"⟩
abbrev cJ0_checkBoundsBeginEnd_23922 : ByteArray := prog_26_method_158_code
def yJ0_checkBoundsBeginEnd_23922 : MethodName := ⟨RJ0, "checkBoundsBeginEnd", "(III)V"⟩
def RJ1 : String := "java/lang/StringLatin1"
def TJ1 : u_T := fun k => match k with
  | _ => ("", "", "", false)
def tyJ1 : Nat → FieldType := fun k => match k with
  | _ => .int
theorem nmJ1 : ∀ a, a < 0 → ∀ b, b < 0 → a ≠ b → (TJ1 a).2.1 ≠ (TJ1 b).2.1 := by decide +kernel
theorem tyJ1_ok : ∀ k, k < 0 → parseFieldDescriptor (TJ1 k).2.2.1 = some (tyJ1 k) := by decide +kernel
abbrev cJ1_charAt_3b067 : ByteArray := prog_27_method_2_code
def yJ1_charAt_3b067 : MethodName := ⟨RJ1, "charAt", "([BI)C"⟩
abbrev cJ1_canEncode_9a6ad : ByteArray := prog_27_method_4_code
def yJ1_canEncode_9a6ad : MethodName := ⟨RJ1, "canEncode", "(I)Z"⟩
abbrev cJ1_indexOf_4cfef : ByteArray := prog_27_method_22_code
def yJ1_indexOf_4cfef : MethodName := ⟨RJ1, "indexOf", "([BIII)I"⟩
abbrev cJ1_indexOfChar_4cfef : ByteArray := prog_27_method_23_code
def yJ1_indexOfChar_4cfef : MethodName := ⟨RJ1, "indexOfChar", "([BIII)I"⟩
def RJ2 : String := "java/lang/StringUTF16"
def TJ2 : u_T := fun k => match k with
  | _ => ("", "", "", false)
def tyJ2 : Nat → FieldType := fun k => match k with
  | _ => .int
theorem nmJ2 : ∀ a, a < 0 → ∀ b, b < 0 → a ≠ b → (TJ2 a).2.1 ≠ (TJ2 b).2.1 := by decide +kernel
theorem tyJ2_ok : ∀ k, k < 0 → parseFieldDescriptor (TJ2 k).2.2.1 = some (tyJ2 k) := by decide +kernel
abbrev cJ2_getChar_3b067 : ByteArray := prog_28_method_5_code
def yJ2_getChar_3b067 : MethodName := ⟨RJ2, "getChar", "([BI)C"⟩
abbrev cJ2_length_9d52b : ByteArray := prog_28_method_6_code
def yJ2_length_9d52b : MethodName := ⟨RJ2, "length", "([B)I"⟩
abbrev cJ2_indexOf_4cfef : ByteArray := prog_28_method_40_code
def yJ2_indexOf_4cfef : MethodName := ⟨RJ2, "indexOf", "([BIII)I"⟩
abbrev cJ2_indexOfChar_4cfef : ByteArray := prog_28_method_47_code
def yJ2_indexOfChar_4cfef : MethodName := ⟨RJ2, "indexOfChar", "([BIII)I"⟩
abbrev cJ2_indexOfCharUnsafe_4cfef : ByteArray := prog_28_method_48_code
def yJ2_indexOfCharUnsafe_4cfef : MethodName := ⟨RJ2, "indexOfCharUnsafe", "([BIII)I"⟩
abbrev cJ2_indexOfSupplementary_4cfef : ByteArray := prog_28_method_49_code
def yJ2_indexOfSupplementary_4cfef : MethodName := ⟨RJ2, "indexOfSupplementary", "([BIII)I"⟩
abbrev cJ2_charAt_3b067 : ByteArray := prog_28_method_83_code
def yJ2_charAt_3b067 : MethodName := ⟨RJ2, "charAt", "([BI)C"⟩
abbrev cJ2_checkIndex_2214a : ByteArray := prog_28_method_91_code
def yJ2_checkIndex_2214a : MethodName := ⟨RJ2, "checkIndex", "(I[B)V"⟩
abbrev cJ2_checkBoundsBeginEnd_d044e : ByteArray := prog_28_method_93_code
def yJ2_checkBoundsBeginEnd_d044e : MethodName := ⟨RJ2, "checkBoundsBeginEnd", "(II[B)V"⟩
def RJxfd54e : String := "java/lang/constant/Constable"
def TJxfd54e : u_T := fun k => match k with
  | _ => ("", "", "", false)
def tyJxfd54e : Nat → FieldType := fun k => match k with
  | _ => .int
theorem nmJxfd54e : ∀ a, a < 0 → ∀ b, b < 0 → a ≠ b → (TJxfd54e a).2.1 ≠ (TJxfd54e b).2.1 := by decide +kernel
theorem tyJxfd54e_ok : ∀ k, k < 0 → parseFieldDescriptor (TJxfd54e k).2.2.1 = some (tyJxfd54e k) := by decide +kernel
def RJx3cf43 : String := "java/lang/constant/ConstantDesc"
def TJx3cf43 : u_T := fun k => match k with
  | _ => ("", "", "", false)
def tyJx3cf43 : Nat → FieldType := fun k => match k with
  | _ => .int
theorem nmJx3cf43 : ∀ a, a < 0 → ∀ b, b < 0 → a ≠ b → (TJx3cf43 a).2.1 ≠ (TJx3cf43 b).2.1 := by decide +kernel
theorem tyJx3cf43_ok : ∀ k, k < 0 → parseFieldDescriptor (TJx3cf43 k).2.2.1 = some (tyJx3cf43 k) := by decide +kernel
def RJ3 : String := "jdk/internal/util/Preconditions"
def TJ3 : u_T := fun k => match k with
  | _ => ("", "", "", false)
def tyJ3 : Nat → FieldType := fun k => match k with
  | _ => .int
theorem nmJ3 : ∀ a, a < 0 → ∀ b, b < 0 → a ≠ b → (TJ3 a).2.1 ≠ (TJ3 b).2.1 := by decide +kernel
theorem tyJ3_ok : ∀ k, k < 0 → parseFieldDescriptor (TJ3 k).2.2.1 = some (tyJ3 k) := by decide +kernel
abbrev cJ3_checkIndex_8e157 : ByteArray := prog_34_method_11_code
def yJ3_checkIndex_8e157 : MethodName := ⟨RJ3, "checkIndex", "(IILjava/util/function/BiFunction;)I"⟩
abbrev cJ3_checkFromToIndex_8c36e : ByteArray := prog_34_method_12_code
def yJ3_checkFromToIndex_8c36e : MethodName := ⟨RJ3, "checkFromToIndex", "(IIILjava/util/function/BiFunction;)I"⟩
def RL : String := "SilkloftLaw"
abbrev cL_cell : ByteArray := method_2_code
def yL_cell : MethodName := ⟨RL, "cell", "([II)I"⟩
abbrev cL_pick : ByteArray := method_3_code
def yL_pick : MethodName := ⟨RL, "pick", "([III)I"⟩
abbrev cL_addRigger : ByteArray := method_4_code
def yL_addRigger : MethodName := ⟨RL, "addRigger", "(LSilkloft;II)I"⟩
abbrev cL_addCanopy : ByteArray := method_5_code
def yL_addCanopy : MethodName := ⟨RL, "addCanopy", "(LSilkloft;CIII)I"⟩
abbrev cL_setPeriod : ByteArray := method_6_code
def yL_setPeriod : MethodName := ⟨RL, "setPeriod", "(LSilkloft;I)I"⟩
abbrev cL_goOn : ByteArray := method_7_code
def yL_goOn : MethodName := ⟨RL, "goOn", "(LSilkloft;I)I"⟩
abbrev cL_hang : ByteArray := method_8_code
def yL_hang : MethodName := ⟨RL, "hang", "(LSilkloft;II)I"⟩
abbrev cL_step : ByteArray := method_9_code
def yL_step : MethodName := ⟨RL, "step", "(LSilkloft;II)I"⟩
abbrev cL_breakOff : ByteArray := method_10_code
def yL_breakOff : MethodName := ⟨RL, "breakOff", "(LSilkloft;I)I"⟩
abbrev cL_load : ByteArray := method_11_code
def yL_load : MethodName := ⟨RL, "load", "(LSilkloft;)I"⟩
abbrev cL_board : ByteArray := method_12_code
def yL_board : MethodName := ⟨RL, "board", "(LSilkloft;III)I"⟩
abbrev cL_leave : ByteArray := method_13_code
def yL_leave : MethodName := ⟨RL, "leave", "(LSilkloft;I)I"⟩
abbrev cL_jump : ByteArray := method_14_code
def yL_jump : MethodName := ⟨RL, "jump", "(LSilkloft;II)I"⟩
abbrev cL_find : ByteArray := method_15_code
def yL_find : MethodName := ⟨RL, "find", "(LSilkloft;I)I"⟩
abbrev cL_widen : ByteArray := method_16_code
def yL_widen : MethodName := ⟨RL, "widen", "(LSilkloft;I)I"⟩
abbrev cL_tellCause : ByteArray := method_17_code
def yL_tellCause : MethodName := ⟨RL, "tellCause", "(LSilkloft;IC)I"⟩
abbrev cL_close : ByteArray := method_18_code
def yL_close : MethodName := ⟨RL, "close", "(LSilkloft;I)I"⟩
abbrev cL_grounds : ByteArray := method_19_code
def yL_grounds : MethodName := ⟨RL, "grounds", "(LSilkloft;I)I"⟩
abbrev cL_repair : ByteArray := method_20_code
def yL_repair : MethodName := ⟨RL, "repair", "(LSilkloft;II)I"⟩
abbrev cL_drop : ByteArray := method_21_code
def yL_drop : MethodName := ⟨RL, "drop", "(LSilkloft;IZ)I"⟩
abbrev cL_hire : ByteArray := method_22_code
def yL_hire : MethodName := ⟨RL, "hire", "(LSilkloft;III)I"⟩
abbrev cL_back : ByteArray := method_23_code
def yL_back : MethodName := ⟨RL, "back", "(LSilkloft;IZZ)I"⟩
abbrev cL_stateOf : ByteArray := method_24_code
def yL_stateOf : MethodName := ⟨RL, "stateOf", "(LSilkloft;I)I"⟩
abbrev cL_isGrounded : ByteArray := method_25_code
def yL_isGrounded : MethodName := ⟨RL, "isGrounded", "(LSilkloft;I)I"⟩
abbrev cL_isOut : ByteArray := method_26_code
def yL_isOut : MethodName := ⟨RL, "isOut", "(LSilkloft;I)I"⟩
abbrev cL_packings : ByteArray := method_27_code
def yL_packings : MethodName := ⟨RL, "packings", "(LSilkloft;I)I"⟩
abbrev cL_packingOf : ByteArray := method_28_code
def yL_packingOf : MethodName := ⟨RL, "packingOf", "(LSilkloft;IIC)I"⟩
abbrev cL_jumps : ByteArray := method_29_code
def yL_jumps : MethodName := ⟨RL, "jumps", "(LSilkloft;I)I"⟩
abbrev cL_sharers : ByteArray := method_30_code
def yL_sharers : MethodName := ⟨RL, "sharers", "(LSilkloft;I)I"⟩
abbrev cL_next : ByteArray := method_31_code
def yL_next : MethodName := ⟨RL, "next", "(LSilkloft;)I"⟩
abbrev cL_groundedShare : ByteArray := method_32_code
def yL_groundedShare : MethodName := ⟨RL, "groundedShare", "(LSilkloft;)F"⟩
abbrev cL_meanDrops : ByteArray := method_33_code
def yL_meanDrops : MethodName := ⟨RL, "meanDrops", "(LSilkloft;)D"⟩
abbrev cL_law : ByteArray := code
def yL_law : MethodName := ⟨RL, "law", "([I)Z"⟩
abbrev cL_acts : ByteArray := method_35_code
def yL_acts : MethodName := ⟨RL, "acts", "(LSilkloft;[II[J)Z"⟩
abbrev cL_areCanopies : ByteArray := method_36_code
def yL_areCanopies : MethodName := ⟨RL, "areCanopies", "(LSilkloft;[I[J)Z"⟩
abbrev cL_areFindings : ByteArray := method_37_code
def yL_areFindings : MethodName := ⟨RL, "areFindings", "(LSilkloft;)Z"⟩
abbrev cL_isThrown : ByteArray := method_38_code
def yL_isThrown : MethodName := ⟨RL, "isThrown", "(LSilkloft;)Z"⟩
/-- the words that every method of the claim is given -/
def lw_all : List Cond := lw_tbl.filter goodWord
theorem lw_mem {w : Cond} {i : Nat} (h : lw_tbl[i]? = some w) (g : goodWord w = true) : w ∈ lw_all := List.mem_filter.mpr ⟨List.mem_of_getElem? h, g⟩
theorem lw_in {w : Cond} (h : w ∈ lw_all) : w ∈ lw_tbl := (List.mem_filter.mp h).1
theorem lw_good {w : Cond} (h : w ∈ lw_all) : (w.onTables && w.keeps) = true ∨ ∃ ty, w = .arrayClass ty := good_of_word (List.mem_filter.mp h).2
theorem lw_of1 {w : Cond} (h : w ∈ tables_1) (g : goodWord w = true) : w ∈ lw_all := List.mem_filter.mpr ⟨List.mem_append_right _ h, g⟩
theorem lw_c1 {w : Cond} (h : w ∈ tables_1_1) (g : goodWord w = true) : w ∈ lw_all := lw_of1 (List.mem_append_left _ h) g
theorem lw_c2 {w : Cond} (h : w ∈ tables_1_2) (g : goodWord w = true) : w ∈ lw_all := lw_of1 (List.mem_append_right _ (List.mem_append_left _ h)) g
theorem lw_c3 {w : Cond} (h : w ∈ tables_1_3) (g : goodWord w = true) : w ∈ lw_all := lw_of1 (List.mem_append_right _ (List.mem_append_right _ (List.mem_append_left _ h))) g
theorem lw_c4 {w : Cond} (h : w ∈ tables_1_4) (g : goodWord w = true) : w ∈ lw_all := lw_of1 (List.mem_append_right _ (List.mem_append_right _ (List.mem_append_right _ (List.mem_append_left _ h)))) g
theorem lw_c5 {w : Cond} (h : w ∈ tables_1_5) (g : goodWord w = true) : w ∈ lw_all := lw_of1 (List.mem_append_right _ (List.mem_append_right _ (List.mem_append_right _ (List.mem_append_right _ (List.mem_append_left _ h))))) g
theorem lw_c6 {w : Cond} (h : w ∈ tables_1_6) (g : goodWord w = true) : w ∈ lw_all := lw_of1 (List.mem_append_right _ (List.mem_append_right _ (List.mem_append_right _ (List.mem_append_right _ (List.mem_append_right _ h))))) g
theorem lw_sel {q : MethodName × Nat} (h : q ∈ lw_privs) : Cond.selects q.1.cls q.1 q.1 ∈ lw_all := List.mem_filter.mpr ⟨List.mem_append_left _ (List.mem_map.mpr ⟨q, h, rfl⟩), rfl⟩
theorem m_0 : Jvm.Cond.initialized "SilkloftLaw" ∈ lw_all := lw_c1 (List.mem_of_getElem? (i := 0) rfl) rfl
theorem m_1 : Jvm.Cond.initialized "Silkloft" ∈ lw_all := lw_c1 (List.mem_of_getElem? (i := 1) rfl) rfl
theorem m_2 : Jvm.Cond.initialized "Silkloft$Loft" ∈ lw_all := lw_c1 (List.mem_of_getElem? (i := 2) rfl) rfl
theorem m_3 : Jvm.Cond.initialized "Silkloft$Book" ∈ lw_all := lw_c1 (List.mem_of_getElem? (i := 3) rfl) rfl
theorem m_4 : Jvm.Cond.initialized "Silkloft$Rigger" ∈ lw_all := lw_c1 (List.mem_of_getElem? (i := 4) rfl) rfl
theorem m_5 : Jvm.Cond.initialized "Silkloft$Canopy" ∈ lw_all := lw_c1 (List.mem_of_getElem? (i := 5) rfl) rfl
theorem m_6 : Jvm.Cond.initialized "Silkloft$Load" ∈ lw_all := lw_c1 (List.mem_of_getElem? (i := 6) rfl) rfl
theorem m_7 : Jvm.Cond.initialized "Silkloft$Finding" ∈ lw_all := lw_c1 (List.mem_of_getElem? (i := 7) rfl) rfl
theorem m_8 : Jvm.Cond.initialized "Silkloft$Diary" ∈ lw_all := lw_c1 (List.mem_of_getElem? (i := 8) rfl) rfl
theorem m_9 : Jvm.Cond.initialized "Silkloft$Rules" ∈ lw_all := lw_c1 (List.mem_of_getElem? (i := 9) rfl) rfl
theorem m_10 : Jvm.Cond.initialized "java/lang/Enum" ∈ lw_all := lw_c1 (List.mem_of_getElem? (i := 10) rfl) rfl
theorem m_11 : Jvm.Cond.initialized "Silkloft$Refusal" ∈ lw_all := lw_c1 (List.mem_of_getElem? (i := 11) rfl) rfl
theorem m_12 : Jvm.Cond.initialized "java/lang/Throwable" ∈ lw_all := lw_c1 (List.mem_of_getElem? (i := 12) rfl) rfl
theorem m_13 : Jvm.Cond.initialized "java/lang/Exception" ∈ lw_all := lw_c1 (List.mem_of_getElem? (i := 13) rfl) rfl
theorem m_14 : Jvm.Cond.initialized "java/lang/RuntimeException" ∈ lw_all := lw_c1 (List.mem_of_getElem? (i := 14) rfl) rfl
theorem m_15 : Jvm.Cond.initialized "java/lang/IndexOutOfBoundsException" ∈ lw_all := lw_c1 (List.mem_of_getElem? (i := 15) rfl) rfl
theorem m_16 : Jvm.Cond.initialized "java/lang/IllegalArgumentException" ∈ lw_all := lw_c1 (List.mem_of_getElem? (i := 16) rfl) rfl
theorem m_17 : Jvm.Cond.initialized "java/lang/UnsupportedOperationException" ∈ lw_all := lw_c1 (List.mem_of_getElem? (i := 17) rfl) rfl
theorem m_18 : Jvm.Cond.initialized "java/lang/IllegalStateException" ∈ lw_all := lw_c1 (List.mem_of_getElem? (i := 18) rfl) rfl
theorem m_19 : Jvm.Cond.initialized "java/lang/Math" ∈ lw_all := lw_c1 (List.mem_of_getElem? (i := 19) rfl) rfl
theorem m_20 : Jvm.Cond.initialized "java/lang/ArrayIndexOutOfBoundsException" ∈ lw_all := lw_c1 (List.mem_of_getElem? (i := 20) rfl) rfl
theorem m_21 : Jvm.Cond.initialized "java/lang/String" ∈ lw_all := lw_c1 (List.mem_of_getElem? (i := 21) rfl) rfl
theorem m_22 : Jvm.Cond.initialized "java/lang/StringLatin1" ∈ lw_all := lw_c1 (List.mem_of_getElem? (i := 22) rfl) rfl
theorem m_23 : Jvm.Cond.initialized "jdk/internal/util/Preconditions" ∈ lw_all := lw_c1 (List.mem_of_getElem? (i := 23) rfl) rfl
theorem m_24 : Jvm.Cond.initialized "java/lang/StringUTF16" ∈ lw_all := lw_c1 (List.mem_of_getElem? (i := 24) rfl) rfl
theorem m_25 : Jvm.Cond.initialized "java/lang/Character" ∈ lw_all := lw_c1 (List.mem_of_getElem? (i := 25) rfl) rfl
theorem m_26 : Jvm.Cond.initialized "java/lang/ArithmeticException" ∈ lw_all := lw_c1 (List.mem_of_getElem? (i := 26) rfl) rfl
theorem m_27 : Jvm.Cond.initialized "java/util/NoSuchElementException" ∈ lw_all := lw_c1 (List.mem_of_getElem? (i := 27) rfl) rfl
theorem m_28 : Jvm.Cond.classLink "SilkloftLaw" 15 "Silkloft" ∈ lw_all := lw_c1 (List.mem_of_getElem? (i := 28) rfl) rfl
theorem m_29 : Jvm.Cond.instantiable "Silkloft" 3 ∈ lw_all := lw_c1 (List.mem_of_getElem? (i := 29) rfl) rfl
theorem m_30 : Jvm.Cond.methodLink "SilkloftLaw" 134 yX9_init ∈ lw_all := lw_c1 (List.mem_of_getElem? (i := 30) rfl) rfl
theorem m_31 : Jvm.Cond.instanceMethod yX9_init ∈ lw_all := lw_c1 (List.mem_of_getElem? (i := 31) rfl) rfl
theorem m_32 : Jvm.Cond.code yX9_init prog_1_method_1_code 1 (Option.none : Option Jvm.ClassFile.FieldType) ∈ lw_all := lw_c1 (List.mem_of_getElem? (i := 32) rfl) rfl
theorem m_33 : Jvm.Cond.methodLink "Silkloft" 1 ⟨"java/lang/Object", "<init>", "()V"⟩ ∈ lw_all := lw_c1 (List.mem_of_getElem? (i := 33) rfl) rfl
theorem m_34 : Jvm.Cond.instanceMethod ⟨"java/lang/Object", "<init>", "()V"⟩ ∈ lw_all := lw_c1 (List.mem_of_getElem? (i := 34) rfl) rfl
theorem m_35 : Jvm.Cond.code ⟨"java/lang/Object", "<init>", "()V"⟩ object_method_1_code 1 (Option.none : Option Jvm.ClassFile.FieldType) ∈ lw_all := lw_c1 (List.mem_of_getElem? (i := 35) rfl) rfl
theorem m_36 : Jvm.Cond.classLink "Silkloft" 7 "Silkloft$Loft" ∈ lw_all := lw_c1 (List.mem_of_getElem? (i := 36) rfl) rfl
theorem m_37 : Jvm.Cond.instantiable "Silkloft$Loft" 13 ∈ lw_all := lw_c1 (List.mem_of_getElem? (i := 37) rfl) rfl
theorem m_38 : Jvm.Cond.methodLink "Silkloft" 9 yX5_init ∈ lw_all := lw_c1 (List.mem_of_getElem? (i := 38) rfl) rfl
theorem m_39 : Jvm.Cond.instanceMethod yX5_init ∈ lw_all := lw_c1 (List.mem_of_getElem? (i := 39) rfl) rfl
theorem m_40 : Jvm.Cond.code yX5_init prog_7_method_1_code 2 (Option.none : Option Jvm.ClassFile.FieldType) ∈ lw_all := lw_c1 (List.mem_of_getElem? (i := 40) rfl) rfl
theorem m_41 : Jvm.Cond.methodLink "Silkloft$Loft" 3 ⟨"java/lang/Object", "<init>", "()V"⟩ ∈ lw_all := lw_c1 (List.mem_of_getElem? (i := 41) rfl) rfl
theorem m_42 : Jvm.Cond.classLink "Silkloft$Loft" 9 "Silkloft$Rigger" ∈ lw_all := lw_c1 (List.mem_of_getElem? (i := 42) rfl) rfl
theorem m_44 : Jvm.Cond.classLink "Silkloft$Loft" 17 "Silkloft$Canopy" ∈ lw_all := lw_c1 (List.mem_of_getElem? (i := 44) rfl) rfl
theorem m_46 : Jvm.Cond.classLink "Silkloft$Loft" 23 "Silkloft$Load" ∈ lw_all := lw_c1 (List.mem_of_getElem? (i := 46) rfl) rfl
theorem m_48 : Jvm.Cond.classLink "Silkloft$Loft" 29 "Silkloft$Finding" ∈ lw_all := lw_c1 (List.mem_of_getElem? (i := 48) rfl) rfl
theorem m_50 : Jvm.Cond.classLink "Silkloft$Loft" 35 "Silkloft$Book" ∈ lw_all := lw_c1 (List.mem_of_getElem? (i := 50) rfl) rfl
theorem m_51 : Jvm.Cond.instantiable "Silkloft$Book" 5 ∈ lw_all := lw_c1 (List.mem_of_getElem? (i := 51) rfl) rfl
theorem m_53 : Jvm.Cond.instanceMethod yX0_init ∈ lw_all := lw_c1 (List.mem_of_getElem? (i := 53) rfl) rfl
theorem m_54 : Jvm.Cond.code yX0_init prog_2_method_1_code 1 (Option.none : Option Jvm.ClassFile.FieldType) ∈ lw_all := lw_c1 (List.mem_of_getElem? (i := 54) rfl) rfl
theorem m_55 : Jvm.Cond.methodLink "Silkloft$Book" 3 ⟨"java/lang/Object", "<init>", "()V"⟩ ∈ lw_all := lw_c1 (List.mem_of_getElem? (i := 55) rfl) rfl
theorem m_56 : Jvm.Cond.fieldLink "Silkloft$Book" 24 "Silkloft$Book" "count" "I" ∈ lw_all := lw_c1 (List.mem_of_getElem? (i := 56) rfl) rfl
theorem m_57 : Jvm.Cond.fieldLink "Silkloft$Loft" 62 "Silkloft$Book" "count" "I" ∈ lw_all := lw_c1 (List.mem_of_getElem? (i := 57) rfl) rfl
theorem m_58 : Jvm.Cond.fieldLink "Silkloft$Book" 9 "Silkloft$Book" "owners" "[I" ∈ lw_all := lw_c1 (List.mem_of_getElem? (i := 58) rfl) rfl
theorem m_59 : Jvm.Cond.fieldLink "Silkloft$Book" 15 "Silkloft$Book" "hooks" "[I" ∈ lw_all := lw_c1 (List.mem_of_getElem? (i := 59) rfl) rfl
theorem m_60 : Jvm.Cond.fieldLink "Silkloft$Loft" 304 "Silkloft$Book" "hooks" "[I" ∈ lw_all := lw_c1 (List.mem_of_getElem? (i := 60) rfl) rfl
theorem m_61 : Jvm.Cond.fieldLink "Silkloft$Book" 18 "Silkloft$Book" "days" "[I" ∈ lw_all := lw_c1 (List.mem_of_getElem? (i := 61) rfl) rfl
theorem m_62 : Jvm.Cond.fieldLink "Silkloft$Loft" 281 "Silkloft$Book" "days" "[I" ∈ lw_all := lw_c1 (List.mem_of_getElem? (i := 62) rfl) rfl
theorem m_63 : Jvm.Cond.fieldLink "Silkloft$Book" 21 "Silkloft$Book" "riggers" "[I" ∈ lw_all := lw_c1 (List.mem_of_getElem? (i := 63) rfl) rfl
theorem m_64 : Jvm.Cond.lays "Silkloft$Book" "Silkloft$Book" "count" "I" ∈ lw_all := lw_c1 (List.mem_of_getElem? (i := 64) rfl) rfl
theorem m_66 : Jvm.Cond.laysFinal "Silkloft$Book" "Silkloft$Book" "owners" "[I" ∈ lw_all := lw_c1 (List.mem_of_getElem? (i := 66) rfl) rfl
theorem m_68 : Jvm.Cond.laysFinal "Silkloft$Book" "Silkloft$Book" "hooks" "[I" ∈ lw_all := lw_c1 (List.mem_of_getElem? (i := 68) rfl) rfl
theorem m_70 : Jvm.Cond.laysFinal "Silkloft$Book" "Silkloft$Book" "days" "[I" ∈ lw_all := lw_c1 (List.mem_of_getElem? (i := 70) rfl) rfl
theorem m_72 : Jvm.Cond.laysFinal "Silkloft$Book" "Silkloft$Book" "riggers" "[I" ∈ lw_all := lw_c1 (List.mem_of_getElem? (i := 72) rfl) rfl
theorem m_75 : Jvm.Cond.arrayClass Jvm.ClassFile.FieldType.int ∈ lw_all := lw_c1 (List.mem_of_getElem? (i := 75) rfl) rfl
theorem m_76 : Jvm.Cond.instantiable "Silkloft$Rigger" 2 ∈ lw_all := lw_c1 (List.mem_of_getElem? (i := 76) rfl) rfl
theorem m_78 : Jvm.Cond.instanceMethod yX7_init ∈ lw_all := lw_c1 (List.mem_of_getElem? (i := 78) rfl) rfl
theorem m_79 : Jvm.Cond.code yX7_init prog_9_method_1_code 1 (Option.none : Option Jvm.ClassFile.FieldType) ∈ lw_all := lw_c1 (List.mem_of_getElem? (i := 79) rfl) rfl
theorem m_80 : Jvm.Cond.methodLink "Silkloft$Rigger" 1 ⟨"java/lang/Object", "<init>", "()V"⟩ ∈ lw_all := lw_c1 (List.mem_of_getElem? (i := 80) rfl) rfl
theorem m_81 : Jvm.Cond.fieldLink "Silkloft$Rigger" 7 "Silkloft$Rigger" "licences" "I" ∈ lw_all := lw_c1 (List.mem_of_getElem? (i := 81) rfl) rfl
theorem m_82 : Jvm.Cond.fieldLink "Silkloft$Loft" 153 "Silkloft$Rigger" "licences" "I" ∈ lw_all := lw_c1 (List.mem_of_getElem? (i := 82) rfl) rfl
theorem m_83 : Jvm.Cond.fieldLink "Silkloft$Rigger" 13 "Silkloft$Rigger" "until" "I" ∈ lw_all := lw_c1 (List.mem_of_getElem? (i := 83) rfl) rfl
theorem m_84 : Jvm.Cond.lays "Silkloft$Rigger" "Silkloft$Rigger" "licences" "I" ∈ lw_all := lw_c1 (List.mem_of_getElem? (i := 84) rfl) rfl
theorem m_86 : Jvm.Cond.lays "Silkloft$Rigger" "Silkloft$Rigger" "until" "I" ∈ lw_all := lw_c1 (List.mem_of_getElem? (i := 86) rfl) rfl
theorem m_89 : Jvm.Cond.instantiable "Silkloft$Canopy" 20 ∈ lw_all := lw_c1 (List.mem_of_getElem? (i := 89) rfl) rfl
theorem m_91 : Jvm.Cond.instanceMethod yX1_init ∈ lw_all := lw_c1 (List.mem_of_getElem? (i := 91) rfl) rfl
theorem m_92 : Jvm.Cond.code yX1_init prog_3_method_1_code 1 (Option.none : Option Jvm.ClassFile.FieldType) ∈ lw_all := lw_c1 (List.mem_of_getElem? (i := 92) rfl) rfl
theorem m_93 : Jvm.Cond.methodLink "Silkloft$Canopy" 3 ⟨"java/lang/Object", "<init>", "()V"⟩ ∈ lw_all := lw_c1 (List.mem_of_getElem? (i := 93) rfl) rfl
theorem m_94 : Jvm.Cond.fieldLink "Silkloft$Canopy" 15 "Silkloft$Canopy" "kind" "C" ∈ lw_all := lw_c1 (List.mem_of_getElem? (i := 94) rfl) rfl
theorem m_95 : Jvm.Cond.fieldLink "Silkloft$Rules" 144 "Silkloft$Canopy" "kind" "C" ∈ lw_all := lw_c1 (List.mem_of_getElem? (i := 95) rfl) rfl
theorem m_96 : Jvm.Cond.fieldLink "Silkloft$Loft" 275 "Silkloft$Canopy" "kind" "C" ∈ lw_all := lw_c1 (List.mem_of_getElem? (i := 96) rfl) rfl
theorem m_97 : Jvm.Cond.fieldLink "Silkloft$Canopy" 19 "Silkloft$Canopy" "cloth" "I" ∈ lw_all := lw_c1 (List.mem_of_getElem? (i := 97) rfl) rfl
theorem m_98 : Jvm.Cond.fieldLink "Silkloft$Loft" 298 "Silkloft$Canopy" "cloth" "I" ∈ lw_all := lw_c1 (List.mem_of_getElem? (i := 98) rfl) rfl
theorem m_99 : Jvm.Cond.fieldLink "Silkloft$Canopy" 23 "Silkloft$Canopy" "lines" "I" ∈ lw_all := lw_c1 (List.mem_of_getElem? (i := 99) rfl) rfl
theorem m_100 : Jvm.Cond.fieldLink "Silkloft$Loft" 295 "Silkloft$Canopy" "lines" "I" ∈ lw_all := lw_c1 (List.mem_of_getElem? (i := 100) rfl) rfl
theorem m_101 : Jvm.Cond.fieldLink "Silkloft$Canopy" 26 "Silkloft$Canopy" "life" "I" ∈ lw_all := lw_c1 (List.mem_of_getElem? (i := 101) rfl) rfl
theorem m_102 : Jvm.Cond.fieldLink "Silkloft$Loft" 272 "Silkloft$Canopy" "life" "I" ∈ lw_all := lw_c1 (List.mem_of_getElem? (i := 102) rfl) rfl
theorem m_103 : Jvm.Cond.fieldLink "Silkloft$Canopy" 29 "Silkloft$Canopy" "added" "I" ∈ lw_all := lw_c1 (List.mem_of_getElem? (i := 103) rfl) rfl
theorem m_104 : Jvm.Cond.fieldLink "Silkloft$Loft" 269 "Silkloft$Canopy" "added" "I" ∈ lw_all := lw_c1 (List.mem_of_getElem? (i := 104) rfl) rfl
theorem m_105 : Jvm.Cond.fieldLink "Silkloft$Canopy" 32 "Silkloft$Canopy" "state" "C" ∈ lw_all := lw_c1 (List.mem_of_getElem? (i := 105) rfl) rfl
theorem m_106 : Jvm.Cond.fieldLink "Silkloft$Rules" 113 "Silkloft$Canopy" "state" "C" ∈ lw_all := lw_c1 (List.mem_of_getElem? (i := 106) rfl) rfl
theorem m_107 : Jvm.Cond.fieldLink "Silkloft$Loft" 160 "Silkloft$Canopy" "state" "C" ∈ lw_all := lw_c1 (List.mem_of_getElem? (i := 107) rfl) rfl
theorem m_108 : Jvm.Cond.fieldLink "Silkloft" 49 "Silkloft$Canopy" "state" "C" ∈ lw_all := lw_c1 (List.mem_of_getElem? (i := 108) rfl) rfl
theorem m_109 : Jvm.Cond.fieldLink "Silkloft$Canopy" 35 "Silkloft$Canopy" "hook" "I" ∈ lw_all := lw_c1 (List.mem_of_getElem? (i := 109) rfl) rfl
theorem m_110 : Jvm.Cond.fieldLink "Silkloft$Loft" 164 "Silkloft$Canopy" "hook" "I" ∈ lw_all := lw_c1 (List.mem_of_getElem? (i := 110) rfl) rfl
theorem m_111 : Jvm.Cond.fieldLink "Silkloft$Canopy" 38 "Silkloft$Canopy" "stepsDone" "I" ∈ lw_all := lw_c1 (List.mem_of_getElem? (i := 111) rfl) rfl
theorem m_112 : Jvm.Cond.fieldLink "Silkloft$Rules" 125 "Silkloft$Canopy" "stepsDone" "I" ∈ lw_all := lw_c1 (List.mem_of_getElem? (i := 112) rfl) rfl
theorem m_113 : Jvm.Cond.fieldLink "Silkloft$Loft" 167 "Silkloft$Canopy" "stepsDone" "I" ∈ lw_all := lw_c1 (List.mem_of_getElem? (i := 113) rfl) rfl
theorem m_114 : Jvm.Cond.fieldLink "Silkloft$Canopy" 9 "Silkloft$Canopy" "stepRiggers" "[I" ∈ lw_all := lw_c1 (List.mem_of_getElem? (i := 114) rfl) rfl
theorem m_115 : Jvm.Cond.fieldLink "Silkloft$Rules" 137 "Silkloft$Canopy" "stepRiggers" "[I" ∈ lw_all := lw_c1 (List.mem_of_getElem? (i := 115) rfl) rfl
theorem m_116 : Jvm.Cond.fieldLink "Silkloft$Loft" 170 "Silkloft$Canopy" "stepRiggers" "[I" ∈ lw_all := lw_c1 (List.mem_of_getElem? (i := 116) rfl) rfl
theorem m_117 : Jvm.Cond.fieldLink "Silkloft$Canopy" 41 "Silkloft$Canopy" "packingCount" "I" ∈ lw_all := lw_c1 (List.mem_of_getElem? (i := 117) rfl) rfl
theorem m_118 : Jvm.Cond.fieldLink "Silkloft$Loft" 189 "Silkloft$Canopy" "packingCount" "I" ∈ lw_all := lw_c1 (List.mem_of_getElem? (i := 118) rfl) rfl
theorem m_119 : Jvm.Cond.fieldLink "Silkloft" 62 "Silkloft$Canopy" "packingCount" "I" ∈ lw_all := lw_c1 (List.mem_of_getElem? (i := 119) rfl) rfl
theorem m_120 : Jvm.Cond.fieldLink "Silkloft$Canopy" 44 "Silkloft$Canopy" "latestPacking" "I" ∈ lw_all := lw_c1 (List.mem_of_getElem? (i := 120) rfl) rfl
theorem m_121 : Jvm.Cond.fieldLink "Silkloft$Loft" 186 "Silkloft$Canopy" "latestPacking" "I" ∈ lw_all := lw_c1 (List.mem_of_getElem? (i := 121) rfl) rfl
theorem m_122 : Jvm.Cond.fieldLink "Silkloft$Canopy" 47 "Silkloft$Canopy" "hooksEver" "I" ∈ lw_all := lw_c1 (List.mem_of_getElem? (i := 122) rfl) rfl
theorem m_123 : Jvm.Cond.fieldLink "Silkloft$Loft" 192 "Silkloft$Canopy" "hooksEver" "I" ∈ lw_all := lw_c1 (List.mem_of_getElem? (i := 123) rfl) rfl
theorem m_124 : Jvm.Cond.fieldLink "Silkloft$Canopy" 50 "Silkloft$Canopy" "handsEver" "J" ∈ lw_all := lw_c1 (List.mem_of_getElem? (i := 124) rfl) rfl
theorem m_125 : Jvm.Cond.fieldLink "Silkloft$Loft" 195 "Silkloft$Canopy" "handsEver" "J" ∈ lw_all := lw_c1 (List.mem_of_getElem? (i := 125) rfl) rfl
theorem m_126 : Jvm.Cond.fieldLink "Silkloft$Canopy" 54 "Silkloft$Canopy" "jumpCount" "I" ∈ lw_all := lw_c1 (List.mem_of_getElem? (i := 126) rfl) rfl
theorem m_127 : Jvm.Cond.fieldLink "Silkloft" 83 "Silkloft$Canopy" "jumpCount" "I" ∈ lw_all := lw_c1 (List.mem_of_getElem? (i := 127) rfl) rfl
theorem m_128 : Jvm.Cond.fieldLink "Silkloft$Canopy" 57 "Silkloft$Canopy" "repairCount" "I" ∈ lw_all := lw_c1 (List.mem_of_getElem? (i := 128) rfl) rfl
theorem m_129 : Jvm.Cond.fieldLink "Silkloft$Loft" 238 "Silkloft$Canopy" "repairCount" "I" ∈ lw_all := lw_c1 (List.mem_of_getElem? (i := 129) rfl) rfl
theorem m_130 : Jvm.Cond.fieldLink "Silkloft$Canopy" 60 "Silkloft$Canopy" "goodDrops" "I" ∈ lw_all := lw_c1 (List.mem_of_getElem? (i := 130) rfl) rfl
theorem m_131 : Jvm.Cond.fieldLink "Silkloft$Loft" 248 "Silkloft$Canopy" "goodDrops" "I" ∈ lw_all := lw_c1 (List.mem_of_getElem? (i := 131) rfl) rfl
theorem m_132 : Jvm.Cond.fieldLink "Silkloft$Canopy" 63 "Silkloft$Canopy" "lastGoodDrop" "I" ∈ lw_all := lw_c1 (List.mem_of_getElem? (i := 132) rfl) rfl
theorem m_133 : Jvm.Cond.fieldLink "Silkloft$Canopy" 66 "Silkloft$Canopy" "goodDropBefore" "I" ∈ lw_all := lw_c1 (List.mem_of_getElem? (i := 133) rfl) rfl
theorem m_134 : Jvm.Cond.fieldLink "Silkloft$Loft" 310 "Silkloft$Canopy" "goodDropBefore" "I" ∈ lw_all := lw_c1 (List.mem_of_getElem? (i := 134) rfl) rfl
theorem m_135 : Jvm.Cond.fieldLink "Silkloft$Canopy" 69 "Silkloft$Canopy" "dueBack" "I" ∈ lw_all := lw_c1 (List.mem_of_getElem? (i := 135) rfl) rfl
theorem m_136 : Jvm.Cond.fieldLink "Silkloft$Loft" 251 "Silkloft$Canopy" "dueBack" "I" ∈ lw_all := lw_c1 (List.mem_of_getElem? (i := 136) rfl) rfl
theorem m_137 : Jvm.Cond.fieldLink "Silkloft$Canopy" 72 "Silkloft$Canopy" "deposit" "I" ∈ lw_all := lw_c1 (List.mem_of_getElem? (i := 137) rfl) rfl
theorem m_138 : Jvm.Cond.fieldLink "Silkloft$Loft" 254 "Silkloft$Canopy" "deposit" "I" ∈ lw_all := lw_c1 (List.mem_of_getElem? (i := 138) rfl) rfl
theorem m_139 : Jvm.Cond.lays "Silkloft$Canopy" "Silkloft$Canopy" "kind" "C" ∈ lw_all := lw_c1 (List.mem_of_getElem? (i := 139) rfl) rfl
theorem m_141 : Jvm.Cond.lays "Silkloft$Canopy" "Silkloft$Canopy" "cloth" "I" ∈ lw_all := lw_c1 (List.mem_of_getElem? (i := 141) rfl) rfl
theorem m_143 : Jvm.Cond.lays "Silkloft$Canopy" "Silkloft$Canopy" "lines" "I" ∈ lw_all := lw_c1 (List.mem_of_getElem? (i := 143) rfl) rfl
theorem m_145 : Jvm.Cond.lays "Silkloft$Canopy" "Silkloft$Canopy" "life" "I" ∈ lw_all := lw_c1 (List.mem_of_getElem? (i := 145) rfl) rfl
theorem m_147 : Jvm.Cond.lays "Silkloft$Canopy" "Silkloft$Canopy" "added" "I" ∈ lw_all := lw_c1 (List.mem_of_getElem? (i := 147) rfl) rfl
theorem m_149 : Jvm.Cond.lays "Silkloft$Canopy" "Silkloft$Canopy" "state" "C" ∈ lw_all := lw_c1 (List.mem_of_getElem? (i := 149) rfl) rfl
theorem m_151 : Jvm.Cond.lays "Silkloft$Canopy" "Silkloft$Canopy" "hook" "I" ∈ lw_all := lw_c1 (List.mem_of_getElem? (i := 151) rfl) rfl
theorem m_153 : Jvm.Cond.lays "Silkloft$Canopy" "Silkloft$Canopy" "stepsDone" "I" ∈ lw_all := lw_c1 (List.mem_of_getElem? (i := 153) rfl) rfl
theorem m_155 : Jvm.Cond.laysFinal "Silkloft$Canopy" "Silkloft$Canopy" "stepRiggers" "[I" ∈ lw_all := lw_c1 (List.mem_of_getElem? (i := 155) rfl) rfl
theorem m_157 : Jvm.Cond.lays "Silkloft$Canopy" "Silkloft$Canopy" "packingCount" "I" ∈ lw_all := lw_c1 (List.mem_of_getElem? (i := 157) rfl) rfl
theorem m_159 : Jvm.Cond.lays "Silkloft$Canopy" "Silkloft$Canopy" "latestPacking" "I" ∈ lw_all := lw_c1 (List.mem_of_getElem? (i := 159) rfl) rfl
theorem m_161 : Jvm.Cond.lays "Silkloft$Canopy" "Silkloft$Canopy" "hooksEver" "I" ∈ lw_all := lw_c1 (List.mem_of_getElem? (i := 161) rfl) rfl
theorem m_163 : Jvm.Cond.lays "Silkloft$Canopy" "Silkloft$Canopy" "handsEver" "J" ∈ lw_all := lw_c1 (List.mem_of_getElem? (i := 163) rfl) rfl
theorem m_165 : Jvm.Cond.lays "Silkloft$Canopy" "Silkloft$Canopy" "jumpCount" "I" ∈ lw_all := lw_c1 (List.mem_of_getElem? (i := 165) rfl) rfl
theorem m_167 : Jvm.Cond.lays "Silkloft$Canopy" "Silkloft$Canopy" "repairCount" "I" ∈ lw_all := lw_c1 (List.mem_of_getElem? (i := 167) rfl) rfl
theorem m_169 : Jvm.Cond.lays "Silkloft$Canopy" "Silkloft$Canopy" "goodDrops" "I" ∈ lw_all := lw_c1 (List.mem_of_getElem? (i := 169) rfl) rfl
theorem m_171 : Jvm.Cond.lays "Silkloft$Canopy" "Silkloft$Canopy" "lastGoodDrop" "I" ∈ lw_all := lw_c1 (List.mem_of_getElem? (i := 171) rfl) rfl
theorem m_173 : Jvm.Cond.lays "Silkloft$Canopy" "Silkloft$Canopy" "goodDropBefore" "I" ∈ lw_all := lw_c1 (List.mem_of_getElem? (i := 173) rfl) rfl
theorem m_175 : Jvm.Cond.lays "Silkloft$Canopy" "Silkloft$Canopy" "dueBack" "I" ∈ lw_all := lw_c1 (List.mem_of_getElem? (i := 175) rfl) rfl
theorem m_177 : Jvm.Cond.lays "Silkloft$Canopy" "Silkloft$Canopy" "deposit" "I" ∈ lw_all := lw_c1 (List.mem_of_getElem? (i := 177) rfl) rfl
theorem m_180 : Jvm.Cond.instantiable "Silkloft$Load" 4 ∈ lw_all := lw_c1 (List.mem_of_getElem? (i := 180) rfl) rfl
theorem m_182 : Jvm.Cond.instanceMethod yX4_init ∈ lw_all := lw_c1 (List.mem_of_getElem? (i := 182) rfl) rfl
theorem m_183 : Jvm.Cond.code yX4_init prog_6_method_1_code 1 (Option.none : Option Jvm.ClassFile.FieldType) ∈ lw_all := lw_c1 (List.mem_of_getElem? (i := 183) rfl) rfl
theorem m_184 : Jvm.Cond.methodLink "Silkloft$Load" 3 ⟨"java/lang/Object", "<init>", "()V"⟩ ∈ lw_all := lw_c1 (List.mem_of_getElem? (i := 184) rfl) rfl
theorem m_185 : Jvm.Cond.fieldLink "Silkloft$Load" 18 "Silkloft$Load" "aboard" "I" ∈ lw_all := lw_c1 (List.mem_of_getElem? (i := 185) rfl) rfl
theorem m_186 : Jvm.Cond.fieldLink "Silkloft$Rules" 160 "Silkloft$Load" "aboard" "I" ∈ lw_all := lw_c1 (List.mem_of_getElem? (i := 186) rfl) rfl
theorem m_187 : Jvm.Cond.fieldLink "Silkloft$Loft" 207 "Silkloft$Load" "aboard" "I" ∈ lw_all := lw_c1 (List.mem_of_getElem? (i := 187) rfl) rfl
theorem m_188 : Jvm.Cond.fieldLink "Silkloft$Load" 22 "Silkloft$Load" "hasJumped" "Z" ∈ lw_all := lw_c1 (List.mem_of_getElem? (i := 188) rfl) rfl
theorem m_189 : Jvm.Cond.fieldLink "Silkloft$Rules" 151 "Silkloft$Load" "hasJumped" "Z" ∈ lw_all := lw_c1 (List.mem_of_getElem? (i := 189) rfl) rfl
theorem m_190 : Jvm.Cond.fieldLink "Silkloft$Loft" 216 "Silkloft$Load" "hasJumped" "Z" ∈ lw_all := lw_c1 (List.mem_of_getElem? (i := 190) rfl) rfl
theorem m_191 : Jvm.Cond.fieldLink "Silkloft$Load" 9 "Silkloft$Load" "mains" "[I" ∈ lw_all := lw_c1 (List.mem_of_getElem? (i := 191) rfl) rfl
theorem m_192 : Jvm.Cond.fieldLink "Silkloft$Rules" 163 "Silkloft$Load" "mains" "[I" ∈ lw_all := lw_c1 (List.mem_of_getElem? (i := 192) rfl) rfl
theorem m_193 : Jvm.Cond.fieldLink "Silkloft$Loft" 204 "Silkloft$Load" "mains" "[I" ∈ lw_all := lw_c1 (List.mem_of_getElem? (i := 193) rfl) rfl
theorem m_194 : Jvm.Cond.fieldLink "Silkloft$Load" 15 "Silkloft$Load" "reserves" "[I" ∈ lw_all := lw_c1 (List.mem_of_getElem? (i := 194) rfl) rfl
theorem m_195 : Jvm.Cond.fieldLink "Silkloft$Rules" 166 "Silkloft$Load" "reserves" "[I" ∈ lw_all := lw_c1 (List.mem_of_getElem? (i := 195) rfl) rfl
theorem m_196 : Jvm.Cond.fieldLink "Silkloft$Loft" 210 "Silkloft$Load" "reserves" "[I" ∈ lw_all := lw_c1 (List.mem_of_getElem? (i := 196) rfl) rfl
theorem m_197 : Jvm.Cond.lays "Silkloft$Load" "Silkloft$Load" "aboard" "I" ∈ lw_all := lw_c1 (List.mem_of_getElem? (i := 197) rfl) rfl
theorem m_199 : Jvm.Cond.lays "Silkloft$Load" "Silkloft$Load" "hasJumped" "Z" ∈ lw_all := lw_c1 (List.mem_of_getElem? (i := 199) rfl) rfl
theorem m_201 : Jvm.Cond.laysFinal "Silkloft$Load" "Silkloft$Load" "mains" "[I" ∈ lw_all := lw_c1 (List.mem_of_getElem? (i := 201) rfl) rfl
theorem m_203 : Jvm.Cond.laysFinal "Silkloft$Load" "Silkloft$Load" "reserves" "[I" ∈ lw_all := lw_c1 (List.mem_of_getElem? (i := 203) rfl) rfl
theorem m_206 : Jvm.Cond.instantiable "Silkloft$Finding" 7 ∈ lw_all := lw_c1 (List.mem_of_getElem? (i := 206) rfl) rfl
theorem m_208 : Jvm.Cond.instanceMethod yX3_init ∈ lw_all := lw_c1 (List.mem_of_getElem? (i := 208) rfl) rfl
theorem m_209 : Jvm.Cond.code yX3_init prog_5_method_1_code 1 (Option.none : Option Jvm.ClassFile.FieldType) ∈ lw_all := lw_c1 (List.mem_of_getElem? (i := 209) rfl) rfl
theorem m_210 : Jvm.Cond.methodLink "Silkloft$Finding" 3 ⟨"java/lang/Object", "<init>", "()V"⟩ ∈ lw_all := lw_c1 (List.mem_of_getElem? (i := 210) rfl) rfl
theorem m_211 : Jvm.Cond.fieldLink "Silkloft$Finding" 9 "Silkloft$Finding" "canopy" "I" ∈ lw_all := lw_c1 (List.mem_of_getElem? (i := 211) rfl) rfl
theorem m_212 : Jvm.Cond.fieldLink "Silkloft$Loft" 232 "Silkloft$Finding" "canopy" "I" ∈ lw_all := lw_c1 (List.mem_of_getElem? (i := 212) rfl) rfl
theorem m_213 : Jvm.Cond.fieldLink "Silkloft$Finding" 15 "Silkloft$Finding" "packing" "I" ∈ lw_all := lw_c1 (List.mem_of_getElem? (i := 213) rfl) rfl
theorem m_214 : Jvm.Cond.fieldLink "Silkloft$Rules" 187 "Silkloft$Finding" "packing" "I" ∈ lw_all := lw_c1 (List.mem_of_getElem? (i := 214) rfl) rfl
theorem m_215 : Jvm.Cond.fieldLink "Silkloft$Loft" 301 "Silkloft$Finding" "packing" "I" ∈ lw_all := lw_c1 (List.mem_of_getElem? (i := 215) rfl) rfl
theorem m_216 : Jvm.Cond.fieldLink "Silkloft$Finding" 18 "Silkloft$Finding" "level" "I" ∈ lw_all := lw_c1 (List.mem_of_getElem? (i := 216) rfl) rfl
theorem m_217 : Jvm.Cond.fieldLink "Silkloft$Rules" 184 "Silkloft$Finding" "level" "I" ∈ lw_all := lw_c1 (List.mem_of_getElem? (i := 217) rfl) rfl
theorem m_218 : Jvm.Cond.fieldLink "Silkloft$Loft" 223 "Silkloft$Finding" "level" "I" ∈ lw_all := lw_c1 (List.mem_of_getElem? (i := 218) rfl) rfl
theorem m_219 : Jvm.Cond.fieldLink "Silkloft$Finding" 21 "Silkloft$Finding" "cause" "C" ∈ lw_all := lw_c1 (List.mem_of_getElem? (i := 219) rfl) rfl
theorem m_220 : Jvm.Cond.fieldLink "Silkloft$Rules" 181 "Silkloft$Finding" "cause" "C" ∈ lw_all := lw_c1 (List.mem_of_getElem? (i := 220) rfl) rfl
theorem m_221 : Jvm.Cond.fieldLink "Silkloft$Loft" 226 "Silkloft$Finding" "cause" "C" ∈ lw_all := lw_c1 (List.mem_of_getElem? (i := 221) rfl) rfl
theorem m_222 : Jvm.Cond.fieldLink "Silkloft$Finding" 25 "Silkloft$Finding" "isClosed" "Z" ∈ lw_all := lw_c1 (List.mem_of_getElem? (i := 222) rfl) rfl
theorem m_223 : Jvm.Cond.fieldLink "Silkloft$Rules" 176 "Silkloft$Finding" "isClosed" "Z" ∈ lw_all := lw_c1 (List.mem_of_getElem? (i := 223) rfl) rfl
theorem m_224 : Jvm.Cond.fieldLink "Silkloft$Loft" 229 "Silkloft$Finding" "isClosed" "Z" ∈ lw_all := lw_c1 (List.mem_of_getElem? (i := 224) rfl) rfl
theorem m_225 : Jvm.Cond.fieldLink "Silkloft$Finding" 29 "Silkloft$Finding" "madeBy" "I" ∈ lw_all := lw_c1 (List.mem_of_getElem? (i := 225) rfl) rfl
theorem m_226 : Jvm.Cond.fieldLink "Silkloft$Loft" 307 "Silkloft$Finding" "madeBy" "I" ∈ lw_all := lw_c1 (List.mem_of_getElem? (i := 226) rfl) rfl
theorem m_227 : Jvm.Cond.fieldLink "Silkloft$Finding" 32 "Silkloft$Finding" "repairedBy" "I" ∈ lw_all := lw_c1 (List.mem_of_getElem? (i := 227) rfl) rfl
theorem m_228 : Jvm.Cond.fieldLink "Silkloft$Loft" 235 "Silkloft$Finding" "repairedBy" "I" ∈ lw_all := lw_c1 (List.mem_of_getElem? (i := 228) rfl) rfl
theorem m_229 : Jvm.Cond.lays "Silkloft$Finding" "Silkloft$Finding" "canopy" "I" ∈ lw_all := lw_c1 (List.mem_of_getElem? (i := 229) rfl) rfl
theorem m_231 : Jvm.Cond.lays "Silkloft$Finding" "Silkloft$Finding" "packing" "I" ∈ lw_all := lw_c1 (List.mem_of_getElem? (i := 231) rfl) rfl
theorem m_233 : Jvm.Cond.lays "Silkloft$Finding" "Silkloft$Finding" "level" "I" ∈ lw_all := lw_c1 (List.mem_of_getElem? (i := 233) rfl) rfl
theorem m_235 : Jvm.Cond.lays "Silkloft$Finding" "Silkloft$Finding" "cause" "C" ∈ lw_all := lw_c1 (List.mem_of_getElem? (i := 235) rfl) rfl
theorem m_237 : Jvm.Cond.lays "Silkloft$Finding" "Silkloft$Finding" "isClosed" "Z" ∈ lw_all := lw_c1 (List.mem_of_getElem? (i := 237) rfl) rfl
theorem m_239 : Jvm.Cond.lays "Silkloft$Finding" "Silkloft$Finding" "madeBy" "I" ∈ lw_all := lw_c1 (List.mem_of_getElem? (i := 239) rfl) rfl
theorem m_241 : Jvm.Cond.lays "Silkloft$Finding" "Silkloft$Finding" "repairedBy" "I" ∈ lw_all := lw_c2 (List.mem_of_getElem? (i := 1) rfl) rfl
theorem m_244 : Jvm.Cond.fieldLink "Silkloft$Loft" 11 "Silkloft$Loft" "riggers" "[LSilkloft$Rigger;" ∈ lw_all := lw_c2 (List.mem_of_getElem? (i := 4) rfl) rfl
theorem m_245 : Jvm.Cond.fieldLink "Silkloft$Rules" 128 "Silkloft$Loft" "riggers" "[LSilkloft$Rigger;" ∈ lw_all := lw_c2 (List.mem_of_getElem? (i := 5) rfl) rfl
theorem m_246 : Jvm.Cond.fieldLink "Silkloft$Loft" 19 "Silkloft$Loft" "canopies" "[LSilkloft$Canopy;" ∈ lw_all := lw_c2 (List.mem_of_getElem? (i := 6) rfl) rfl
theorem m_247 : Jvm.Cond.fieldLink "Silkloft$Rules" 109 "Silkloft$Loft" "canopies" "[LSilkloft$Canopy;" ∈ lw_all := lw_c2 (List.mem_of_getElem? (i := 7) rfl) rfl
theorem m_248 : Jvm.Cond.fieldLink "Silkloft" 139 "Silkloft$Loft" "canopies" "[LSilkloft$Canopy;" ∈ lw_all := lw_c2 (List.mem_of_getElem? (i := 8) rfl) rfl
theorem m_249 : Jvm.Cond.fieldLink "Silkloft$Loft" 25 "Silkloft$Loft" "loads" "[LSilkloft$Load;" ∈ lw_all := lw_c2 (List.mem_of_getElem? (i := 9) rfl) rfl
theorem m_250 : Jvm.Cond.fieldLink "Silkloft$Rules" 147 "Silkloft$Loft" "loads" "[LSilkloft$Load;" ∈ lw_all := lw_c2 (List.mem_of_getElem? (i := 10) rfl) rfl
theorem m_251 : Jvm.Cond.fieldLink "Silkloft$Loft" 31 "Silkloft$Loft" "findings" "[LSilkloft$Finding;" ∈ lw_all := lw_c2 (List.mem_of_getElem? (i := 11) rfl) rfl
theorem m_252 : Jvm.Cond.fieldLink "Silkloft$Rules" 172 "Silkloft$Loft" "findings" "[LSilkloft$Finding;" ∈ lw_all := lw_c2 (List.mem_of_getElem? (i := 12) rfl) rfl
theorem m_253 : Jvm.Cond.fieldLink "Silkloft$Loft" 38 "Silkloft$Loft" "book" "LSilkloft$Book;" ∈ lw_all := lw_c2 (List.mem_of_getElem? (i := 13) rfl) rfl
theorem m_254 : Jvm.Cond.fieldLink "Silkloft" 73 "Silkloft$Loft" "book" "LSilkloft$Book;" ∈ lw_all := lw_c2 (List.mem_of_getElem? (i := 14) rfl) rfl
theorem m_255 : Jvm.Cond.fieldLink "Silkloft$Loft" 50 "Silkloft$Loft" "riggerCount" "I" ∈ lw_all := lw_c2 (List.mem_of_getElem? (i := 15) rfl) rfl
theorem m_256 : Jvm.Cond.fieldLink "Silkloft$Rules" 94 "Silkloft$Loft" "riggerCount" "I" ∈ lw_all := lw_c2 (List.mem_of_getElem? (i := 16) rfl) rfl
theorem m_257 : Jvm.Cond.fieldLink "Silkloft$Loft" 53 "Silkloft$Loft" "canopyCount" "I" ∈ lw_all := lw_c2 (List.mem_of_getElem? (i := 17) rfl) rfl
theorem m_258 : Jvm.Cond.fieldLink "Silkloft$Rules" 100 "Silkloft$Loft" "canopyCount" "I" ∈ lw_all := lw_c2 (List.mem_of_getElem? (i := 18) rfl) rfl
theorem m_259 : Jvm.Cond.fieldLink "Silkloft" 106 "Silkloft$Loft" "canopyCount" "I" ∈ lw_all := lw_c2 (List.mem_of_getElem? (i := 19) rfl) rfl
theorem m_260 : Jvm.Cond.fieldLink "Silkloft$Loft" 56 "Silkloft$Loft" "loadCount" "I" ∈ lw_all := lw_c2 (List.mem_of_getElem? (i := 20) rfl) rfl
theorem m_261 : Jvm.Cond.fieldLink "Silkloft$Rules" 50 "Silkloft$Loft" "loadCount" "I" ∈ lw_all := lw_c2 (List.mem_of_getElem? (i := 21) rfl) rfl
theorem m_262 : Jvm.Cond.fieldLink "Silkloft$Loft" 59 "Silkloft$Loft" "findingCount" "I" ∈ lw_all := lw_c2 (List.mem_of_getElem? (i := 22) rfl) rfl
theorem m_263 : Jvm.Cond.fieldLink "Silkloft$Rules" 169 "Silkloft$Loft" "findingCount" "I" ∈ lw_all := lw_c2 (List.mem_of_getElem? (i := 23) rfl) rfl
theorem m_264 : Jvm.Cond.fieldLink "Silkloft$Loft" 65 "Silkloft$Loft" "day" "I" ∈ lw_all := lw_c2 (List.mem_of_getElem? (i := 24) rfl) rfl
theorem m_265 : Jvm.Cond.fieldLink "Silkloft$Rules" 103 "Silkloft$Loft" "day" "I" ∈ lw_all := lw_c2 (List.mem_of_getElem? (i := 25) rfl) rfl
theorem m_266 : Jvm.Cond.fieldLink "Silkloft$Loft" 46 "Silkloft$Loft" "period" "I" ∈ lw_all := lw_c2 (List.mem_of_getElem? (i := 26) rfl) rfl
theorem m_267 : Jvm.Cond.fieldLink "Silkloft$Loft" 68 "Silkloft$Loft" "keptSum" "J" ∈ lw_all := lw_c2 (List.mem_of_getElem? (i := 27) rfl) rfl
theorem m_268 : Jvm.Cond.fieldLink "Silkloft" 102 "Silkloft$Loft" "keptSum" "J" ∈ lw_all := lw_c2 (List.mem_of_getElem? (i := 28) rfl) rfl
theorem m_269 : Jvm.Cond.fieldLink "Silkloft$Loft" 72 "Silkloft$Loft" "actCount" "I" ∈ lw_all := lw_c2 (List.mem_of_getElem? (i := 29) rfl) rfl
theorem m_270 : Jvm.Cond.laysFinal "Silkloft$Loft" "Silkloft$Loft" "riggers" "[LSilkloft$Rigger;" ∈ lw_all := lw_c2 (List.mem_of_getElem? (i := 30) rfl) rfl
theorem m_272 : Jvm.Cond.laysFinal "Silkloft$Loft" "Silkloft$Loft" "canopies" "[LSilkloft$Canopy;" ∈ lw_all := lw_c2 (List.mem_of_getElem? (i := 32) rfl) rfl
theorem m_274 : Jvm.Cond.laysFinal "Silkloft$Loft" "Silkloft$Loft" "loads" "[LSilkloft$Load;" ∈ lw_all := lw_c2 (List.mem_of_getElem? (i := 34) rfl) rfl
theorem m_276 : Jvm.Cond.laysFinal "Silkloft$Loft" "Silkloft$Loft" "findings" "[LSilkloft$Finding;" ∈ lw_all := lw_c2 (List.mem_of_getElem? (i := 36) rfl) rfl
theorem m_278 : Jvm.Cond.laysFinal "Silkloft$Loft" "Silkloft$Loft" "book" "LSilkloft$Book;" ∈ lw_all := lw_c2 (List.mem_of_getElem? (i := 38) rfl) rfl
theorem m_280 : Jvm.Cond.lays "Silkloft$Loft" "Silkloft$Loft" "riggerCount" "I" ∈ lw_all := lw_c2 (List.mem_of_getElem? (i := 40) rfl) rfl
theorem m_282 : Jvm.Cond.lays "Silkloft$Loft" "Silkloft$Loft" "canopyCount" "I" ∈ lw_all := lw_c2 (List.mem_of_getElem? (i := 42) rfl) rfl
theorem m_284 : Jvm.Cond.lays "Silkloft$Loft" "Silkloft$Loft" "loadCount" "I" ∈ lw_all := lw_c2 (List.mem_of_getElem? (i := 44) rfl) rfl
theorem m_286 : Jvm.Cond.lays "Silkloft$Loft" "Silkloft$Loft" "findingCount" "I" ∈ lw_all := lw_c2 (List.mem_of_getElem? (i := 46) rfl) rfl
theorem m_288 : Jvm.Cond.lays "Silkloft$Loft" "Silkloft$Loft" "day" "I" ∈ lw_all := lw_c2 (List.mem_of_getElem? (i := 48) rfl) rfl
theorem m_290 : Jvm.Cond.lays "Silkloft$Loft" "Silkloft$Loft" "period" "I" ∈ lw_all := lw_c2 (List.mem_of_getElem? (i := 50) rfl) rfl
theorem m_292 : Jvm.Cond.lays "Silkloft$Loft" "Silkloft$Loft" "keptSum" "J" ∈ lw_all := lw_c2 (List.mem_of_getElem? (i := 52) rfl) rfl
theorem m_294 : Jvm.Cond.lays "Silkloft$Loft" "Silkloft$Loft" "actCount" "I" ∈ lw_all := lw_c2 (List.mem_of_getElem? (i := 54) rfl) rfl
theorem m_297 : Jvm.Cond.classLink "Silkloft" 19 "Silkloft$Diary" ∈ lw_all := lw_c2 (List.mem_of_getElem? (i := 57) rfl) rfl
theorem m_298 : Jvm.Cond.instantiable "Silkloft$Diary" 2 ∈ lw_all := lw_c2 (List.mem_of_getElem? (i := 58) rfl) rfl
theorem m_300 : Jvm.Cond.instanceMethod yX2_init ∈ lw_all := lw_c2 (List.mem_of_getElem? (i := 60) rfl) rfl
theorem m_301 : Jvm.Cond.code yX2_init prog_4_method_1_code 1 (Option.none : Option Jvm.ClassFile.FieldType) ∈ lw_all := lw_c2 (List.mem_of_getElem? (i := 61) rfl) rfl
theorem m_302 : Jvm.Cond.methodLink "Silkloft$Diary" 3 ⟨"java/lang/Object", "<init>", "()V"⟩ ∈ lw_all := lw_c2 (List.mem_of_getElem? (i := 62) rfl) rfl
theorem m_303 : Jvm.Cond.fieldLink "Silkloft$Diary" 15 "Silkloft$Diary" "count" "I" ∈ lw_all := lw_c2 (List.mem_of_getElem? (i := 63) rfl) rfl
theorem m_304 : Jvm.Cond.fieldLink "Silkloft" 123 "Silkloft$Diary" "count" "I" ∈ lw_all := lw_c2 (List.mem_of_getElem? (i := 64) rfl) rfl
theorem m_305 : Jvm.Cond.fieldLink "Silkloft$Diary" 11 "Silkloft$Diary" "rows" "[I" ∈ lw_all := lw_c2 (List.mem_of_getElem? (i := 65) rfl) rfl
theorem m_306 : Jvm.Cond.lays "Silkloft$Diary" "Silkloft$Diary" "count" "I" ∈ lw_all := lw_c2 (List.mem_of_getElem? (i := 66) rfl) rfl
theorem m_308 : Jvm.Cond.laysFinal "Silkloft$Diary" "Silkloft$Diary" "rows" "[I" ∈ lw_all := lw_c2 (List.mem_of_getElem? (i := 68) rfl) rfl
theorem m_311 : Jvm.Cond.fieldLink "Silkloft" 10 "Silkloft" "loft" "LSilkloft$Loft;" ∈ lw_all := lw_c2 (List.mem_of_getElem? (i := 71) rfl) rfl
theorem m_312 : Jvm.Cond.fieldLink "Silkloft" 16 "Silkloft" "again" "LSilkloft$Loft;" ∈ lw_all := lw_c2 (List.mem_of_getElem? (i := 72) rfl) rfl
theorem m_313 : Jvm.Cond.fieldLink "Silkloft" 22 "Silkloft" "diary" "LSilkloft$Diary;" ∈ lw_all := lw_c2 (List.mem_of_getElem? (i := 73) rfl) rfl
theorem m_314 : Jvm.Cond.laysFinal "Silkloft" "Silkloft" "loft" "LSilkloft$Loft;" ∈ lw_all := lw_c2 (List.mem_of_getElem? (i := 74) rfl) rfl
theorem m_316 : Jvm.Cond.laysFinal "Silkloft" "Silkloft" "again" "LSilkloft$Loft;" ∈ lw_all := lw_c2 (List.mem_of_getElem? (i := 76) rfl) rfl
theorem m_318 : Jvm.Cond.laysFinal "Silkloft" "Silkloft" "diary" "LSilkloft$Diary;" ∈ lw_all := lw_c2 (List.mem_of_getElem? (i := 78) rfl) rfl
theorem m_321 : Jvm.Cond.methodLink "SilkloftLaw" 148 yX9_kept ∈ lw_all := lw_c2 (List.mem_of_getElem? (i := 81) rfl) rfl
theorem m_322 : Jvm.Cond.instanceMethod yX9_kept ∈ lw_all := lw_c2 (List.mem_of_getElem? (i := 82) rfl) rfl
theorem m_323 : Jvm.Cond.selects "Silkloft" yX9_kept yX9_kept ∈ lw_all := lw_c2 (List.mem_of_getElem? (i := 83) rfl) rfl
theorem m_324 : Jvm.Cond.code yX9_kept prog_1_method_32_code 1 (Option.some Jvm.ClassFile.FieldType.long) ∈ lw_all := lw_c2 (List.mem_of_getElem? (i := 84) rfl) rfl
theorem m_325 : Jvm.Cond.methodLink "SilkloftLaw" 167 yX9_isSound ∈ lw_all := lw_c2 (List.mem_of_getElem? (i := 85) rfl) rfl
theorem m_326 : Jvm.Cond.instanceMethod yX9_isSound ∈ lw_all := lw_c2 (List.mem_of_getElem? (i := 86) rfl) rfl
theorem m_327 : Jvm.Cond.selects "Silkloft" yX9_isSound yX9_isSound ∈ lw_all := lw_c2 (List.mem_of_getElem? (i := 87) rfl) rfl
theorem m_328 : Jvm.Cond.code yX9_isSound prog_1_method_35_code 2 (Option.some Jvm.ClassFile.FieldType.boolean) ∈ lw_all := lw_c2 (List.mem_of_getElem? (i := 88) rfl) rfl
theorem m_329 : Jvm.Cond.methodLink "Silkloft" 120 yX5_clear ∈ lw_all := lw_c2 (List.mem_of_getElem? (i := 89) rfl) rfl
theorem m_330 : Jvm.Cond.instanceMethod yX5_clear ∈ lw_all := lw_c2 (List.mem_of_getElem? (i := 90) rfl) rfl
theorem m_331 : Jvm.Cond.selects "Silkloft$Loft" yX5_clear yX5_clear ∈ lw_all := lw_c2 (List.mem_of_getElem? (i := 91) rfl) rfl
theorem m_332 : Jvm.Cond.code yX5_clear prog_7_method_2_code 1 (Option.none : Option Jvm.ClassFile.FieldType) ∈ lw_all := lw_c2 (List.mem_of_getElem? (i := 92) rfl) rfl
theorem m_333 : Jvm.Cond.methodLink "Silkloft" 126 yX2_repeat ∈ lw_all := lw_c2 (List.mem_of_getElem? (i := 93) rfl) rfl
theorem m_334 : Jvm.Cond.instanceMethod yX2_repeat ∈ lw_all := lw_c2 (List.mem_of_getElem? (i := 94) rfl) rfl
theorem m_335 : Jvm.Cond.selects "Silkloft$Diary" yX2_repeat yX2_repeat ∈ lw_all := lw_c2 (List.mem_of_getElem? (i := 95) rfl) rfl
theorem m_336 : Jvm.Cond.code yX2_repeat prog_4_method_4_code 9 (Option.some Jvm.ClassFile.FieldType.boolean) ∈ lw_all := lw_c2 (List.mem_of_getElem? (i := 96) rfl) rfl
theorem m_337 : Jvm.Cond.methodLink "Silkloft$Diary" 23 yX8_refusalOf ∈ lw_all := lw_c2 (List.mem_of_getElem? (i := 97) rfl) rfl
theorem m_338 : Jvm.Cond.static yX8_refusalOf ∈ lw_all := lw_c2 (List.mem_of_getElem? (i := 98) rfl) rfl
theorem m_339 : Jvm.Cond.code yX8_refusalOf prog_10_method_2_code 6 (Option.some (Jvm.ClassFile.FieldType.object "Silkloft$Refusal")) ∈ lw_all := lw_c2 (List.mem_of_getElem? (i := 99) rfl) rfl
theorem m_340 : Jvm.Cond.methodLink "Silkloft$Rules" 9 yX8_ofAddRigger ∈ lw_all := lw_c2 (List.mem_of_getElem? (i := 100) rfl) rfl
theorem m_341 : Jvm.Cond.static yX8_ofAddRigger ∈ lw_all := lw_c2 (List.mem_of_getElem? (i := 101) rfl) rfl
theorem m_342 : Jvm.Cond.code yX8_ofAddRigger prog_10_method_5_code 3 (Option.some (Jvm.ClassFile.FieldType.object "Silkloft$Refusal")) ∈ lw_all := lw_c2 (List.mem_of_getElem? (i := 102) rfl) rfl
theorem m_343 : Jvm.Cond.methodLink "Silkloft$Rules" 90 yX8_areLicences ∈ lw_all := lw_c2 (List.mem_of_getElem? (i := 103) rfl) rfl
theorem m_344 : Jvm.Cond.static yX8_areLicences ∈ lw_all := lw_c2 (List.mem_of_getElem? (i := 104) rfl) rfl
theorem m_345 : Jvm.Cond.code yX8_areLicences prog_10_method_4_code 2 (Option.some Jvm.ClassFile.FieldType.boolean) ∈ lw_all := lw_c2 (List.mem_of_getElem? (i := 105) rfl) rfl
theorem m_346 : Jvm.Cond.methodLink "Silkloft$Rules" 23 yX8_isIn ∈ lw_all := lw_c2 (List.mem_of_getElem? (i := 106) rfl) rfl
theorem m_347 : Jvm.Cond.static yX8_isIn ∈ lw_all := lw_c2 (List.mem_of_getElem? (i := 107) rfl) rfl
theorem m_348 : Jvm.Cond.code yX8_isIn prog_10_method_3_code 3 (Option.some Jvm.ClassFile.FieldType.boolean) ∈ lw_all := lw_c2 (List.mem_of_getElem? (i := 108) rfl) rfl
theorem m_349 : Jvm.Cond.fieldLink "Silkloft$Rules" 33 "Silkloft$Refusal" "ARGUMENT" "LSilkloft$Refusal;" ∈ lw_all := lw_c2 (List.mem_of_getElem? (i := 109) rfl) rfl
theorem m_351 : Jvm.Cond.fieldLink "Silkloft$Rules" 27 "Silkloft$Refusal" "NONE" "LSilkloft$Refusal;" ∈ lw_all := lw_c2 (List.mem_of_getElem? (i := 111) rfl) rfl
theorem m_353 : Jvm.Cond.fieldLink "Silkloft$Rules" 56 "Silkloft$Refusal" "STATE" "LSilkloft$Refusal;" ∈ lw_all := lw_c2 (List.mem_of_getElem? (i := 113) rfl) rfl
theorem m_355 : Jvm.Cond.methodLink "Silkloft$Rules" 15 yX8_ofSetLicences ∈ lw_all := lw_c2 (List.mem_of_getElem? (i := 115) rfl) rfl
theorem m_356 : Jvm.Cond.static yX8_ofSetLicences ∈ lw_all := lw_c2 (List.mem_of_getElem? (i := 116) rfl) rfl
theorem m_357 : Jvm.Cond.code yX8_ofSetLicences prog_10_method_6_code 4 (Option.some (Jvm.ClassFile.FieldType.object "Silkloft$Refusal")) ∈ lw_all := lw_c2 (List.mem_of_getElem? (i := 117) rfl) rfl
theorem m_358 : Jvm.Cond.methodLink "Silkloft$Rules" 97 yX5_hasRigger ∈ lw_all := lw_c2 (List.mem_of_getElem? (i := 118) rfl) rfl
theorem m_359 : Jvm.Cond.instanceMethod yX5_hasRigger ∈ lw_all := lw_c2 (List.mem_of_getElem? (i := 119) rfl) rfl
theorem m_360 : Jvm.Cond.selects "Silkloft$Loft" yX5_hasRigger yX5_hasRigger ∈ lw_all := lw_c2 (List.mem_of_getElem? (i := 120) rfl) rfl
theorem m_361 : Jvm.Cond.code yX5_hasRigger prog_7_method_3_code 2 (Option.some Jvm.ClassFile.FieldType.boolean) ∈ lw_all := lw_c2 (List.mem_of_getElem? (i := 121) rfl) rfl
theorem m_362 : Jvm.Cond.fieldLink "Silkloft$Rules" 81 "Silkloft$Refusal" "INDEX" "LSilkloft$Refusal;" ∈ lw_all := lw_c2 (List.mem_of_getElem? (i := 122) rfl) rfl
theorem m_364 : Jvm.Cond.methodLink "Silkloft$Rules" 19 yX8_ofAddCanopy ∈ lw_all := lw_c2 (List.mem_of_getElem? (i := 124) rfl) rfl
theorem m_365 : Jvm.Cond.static yX8_ofAddCanopy ∈ lw_all := lw_c2 (List.mem_of_getElem? (i := 125) rfl) rfl
theorem m_366 : Jvm.Cond.code yX8_ofAddCanopy prog_10_method_7_code 5 (Option.some (Jvm.ClassFile.FieldType.object "Silkloft$Refusal")) ∈ lw_all := lw_c2 (List.mem_of_getElem? (i := 126) rfl) rfl
theorem m_367 : Jvm.Cond.methodLink "Silkloft$Rules" 36 yX8_ofGoOn ∈ lw_all := lw_c2 (List.mem_of_getElem? (i := 127) rfl) rfl
theorem m_368 : Jvm.Cond.static yX8_ofGoOn ∈ lw_all := lw_c2 (List.mem_of_getElem? (i := 128) rfl) rfl
theorem m_369 : Jvm.Cond.code yX8_ofGoOn prog_10_method_8_code 2 (Option.some (Jvm.ClassFile.FieldType.object "Silkloft$Refusal")) ∈ lw_all := lw_c2 (List.mem_of_getElem? (i := 129) rfl) rfl
theorem m_370 : Jvm.Cond.methodLink "Silkloft$Rules" 40 yX8_ofHang ∈ lw_all := lw_c2 (List.mem_of_getElem? (i := 130) rfl) rfl
theorem m_371 : Jvm.Cond.static yX8_ofHang ∈ lw_all := lw_c2 (List.mem_of_getElem? (i := 131) rfl) rfl
theorem m_372 : Jvm.Cond.code yX8_ofHang prog_10_method_10_code 3 (Option.some (Jvm.ClassFile.FieldType.object "Silkloft$Refusal")) ∈ lw_all := lw_c2 (List.mem_of_getElem? (i := 132) rfl) rfl
theorem m_373 : Jvm.Cond.methodLink "Silkloft$Rules" 106 yX5_hasCanopy ∈ lw_all := lw_c2 (List.mem_of_getElem? (i := 133) rfl) rfl
theorem m_374 : Jvm.Cond.instanceMethod yX5_hasCanopy ∈ lw_all := lw_c2 (List.mem_of_getElem? (i := 134) rfl) rfl
theorem m_375 : Jvm.Cond.selects "Silkloft$Loft" yX5_hasCanopy yX5_hasCanopy ∈ lw_all := lw_c2 (List.mem_of_getElem? (i := 135) rfl) rfl
theorem m_376 : Jvm.Cond.code yX5_hasCanopy prog_7_method_4_code 2 (Option.some Jvm.ClassFile.FieldType.boolean) ∈ lw_all := lw_c2 (List.mem_of_getElem? (i := 136) rfl) rfl
theorem m_377 : Jvm.Cond.fieldLink "Silkloft$Rules" 119 "Silkloft$Refusal" "UNSUPPORTED" "LSilkloft$Refusal;" ∈ lw_all := lw_c2 (List.mem_of_getElem? (i := 137) rfl) rfl
theorem m_379 : Jvm.Cond.methodLink "Silkloft$Rules" 122 yX5_isHookFree ∈ lw_all := lw_c2 (List.mem_of_getElem? (i := 139) rfl) rfl
theorem m_380 : Jvm.Cond.instanceMethod yX5_isHookFree ∈ lw_all := lw_c2 (List.mem_of_getElem? (i := 140) rfl) rfl
theorem m_381 : Jvm.Cond.selects "Silkloft$Loft" yX5_isHookFree yX5_isHookFree ∈ lw_all := lw_c2 (List.mem_of_getElem? (i := 141) rfl) rfl
theorem m_382 : Jvm.Cond.code yX5_isHookFree prog_7_method_14_code 3 (Option.some Jvm.ClassFile.FieldType.boolean) ∈ lw_all := lw_c2 (List.mem_of_getElem? (i := 142) rfl) rfl
theorem m_383 : Jvm.Cond.methodLink "Silkloft$Rules" 43 yX8_ofStep ∈ lw_all := lw_c2 (List.mem_of_getElem? (i := 143) rfl) rfl
theorem m_384 : Jvm.Cond.static yX8_ofStep ∈ lw_all := lw_c2 (List.mem_of_getElem? (i := 144) rfl) rfl
theorem m_385 : Jvm.Cond.code yX8_ofStep prog_10_method_11_code 6 (Option.some (Jvm.ClassFile.FieldType.object "Silkloft$Refusal")) ∈ lw_all := lw_c2 (List.mem_of_getElem? (i := 145) rfl) rfl
theorem m_386 : Jvm.Cond.methodLink "Silkloft$Rules" 132 yX7_may ∈ lw_all := lw_c2 (List.mem_of_getElem? (i := 146) rfl) rfl
theorem m_387 : Jvm.Cond.instanceMethod yX7_may ∈ lw_all := lw_c2 (List.mem_of_getElem? (i := 147) rfl) rfl
theorem m_388 : Jvm.Cond.selects "Silkloft$Rigger" yX7_may yX7_may ∈ lw_all := lw_c2 (List.mem_of_getElem? (i := 148) rfl) rfl
theorem m_389 : Jvm.Cond.code yX7_may prog_9_method_3_code 3 (Option.some Jvm.ClassFile.FieldType.boolean) ∈ lw_all := lw_c2 (List.mem_of_getElem? (i := 149) rfl) rfl
theorem m_390 : Jvm.Cond.methodLink "Silkloft$Rules" 46 yX8_ofCanopyIn ∈ lw_all := lw_c2 (List.mem_of_getElem? (i := 150) rfl) rfl
theorem m_391 : Jvm.Cond.static yX8_ofCanopyIn ∈ lw_all := lw_c2 (List.mem_of_getElem? (i := 151) rfl) rfl
theorem m_392 : Jvm.Cond.code yX8_ofCanopyIn prog_10_method_9_code 3 (Option.some (Jvm.ClassFile.FieldType.object "Silkloft$Refusal")) ∈ lw_all := lw_c2 (List.mem_of_getElem? (i := 152) rfl) rfl
theorem m_393 : Jvm.Cond.methodLink "Silkloft$Rules" 59 yX8_ofBoard ∈ lw_all := lw_c2 (List.mem_of_getElem? (i := 153) rfl) rfl
theorem m_394 : Jvm.Cond.static yX8_ofBoard ∈ lw_all := lw_c2 (List.mem_of_getElem? (i := 154) rfl) rfl
theorem m_395 : Jvm.Cond.code yX8_ofBoard prog_10_method_12_code 6 (Option.some (Jvm.ClassFile.FieldType.object "Silkloft$Refusal")) ∈ lw_all := lw_c2 (List.mem_of_getElem? (i := 155) rfl) rfl
theorem m_396 : Jvm.Cond.methodLink "Silkloft$Rules" 141 yX5_hasLoad ∈ lw_all := lw_c2 (List.mem_of_getElem? (i := 156) rfl) rfl
theorem m_397 : Jvm.Cond.instanceMethod yX5_hasLoad ∈ lw_all := lw_c2 (List.mem_of_getElem? (i := 157) rfl) rfl
theorem m_398 : Jvm.Cond.selects "Silkloft$Loft" yX5_hasLoad yX5_hasLoad ∈ lw_all := lw_c2 (List.mem_of_getElem? (i := 158) rfl) rfl
theorem m_399 : Jvm.Cond.code yX5_hasLoad prog_7_method_5_code 2 (Option.some Jvm.ClassFile.FieldType.boolean) ∈ lw_all := lw_c2 (List.mem_of_getElem? (i := 159) rfl) rfl
theorem m_400 : Jvm.Cond.methodLink "Silkloft$Rules" 157 yX5_isFitToJump ∈ lw_all := lw_c2 (List.mem_of_getElem? (i := 160) rfl) rfl
theorem m_401 : Jvm.Cond.instanceMethod yX5_isFitToJump ∈ lw_all := lw_c2 (List.mem_of_getElem? (i := 161) rfl) rfl
theorem m_402 : Jvm.Cond.selects "Silkloft$Loft" yX5_isFitToJump yX5_isFitToJump ∈ lw_all := lw_c2 (List.mem_of_getElem? (i := 162) rfl) rfl
theorem m_403 : Jvm.Cond.code yX5_isFitToJump prog_7_method_31_code 2 (Option.some Jvm.ClassFile.FieldType.boolean) ∈ lw_all := lw_c2 (List.mem_of_getElem? (i := 163) rfl) rfl
theorem m_404 : Jvm.Cond.methodLink "Silkloft$Loft" 262 yX5_isTooOld ∈ lw_all := lw_c2 (List.mem_of_getElem? (i := 164) rfl) rfl
theorem m_405 : Jvm.Cond.instanceMethod yX5_isTooOld ∈ lw_all := lw_c2 (List.mem_of_getElem? (i := 165) rfl) rfl
theorem m_406 : Jvm.Cond.selects "Silkloft$Loft" yX5_isTooOld yX5_isTooOld ∈ lw_all := lw_c2 (List.mem_of_getElem? (i := 166) rfl) rfl
theorem m_407 : Jvm.Cond.code yX5_isTooOld prog_7_method_32_code 3 (Option.some Jvm.ClassFile.FieldType.boolean) ∈ lw_all := lw_c2 (List.mem_of_getElem? (i := 167) rfl) rfl
theorem m_408 : Jvm.Cond.methodLink "Silkloft$Loft" 278 yX5_daysLeft ∈ lw_all := lw_c2 (List.mem_of_getElem? (i := 168) rfl) rfl
theorem m_410 : Jvm.Cond.instanceMethod yX5_daysLeft ∈ lw_all := lw_c2 (List.mem_of_getElem? (i := 170) rfl) rfl
theorem m_411 : Jvm.Cond.code yX5_daysLeft prog_7_method_33_code 2 (Option.some Jvm.ClassFile.FieldType.int) ∈ lw_all := lw_c2 (List.mem_of_getElem? (i := 171) rfl) rfl
theorem m_412 : Jvm.Cond.methodLink "Silkloft$Loft" 182 yX0_has ∈ lw_all := lw_c2 (List.mem_of_getElem? (i := 172) rfl) rfl
theorem m_413 : Jvm.Cond.instanceMethod yX0_has ∈ lw_all := lw_c2 (List.mem_of_getElem? (i := 173) rfl) rfl
theorem m_414 : Jvm.Cond.selects "Silkloft$Book" yX0_has yX0_has ∈ lw_all := lw_c2 (List.mem_of_getElem? (i := 174) rfl) rfl
theorem m_415 : Jvm.Cond.code yX0_has prog_2_method_3_code 2 (Option.some Jvm.ClassFile.FieldType.boolean) ∈ lw_all := lw_c2 (List.mem_of_getElem? (i := 175) rfl) rfl
theorem m_416 : Jvm.Cond.methodLink "Silkloft$Loft" 266 yX5_isOnGround ∈ lw_all := lw_c2 (List.mem_of_getElem? (i := 176) rfl) rfl
theorem m_417 : Jvm.Cond.instanceMethod yX5_isOnGround ∈ lw_all := lw_c2 (List.mem_of_getElem? (i := 177) rfl) rfl
theorem m_418 : Jvm.Cond.selects "Silkloft$Loft" yX5_isOnGround yX5_isOnGround ∈ lw_all := lw_c2 (List.mem_of_getElem? (i := 178) rfl) rfl
theorem m_419 : Jvm.Cond.code yX5_isOnGround prog_7_method_34_code 3 (Option.some Jvm.ClassFile.FieldType.boolean) ∈ lw_all := lw_c2 (List.mem_of_getElem? (i := 179) rfl) rfl
theorem m_420 : Jvm.Cond.methodLink "Silkloft$Loft" 284 yX5_isReachedBy ∈ lw_all := lw_c2 (List.mem_of_getElem? (i := 180) rfl) rfl
theorem m_422 : Jvm.Cond.instanceMethod yX5_isReachedBy ∈ lw_all := lw_c2 (List.mem_of_getElem? (i := 182) rfl) rfl
theorem m_423 : Jvm.Cond.code yX5_isReachedBy prog_7_method_36_code 6 (Option.some Jvm.ClassFile.FieldType.boolean) ∈ lw_all := lw_c2 (List.mem_of_getElem? (i := 183) rfl) rfl
theorem m_424 : Jvm.Cond.methodLink "Silkloft$Loft" 291 yX3_goesBy ∈ lw_all := lw_c2 (List.mem_of_getElem? (i := 184) rfl) rfl
theorem m_425 : Jvm.Cond.instanceMethod yX3_goesBy ∈ lw_all := lw_c2 (List.mem_of_getElem? (i := 185) rfl) rfl
theorem m_426 : Jvm.Cond.selects "Silkloft$Finding" yX3_goesBy yX3_goesBy ∈ lw_all := lw_c2 (List.mem_of_getElem? (i := 186) rfl) rfl
theorem m_427 : Jvm.Cond.code yX3_goesBy prog_5_method_3_code 3 (Option.some Jvm.ClassFile.FieldType.boolean) ∈ lw_all := lw_c2 (List.mem_of_getElem? (i := 187) rfl) rfl
theorem m_428 : Jvm.Cond.methodLink "Silkloft$Loft" 198 yX0_handsOf ∈ lw_all := lw_c2 (List.mem_of_getElem? (i := 188) rfl) rfl
theorem m_429 : Jvm.Cond.instanceMethod yX0_handsOf ∈ lw_all := lw_c2 (List.mem_of_getElem? (i := 189) rfl) rfl
theorem m_430 : Jvm.Cond.selects "Silkloft$Book" yX0_handsOf yX0_handsOf ∈ lw_all := lw_c2 (List.mem_of_getElem? (i := 190) rfl) rfl
theorem m_431 : Jvm.Cond.code yX0_handsOf prog_2_method_4_code 5 (Option.some Jvm.ClassFile.FieldType.long) ∈ lw_all := lw_c2 (List.mem_of_getElem? (i := 191) rfl) rfl
theorem m_432 : Jvm.Cond.methodLink "Silkloft$Loft" 288 yX5_isFreeOf ∈ lw_all := lw_c2 (List.mem_of_getElem? (i := 192) rfl) rfl
theorem m_434 : Jvm.Cond.instanceMethod yX5_isFreeOf ∈ lw_all := lw_c2 (List.mem_of_getElem? (i := 194) rfl) rfl
theorem m_435 : Jvm.Cond.code yX5_isFreeOf prog_7_method_37_code 4 (Option.some Jvm.ClassFile.FieldType.boolean) ∈ lw_all := lw_c2 (List.mem_of_getElem? (i := 195) rfl) rfl
theorem m_436 : Jvm.Cond.methodLink "Silkloft$Rules" 62 yX8_ofLeave ∈ lw_all := lw_c2 (List.mem_of_getElem? (i := 196) rfl) rfl
theorem m_437 : Jvm.Cond.static yX8_ofLeave ∈ lw_all := lw_c2 (List.mem_of_getElem? (i := 197) rfl) rfl
theorem m_438 : Jvm.Cond.code yX8_ofLeave prog_10_method_13_code 2 (Option.some (Jvm.ClassFile.FieldType.object "Silkloft$Refusal")) ∈ lw_all := lw_c2 (List.mem_of_getElem? (i := 198) rfl) rfl
theorem m_439 : Jvm.Cond.methodLink "Silkloft$Rules" 65 yX8_ofJump ∈ lw_all := lw_c2 (List.mem_of_getElem? (i := 199) rfl) rfl
theorem m_440 : Jvm.Cond.static yX8_ofJump ∈ lw_all := lw_c2 (List.mem_of_getElem? (i := 200) rfl) rfl
theorem m_441 : Jvm.Cond.code yX8_ofJump prog_10_method_14_code 5 (Option.some (Jvm.ClassFile.FieldType.object "Silkloft$Refusal")) ∈ lw_all := lw_c2 (List.mem_of_getElem? (i := 201) rfl) rfl
theorem m_442 : Jvm.Cond.methodLink "Silkloft$Rules" 68 yX8_ofFind ∈ lw_all := lw_c2 (List.mem_of_getElem? (i := 202) rfl) rfl
theorem m_443 : Jvm.Cond.static yX8_ofFind ∈ lw_all := lw_c2 (List.mem_of_getElem? (i := 203) rfl) rfl
theorem m_444 : Jvm.Cond.code yX8_ofFind prog_10_method_15_code 2 (Option.some (Jvm.ClassFile.FieldType.object "Silkloft$Refusal")) ∈ lw_all := lw_c2 (List.mem_of_getElem? (i := 204) rfl) rfl
theorem m_445 : Jvm.Cond.methodLink "Silkloft$Rules" 71 yX8_ofWiden ∈ lw_all := lw_c2 (List.mem_of_getElem? (i := 205) rfl) rfl
theorem m_446 : Jvm.Cond.static yX8_ofWiden ∈ lw_all := lw_c2 (List.mem_of_getElem? (i := 206) rfl) rfl
theorem m_447 : Jvm.Cond.code yX8_ofWiden prog_10_method_16_code 4 (Option.some (Jvm.ClassFile.FieldType.object "Silkloft$Refusal")) ∈ lw_all := lw_c2 (List.mem_of_getElem? (i := 207) rfl) rfl
theorem m_448 : Jvm.Cond.methodLink "Silkloft$Rules" 77 yX5_hasFinding ∈ lw_all := lw_c2 (List.mem_of_getElem? (i := 208) rfl) rfl
theorem m_449 : Jvm.Cond.instanceMethod yX5_hasFinding ∈ lw_all := lw_c2 (List.mem_of_getElem? (i := 209) rfl) rfl
theorem m_450 : Jvm.Cond.selects "Silkloft$Loft" yX5_hasFinding yX5_hasFinding ∈ lw_all := lw_c2 (List.mem_of_getElem? (i := 210) rfl) rfl
theorem m_451 : Jvm.Cond.code yX5_hasFinding prog_7_method_6_code 2 (Option.some Jvm.ClassFile.FieldType.boolean) ∈ lw_all := lw_c2 (List.mem_of_getElem? (i := 211) rfl) rfl
theorem m_452 : Jvm.Cond.methodLink "Silkloft$Rules" 74 yX8_ofTellCause ∈ lw_all := lw_c2 (List.mem_of_getElem? (i := 212) rfl) rfl
theorem m_453 : Jvm.Cond.static yX8_ofTellCause ∈ lw_all := lw_c2 (List.mem_of_getElem? (i := 213) rfl) rfl
theorem m_454 : Jvm.Cond.code yX8_ofTellCause prog_10_method_17_code 5 (Option.some (Jvm.ClassFile.FieldType.object "Silkloft$Refusal")) ∈ lw_all := lw_c2 (List.mem_of_getElem? (i := 214) rfl) rfl
theorem m_455 : Jvm.Cond.methodLink "Silkloft$Rules" 84 yX8_ofRepair ∈ lw_all := lw_c2 (List.mem_of_getElem? (i := 215) rfl) rfl
theorem m_456 : Jvm.Cond.static yX8_ofRepair ∈ lw_all := lw_c2 (List.mem_of_getElem? (i := 216) rfl) rfl
theorem m_457 : Jvm.Cond.code yX8_ofRepair prog_10_method_18_code 3 (Option.some (Jvm.ClassFile.FieldType.object "Silkloft$Refusal")) ∈ lw_all := lw_c2 (List.mem_of_getElem? (i := 217) rfl) rfl
theorem m_458 : Jvm.Cond.methodLink "Silkloft$Rules" 87 yX8_ofHire ∈ lw_all := lw_c2 (List.mem_of_getElem? (i := 218) rfl) rfl
theorem m_459 : Jvm.Cond.static yX8_ofHire ∈ lw_all := lw_c2 (List.mem_of_getElem? (i := 219) rfl) rfl
theorem m_460 : Jvm.Cond.code yX8_ofHire prog_10_method_19_code 5 (Option.some (Jvm.ClassFile.FieldType.object "Silkloft$Refusal")) ∈ lw_all := lw_c2 (List.mem_of_getElem? (i := 220) rfl) rfl
theorem m_461 : Jvm.Cond.fieldLink "Silkloft$Diary" 29 "Silkloft$Refusal" "NONE" "LSilkloft$Refusal;" ∈ lw_all := lw_c2 (List.mem_of_getElem? (i := 221) rfl) rfl
theorem m_462 : Jvm.Cond.methodLink "Silkloft$Diary" 35 yX5_perform ∈ lw_all := lw_c2 (List.mem_of_getElem? (i := 222) rfl) rfl
theorem m_463 : Jvm.Cond.instanceMethod yX5_perform ∈ lw_all := lw_c2 (List.mem_of_getElem? (i := 223) rfl) rfl
theorem m_464 : Jvm.Cond.selects "Silkloft$Loft" yX5_perform yX5_perform ∈ lw_all := lw_c2 (List.mem_of_getElem? (i := 224) rfl) rfl
theorem m_465 : Jvm.Cond.code yX5_perform prog_7_method_7_code 6 (Option.some Jvm.ClassFile.FieldType.int) ∈ lw_all := lw_c2 (List.mem_of_getElem? (i := 225) rfl) rfl
theorem m_466 : Jvm.Cond.methodLink "Silkloft$Loft" 75 yX5_enrol ∈ lw_all := lw_c2 (List.mem_of_getElem? (i := 226) rfl) rfl
theorem m_468 : Jvm.Cond.instanceMethod yX5_enrol ∈ lw_all := lw_c2 (List.mem_of_getElem? (i := 228) rfl) rfl
theorem m_469 : Jvm.Cond.code yX5_enrol prog_7_method_8_code 3 (Option.some Jvm.ClassFile.FieldType.int) ∈ lw_all := lw_c2 (List.mem_of_getElem? (i := 229) rfl) rfl
theorem m_470 : Jvm.Cond.methodLink "Silkloft$Loft" 149 yX7_set ∈ lw_all := lw_c2 (List.mem_of_getElem? (i := 230) rfl) rfl
theorem m_471 : Jvm.Cond.instanceMethod yX7_set ∈ lw_all := lw_c2 (List.mem_of_getElem? (i := 231) rfl) rfl
theorem m_472 : Jvm.Cond.selects "Silkloft$Rigger" yX7_set yX7_set ∈ lw_all := lw_c2 (List.mem_of_getElem? (i := 232) rfl) rfl
theorem m_473 : Jvm.Cond.code yX7_set prog_9_method_2_code 3 (Option.none : Option Jvm.ClassFile.FieldType) ∈ lw_all := lw_c2 (List.mem_of_getElem? (i := 233) rfl) rfl
theorem m_474 : Jvm.Cond.methodLink "Silkloft$Loft" 79 yX5_relicense ∈ lw_all := lw_c2 (List.mem_of_getElem? (i := 234) rfl) rfl
theorem m_476 : Jvm.Cond.instanceMethod yX5_relicense ∈ lw_all := lw_c2 (List.mem_of_getElem? (i := 236) rfl) rfl
theorem m_477 : Jvm.Cond.code yX5_relicense prog_7_method_9_code 5 (Option.some Jvm.ClassFile.FieldType.int) ∈ lw_all := lw_c2 (List.mem_of_getElem? (i := 237) rfl) rfl
theorem m_478 : Jvm.Cond.methodLink "Silkloft$Loft" 83 yX5_enter ∈ lw_all := lw_c2 (List.mem_of_getElem? (i := 238) rfl) rfl
theorem m_480 : Jvm.Cond.instanceMethod yX5_enter ∈ lw_all := lw_c3 (List.mem_of_getElem? (i := 0) rfl) rfl
theorem m_481 : Jvm.Cond.code yX5_enter prog_7_method_10_code 5 (Option.some Jvm.ClassFile.FieldType.int) ∈ lw_all := lw_c3 (List.mem_of_getElem? (i := 1) rfl) rfl
theorem m_482 : Jvm.Cond.methodLink "Silkloft$Loft" 156 yX1_begin ∈ lw_all := lw_c3 (List.mem_of_getElem? (i := 2) rfl) rfl
theorem m_483 : Jvm.Cond.instanceMethod yX1_begin ∈ lw_all := lw_c3 (List.mem_of_getElem? (i := 3) rfl) rfl
theorem m_484 : Jvm.Cond.selects "Silkloft$Canopy" yX1_begin yX1_begin ∈ lw_all := lw_c3 (List.mem_of_getElem? (i := 4) rfl) rfl
theorem m_485 : Jvm.Cond.code yX1_begin prog_3_method_2_code 6 (Option.none : Option Jvm.ClassFile.FieldType) ∈ lw_all := lw_c3 (List.mem_of_getElem? (i := 5) rfl) rfl
theorem m_486 : Jvm.Cond.methodLink "Silkloft$Loft" 87 yX5_changePeriod ∈ lw_all := lw_c3 (List.mem_of_getElem? (i := 6) rfl) rfl
theorem m_488 : Jvm.Cond.instanceMethod yX5_changePeriod ∈ lw_all := lw_c3 (List.mem_of_getElem? (i := 8) rfl) rfl
theorem m_489 : Jvm.Cond.code yX5_changePeriod prog_7_method_11_code 3 (Option.some Jvm.ClassFile.FieldType.int) ∈ lw_all := lw_c3 (List.mem_of_getElem? (i := 9) rfl) rfl
theorem m_490 : Jvm.Cond.methodLink "Silkloft$Loft" 91 yX5_letDaysPass ∈ lw_all := lw_c3 (List.mem_of_getElem? (i := 10) rfl) rfl
theorem m_492 : Jvm.Cond.instanceMethod yX5_letDaysPass ∈ lw_all := lw_c3 (List.mem_of_getElem? (i := 12) rfl) rfl
theorem m_493 : Jvm.Cond.code yX5_letDaysPass prog_7_method_12_code 2 (Option.some Jvm.ClassFile.FieldType.int) ∈ lw_all := lw_c3 (List.mem_of_getElem? (i := 13) rfl) rfl
theorem m_494 : Jvm.Cond.methodLink "Silkloft$Loft" 94 yX5_putOnHook ∈ lw_all := lw_c3 (List.mem_of_getElem? (i := 14) rfl) rfl
theorem m_496 : Jvm.Cond.instanceMethod yX5_putOnHook ∈ lw_all := lw_c3 (List.mem_of_getElem? (i := 16) rfl) rfl
theorem m_497 : Jvm.Cond.code yX5_putOnHook prog_7_method_13_code 6 (Option.some Jvm.ClassFile.FieldType.int) ∈ lw_all := lw_c3 (List.mem_of_getElem? (i := 17) rfl) rfl
theorem m_498 : Jvm.Cond.methodLink "Silkloft$Loft" 97 yX5_doStep ∈ lw_all := lw_c3 (List.mem_of_getElem? (i := 18) rfl) rfl
theorem m_500 : Jvm.Cond.instanceMethod yX5_doStep ∈ lw_all := lw_c3 (List.mem_of_getElem? (i := 20) rfl) rfl
theorem m_501 : Jvm.Cond.code yX5_doStep prog_7_method_15_code 5 (Option.some Jvm.ClassFile.FieldType.int) ∈ lw_all := lw_c3 (List.mem_of_getElem? (i := 21) rfl) rfl
theorem m_502 : Jvm.Cond.methodLink "Silkloft$Loft" 174 yX5_endPacking ∈ lw_all := lw_c3 (List.mem_of_getElem? (i := 22) rfl) rfl
theorem m_504 : Jvm.Cond.instanceMethod yX5_endPacking ∈ lw_all := lw_c3 (List.mem_of_getElem? (i := 24) rfl) rfl
theorem m_505 : Jvm.Cond.code yX5_endPacking prog_7_method_16_code 4 (Option.none : Option Jvm.ClassFile.FieldType) ∈ lw_all := lw_c3 (List.mem_of_getElem? (i := 25) rfl) rfl
theorem m_506 : Jvm.Cond.methodLink "Silkloft$Loft" 178 yX0_write ∈ lw_all := lw_c3 (List.mem_of_getElem? (i := 26) rfl) rfl
theorem m_507 : Jvm.Cond.instanceMethod yX0_write ∈ lw_all := lw_c3 (List.mem_of_getElem? (i := 27) rfl) rfl
theorem m_508 : Jvm.Cond.selects "Silkloft$Book" yX0_write yX0_write ∈ lw_all := lw_c3 (List.mem_of_getElem? (i := 28) rfl) rfl
theorem m_509 : Jvm.Cond.code yX0_write prog_2_method_2_code 6 (Option.some Jvm.ClassFile.FieldType.int) ∈ lw_all := lw_c3 (List.mem_of_getElem? (i := 29) rfl) rfl
theorem m_510 : Jvm.Cond.methodLink "Silkloft$Loft" 100 yX5_takeOffHook ∈ lw_all := lw_c3 (List.mem_of_getElem? (i := 30) rfl) rfl
theorem m_512 : Jvm.Cond.instanceMethod yX5_takeOffHook ∈ lw_all := lw_c3 (List.mem_of_getElem? (i := 32) rfl) rfl
theorem m_513 : Jvm.Cond.code yX5_takeOffHook prog_7_method_17_code 3 (Option.some Jvm.ClassFile.FieldType.int) ∈ lw_all := lw_c3 (List.mem_of_getElem? (i := 33) rfl) rfl
theorem m_514 : Jvm.Cond.methodLink "Silkloft$Loft" 104 yX5_beginLoad ∈ lw_all := lw_c3 (List.mem_of_getElem? (i := 34) rfl) rfl
theorem m_516 : Jvm.Cond.instanceMethod yX5_beginLoad ∈ lw_all := lw_c3 (List.mem_of_getElem? (i := 36) rfl) rfl
theorem m_517 : Jvm.Cond.code yX5_beginLoad prog_7_method_18_code 1 (Option.some Jvm.ClassFile.FieldType.int) ∈ lw_all := lw_c3 (List.mem_of_getElem? (i := 37) rfl) rfl
theorem m_518 : Jvm.Cond.methodLink "Silkloft$Loft" 202 yX4_begin ∈ lw_all := lw_c3 (List.mem_of_getElem? (i := 38) rfl) rfl
theorem m_519 : Jvm.Cond.instanceMethod yX4_begin ∈ lw_all := lw_c3 (List.mem_of_getElem? (i := 39) rfl) rfl
theorem m_520 : Jvm.Cond.selects "Silkloft$Load" yX4_begin yX4_begin ∈ lw_all := lw_c3 (List.mem_of_getElem? (i := 40) rfl) rfl
theorem m_521 : Jvm.Cond.code yX4_begin prog_6_method_2_code 1 (Option.none : Option Jvm.ClassFile.FieldType) ∈ lw_all := lw_c3 (List.mem_of_getElem? (i := 41) rfl) rfl
theorem m_522 : Jvm.Cond.methodLink "Silkloft$Loft" 108 yX5_putAboard ∈ lw_all := lw_c3 (List.mem_of_getElem? (i := 42) rfl) rfl
theorem m_524 : Jvm.Cond.instanceMethod yX5_putAboard ∈ lw_all := lw_c3 (List.mem_of_getElem? (i := 44) rfl) rfl
theorem m_525 : Jvm.Cond.code yX5_putAboard prog_7_method_19_code 4 (Option.some Jvm.ClassFile.FieldType.int) ∈ lw_all := lw_c3 (List.mem_of_getElem? (i := 45) rfl) rfl
theorem m_526 : Jvm.Cond.methodLink "Silkloft$Loft" 112 yX5_takeLastOff ∈ lw_all := lw_c3 (List.mem_of_getElem? (i := 46) rfl) rfl
theorem m_528 : Jvm.Cond.instanceMethod yX5_takeLastOff ∈ lw_all := lw_c3 (List.mem_of_getElem? (i := 48) rfl) rfl
theorem m_529 : Jvm.Cond.code yX5_takeLastOff prog_7_method_20_code 2 (Option.some Jvm.ClassFile.FieldType.int) ∈ lw_all := lw_c3 (List.mem_of_getElem? (i := 49) rfl) rfl
theorem m_530 : Jvm.Cond.methodLink "Silkloft$Loft" 116 yX5_letJump ∈ lw_all := lw_c3 (List.mem_of_getElem? (i := 50) rfl) rfl
theorem m_532 : Jvm.Cond.instanceMethod yX5_letJump ∈ lw_all := lw_c3 (List.mem_of_getElem? (i := 52) rfl) rfl
theorem m_533 : Jvm.Cond.code yX5_letJump prog_7_method_21_code 5 (Option.some Jvm.ClassFile.FieldType.int) ∈ lw_all := lw_c3 (List.mem_of_getElem? (i := 53) rfl) rfl
theorem m_534 : Jvm.Cond.methodLink "Silkloft$Loft" 213 yX1_land ∈ lw_all := lw_c3 (List.mem_of_getElem? (i := 54) rfl) rfl
theorem m_535 : Jvm.Cond.instanceMethod yX1_land ∈ lw_all := lw_c3 (List.mem_of_getElem? (i := 55) rfl) rfl
theorem m_536 : Jvm.Cond.selects "Silkloft$Canopy" yX1_land yX1_land ∈ lw_all := lw_c3 (List.mem_of_getElem? (i := 56) rfl) rfl
theorem m_537 : Jvm.Cond.code yX1_land prog_3_method_4_code 1 (Option.none : Option Jvm.ClassFile.FieldType) ∈ lw_all := lw_c3 (List.mem_of_getElem? (i := 57) rfl) rfl
theorem m_538 : Jvm.Cond.methodLink "Silkloft$Loft" 120 yX5_noteFinding ∈ lw_all := lw_c3 (List.mem_of_getElem? (i := 58) rfl) rfl
theorem m_540 : Jvm.Cond.instanceMethod yX5_noteFinding ∈ lw_all := lw_c3 (List.mem_of_getElem? (i := 60) rfl) rfl
theorem m_541 : Jvm.Cond.code yX5_noteFinding prog_7_method_22_code 2 (Option.some Jvm.ClassFile.FieldType.int) ∈ lw_all := lw_c3 (List.mem_of_getElem? (i := 61) rfl) rfl
theorem m_542 : Jvm.Cond.methodLink "Silkloft$Loft" 220 yX3_begin ∈ lw_all := lw_c3 (List.mem_of_getElem? (i := 62) rfl) rfl
theorem m_543 : Jvm.Cond.instanceMethod yX3_begin ∈ lw_all := lw_c3 (List.mem_of_getElem? (i := 63) rfl) rfl
theorem m_544 : Jvm.Cond.selects "Silkloft$Finding" yX3_begin yX3_begin ∈ lw_all := lw_c3 (List.mem_of_getElem? (i := 64) rfl) rfl
theorem m_545 : Jvm.Cond.code yX3_begin prog_5_method_2_code 4 (Option.none : Option Jvm.ClassFile.FieldType) ∈ lw_all := lw_c3 (List.mem_of_getElem? (i := 65) rfl) rfl
theorem m_546 : Jvm.Cond.methodLink "Silkloft$Loft" 123 yX5_raiseLevel ∈ lw_all := lw_c3 (List.mem_of_getElem? (i := 66) rfl) rfl
theorem m_548 : Jvm.Cond.instanceMethod yX5_raiseLevel ∈ lw_all := lw_c3 (List.mem_of_getElem? (i := 68) rfl) rfl
theorem m_549 : Jvm.Cond.code yX5_raiseLevel prog_7_method_24_code 2 (Option.some Jvm.ClassFile.FieldType.int) ∈ lw_all := lw_c3 (List.mem_of_getElem? (i := 69) rfl) rfl
theorem m_550 : Jvm.Cond.methodLink "Silkloft$Loft" 127 yX5_noteCause ∈ lw_all := lw_c3 (List.mem_of_getElem? (i := 70) rfl) rfl
theorem m_552 : Jvm.Cond.instanceMethod yX5_noteCause ∈ lw_all := lw_c3 (List.mem_of_getElem? (i := 72) rfl) rfl
theorem m_553 : Jvm.Cond.code yX5_noteCause prog_7_method_25_code 4 (Option.some Jvm.ClassFile.FieldType.int) ∈ lw_all := lw_c3 (List.mem_of_getElem? (i := 73) rfl) rfl
theorem m_554 : Jvm.Cond.methodLink "Silkloft$Loft" 131 yX5_shut ∈ lw_all := lw_c3 (List.mem_of_getElem? (i := 74) rfl) rfl
theorem m_556 : Jvm.Cond.instanceMethod yX5_shut ∈ lw_all := lw_c3 (List.mem_of_getElem? (i := 76) rfl) rfl
theorem m_557 : Jvm.Cond.code yX5_shut prog_7_method_26_code 3 (Option.some Jvm.ClassFile.FieldType.int) ∈ lw_all := lw_c3 (List.mem_of_getElem? (i := 77) rfl) rfl
theorem m_558 : Jvm.Cond.methodLink "Silkloft$Loft" 134 yX5_mend ∈ lw_all := lw_c3 (List.mem_of_getElem? (i := 78) rfl) rfl
theorem m_560 : Jvm.Cond.instanceMethod yX5_mend ∈ lw_all := lw_c3 (List.mem_of_getElem? (i := 80) rfl) rfl
theorem m_561 : Jvm.Cond.code yX5_mend prog_7_method_27_code 3 (Option.some Jvm.ClassFile.FieldType.int) ∈ lw_all := lw_c3 (List.mem_of_getElem? (i := 81) rfl) rfl
theorem m_562 : Jvm.Cond.methodLink "Silkloft$Loft" 137 yX5_tryOut ∈ lw_all := lw_c3 (List.mem_of_getElem? (i := 82) rfl) rfl
theorem m_564 : Jvm.Cond.instanceMethod yX5_tryOut ∈ lw_all := lw_c3 (List.mem_of_getElem? (i := 84) rfl) rfl
theorem m_565 : Jvm.Cond.code yX5_tryOut prog_7_method_28_code 4 (Option.some Jvm.ClassFile.FieldType.int) ∈ lw_all := lw_c3 (List.mem_of_getElem? (i := 85) rfl) rfl
theorem m_566 : Jvm.Cond.methodLink "Silkloft$Loft" 241 yX1_noteDrop ∈ lw_all := lw_c3 (List.mem_of_getElem? (i := 86) rfl) rfl
theorem m_567 : Jvm.Cond.instanceMethod yX1_noteDrop ∈ lw_all := lw_c3 (List.mem_of_getElem? (i := 87) rfl) rfl
theorem m_568 : Jvm.Cond.selects "Silkloft$Canopy" yX1_noteDrop yX1_noteDrop ∈ lw_all := lw_c3 (List.mem_of_getElem? (i := 88) rfl) rfl
theorem m_569 : Jvm.Cond.code yX1_noteDrop prog_3_method_3_code 3 (Option.none : Option Jvm.ClassFile.FieldType) ∈ lw_all := lw_c3 (List.mem_of_getElem? (i := 89) rfl) rfl
theorem m_570 : Jvm.Cond.methodLink "Silkloft$Loft" 245 yX5_noteFindingIfRoom ∈ lw_all := lw_c3 (List.mem_of_getElem? (i := 90) rfl) rfl
theorem m_572 : Jvm.Cond.instanceMethod yX5_noteFindingIfRoom ∈ lw_all := lw_c3 (List.mem_of_getElem? (i := 92) rfl) rfl
theorem m_573 : Jvm.Cond.code yX5_noteFindingIfRoom prog_7_method_23_code 2 (Option.none : Option Jvm.ClassFile.FieldType) ∈ lw_all := lw_c3 (List.mem_of_getElem? (i := 93) rfl) rfl
theorem m_574 : Jvm.Cond.methodLink "Silkloft$Loft" 141 yX5_handOut ∈ lw_all := lw_c3 (List.mem_of_getElem? (i := 94) rfl) rfl
theorem m_576 : Jvm.Cond.instanceMethod yX5_handOut ∈ lw_all := lw_c3 (List.mem_of_getElem? (i := 96) rfl) rfl
theorem m_577 : Jvm.Cond.code yX5_handOut prog_7_method_29_code 4 (Option.some Jvm.ClassFile.FieldType.int) ∈ lw_all := lw_c3 (List.mem_of_getElem? (i := 97) rfl) rfl
theorem m_578 : Jvm.Cond.methodLink "Silkloft$Loft" 145 yX5_takeIn ∈ lw_all := lw_c3 (List.mem_of_getElem? (i := 98) rfl) rfl
theorem m_580 : Jvm.Cond.instanceMethod yX5_takeIn ∈ lw_all := lw_c3 (List.mem_of_getElem? (i := 100) rfl) rfl
theorem m_581 : Jvm.Cond.code yX5_takeIn prog_7_method_30_code 8 (Option.some Jvm.ClassFile.FieldType.int) ∈ lw_all := lw_c3 (List.mem_of_getElem? (i := 101) rfl) rfl
theorem m_582 : Jvm.Cond.methodLink "Silkloft$Loft" 257 yJ9_max_7cf53 ∈ lw_all := lw_c3 (List.mem_of_getElem? (i := 102) rfl) rfl
theorem m_583 : Jvm.Cond.static yJ9_max_7cf53 ∈ lw_all := lw_c3 (List.mem_of_getElem? (i := 103) rfl) rfl
theorem m_584 : Jvm.Cond.code yJ9_max_7cf53 prog_24_method_65_code 2 (Option.some Jvm.ClassFile.FieldType.int) ∈ lw_all := lw_c3 (List.mem_of_getElem? (i := 104) rfl) rfl
theorem m_585 : Jvm.Cond.methodLink "Silkloft" 130 yX5_isLike ∈ lw_all := lw_c3 (List.mem_of_getElem? (i := 105) rfl) rfl
theorem m_586 : Jvm.Cond.instanceMethod yX5_isLike ∈ lw_all := lw_c3 (List.mem_of_getElem? (i := 106) rfl) rfl
theorem m_587 : Jvm.Cond.selects "Silkloft$Loft" yX5_isLike yX5_isLike ∈ lw_all := lw_c3 (List.mem_of_getElem? (i := 107) rfl) rfl
theorem m_588 : Jvm.Cond.code yX5_isLike prog_7_method_43_code 2 (Option.some Jvm.ClassFile.FieldType.boolean) ∈ lw_all := lw_c3 (List.mem_of_getElem? (i := 108) rfl) rfl
theorem m_589 : Jvm.Cond.methodLink "Silkloft$Loft" 313 yX5_hasRiggersLike ∈ lw_all := lw_c3 (List.mem_of_getElem? (i := 109) rfl) rfl
theorem m_591 : Jvm.Cond.instanceMethod yX5_hasRiggersLike ∈ lw_all := lw_c3 (List.mem_of_getElem? (i := 111) rfl) rfl
theorem m_592 : Jvm.Cond.code yX5_hasRiggersLike prog_7_method_44_code 3 (Option.some Jvm.ClassFile.FieldType.boolean) ∈ lw_all := lw_c3 (List.mem_of_getElem? (i := 112) rfl) rfl
theorem m_593 : Jvm.Cond.methodLink "Silkloft$Loft" 330 yX7_isLike ∈ lw_all := lw_c3 (List.mem_of_getElem? (i := 113) rfl) rfl
theorem m_594 : Jvm.Cond.instanceMethod yX7_isLike ∈ lw_all := lw_c3 (List.mem_of_getElem? (i := 114) rfl) rfl
theorem m_595 : Jvm.Cond.selects "Silkloft$Rigger" yX7_isLike yX7_isLike ∈ lw_all := lw_c3 (List.mem_of_getElem? (i := 115) rfl) rfl
theorem m_596 : Jvm.Cond.code yX7_isLike prog_9_method_4_code 2 (Option.some Jvm.ClassFile.FieldType.boolean) ∈ lw_all := lw_c3 (List.mem_of_getElem? (i := 116) rfl) rfl
theorem m_597 : Jvm.Cond.methodLink "Silkloft$Loft" 317 yX5_hasCanopiesLike ∈ lw_all := lw_c3 (List.mem_of_getElem? (i := 117) rfl) rfl
theorem m_599 : Jvm.Cond.instanceMethod yX5_hasCanopiesLike ∈ lw_all := lw_c3 (List.mem_of_getElem? (i := 119) rfl) rfl
theorem m_600 : Jvm.Cond.code yX5_hasCanopiesLike prog_7_method_45_code 3 (Option.some Jvm.ClassFile.FieldType.boolean) ∈ lw_all := lw_c3 (List.mem_of_getElem? (i := 120) rfl) rfl
theorem m_601 : Jvm.Cond.methodLink "Silkloft$Loft" 333 yX1_isLike ∈ lw_all := lw_c3 (List.mem_of_getElem? (i := 121) rfl) rfl
theorem m_602 : Jvm.Cond.instanceMethod yX1_isLike ∈ lw_all := lw_c3 (List.mem_of_getElem? (i := 122) rfl) rfl
theorem m_603 : Jvm.Cond.selects "Silkloft$Canopy" yX1_isLike yX1_isLike ∈ lw_all := lw_c3 (List.mem_of_getElem? (i := 123) rfl) rfl
theorem m_604 : Jvm.Cond.code yX1_isLike prog_3_method_5_code 2 (Option.some Jvm.ClassFile.FieldType.boolean) ∈ lw_all := lw_c3 (List.mem_of_getElem? (i := 124) rfl) rfl
theorem m_605 : Jvm.Cond.methodLink "Silkloft$Canopy" 75 yX1_isMadeLike ∈ lw_all := lw_c3 (List.mem_of_getElem? (i := 125) rfl) rfl
theorem m_607 : Jvm.Cond.instanceMethod yX1_isMadeLike ∈ lw_all := lw_c3 (List.mem_of_getElem? (i := 127) rfl) rfl
theorem m_608 : Jvm.Cond.code yX1_isMadeLike prog_3_method_6_code 2 (Option.some Jvm.ClassFile.FieldType.boolean) ∈ lw_all := lw_c3 (List.mem_of_getElem? (i := 128) rfl) rfl
theorem m_609 : Jvm.Cond.methodLink "Silkloft$Canopy" 79 yX1_isPackedLike ∈ lw_all := lw_c3 (List.mem_of_getElem? (i := 129) rfl) rfl
theorem m_611 : Jvm.Cond.instanceMethod yX1_isPackedLike ∈ lw_all := lw_c3 (List.mem_of_getElem? (i := 131) rfl) rfl
theorem m_612 : Jvm.Cond.code yX1_isPackedLike prog_3_method_7_code 3 (Option.some Jvm.ClassFile.FieldType.boolean) ∈ lw_all := lw_c3 (List.mem_of_getElem? (i := 132) rfl) rfl
theorem m_613 : Jvm.Cond.methodLink "Silkloft$Canopy" 82 yX1_isTriedLike ∈ lw_all := lw_c3 (List.mem_of_getElem? (i := 133) rfl) rfl
theorem m_615 : Jvm.Cond.instanceMethod yX1_isTriedLike ∈ lw_all := lw_c3 (List.mem_of_getElem? (i := 135) rfl) rfl
theorem m_616 : Jvm.Cond.code yX1_isTriedLike prog_3_method_8_code 2 (Option.some Jvm.ClassFile.FieldType.boolean) ∈ lw_all := lw_c3 (List.mem_of_getElem? (i := 136) rfl) rfl
theorem m_617 : Jvm.Cond.methodLink "Silkloft$Loft" 320 yX5_hasLoadsLike ∈ lw_all := lw_c3 (List.mem_of_getElem? (i := 137) rfl) rfl
theorem m_619 : Jvm.Cond.instanceMethod yX5_hasLoadsLike ∈ lw_all := lw_c3 (List.mem_of_getElem? (i := 139) rfl) rfl
theorem m_620 : Jvm.Cond.code yX5_hasLoadsLike prog_7_method_46_code 3 (Option.some Jvm.ClassFile.FieldType.boolean) ∈ lw_all := lw_c3 (List.mem_of_getElem? (i := 140) rfl) rfl
theorem m_621 : Jvm.Cond.methodLink "Silkloft$Loft" 335 yX4_isLike ∈ lw_all := lw_c3 (List.mem_of_getElem? (i := 141) rfl) rfl
theorem m_622 : Jvm.Cond.instanceMethod yX4_isLike ∈ lw_all := lw_c3 (List.mem_of_getElem? (i := 142) rfl) rfl
theorem m_623 : Jvm.Cond.selects "Silkloft$Load" yX4_isLike yX4_isLike ∈ lw_all := lw_c3 (List.mem_of_getElem? (i := 143) rfl) rfl
theorem m_624 : Jvm.Cond.code yX4_isLike prog_6_method_3_code 3 (Option.some Jvm.ClassFile.FieldType.boolean) ∈ lw_all := lw_c3 (List.mem_of_getElem? (i := 144) rfl) rfl
theorem m_625 : Jvm.Cond.methodLink "Silkloft$Loft" 323 yX5_hasFindingsLike ∈ lw_all := lw_c3 (List.mem_of_getElem? (i := 145) rfl) rfl
theorem m_627 : Jvm.Cond.instanceMethod yX5_hasFindingsLike ∈ lw_all := lw_c3 (List.mem_of_getElem? (i := 147) rfl) rfl
theorem m_628 : Jvm.Cond.code yX5_hasFindingsLike prog_7_method_47_code 3 (Option.some Jvm.ClassFile.FieldType.boolean) ∈ lw_all := lw_c3 (List.mem_of_getElem? (i := 148) rfl) rfl
theorem m_629 : Jvm.Cond.methodLink "Silkloft$Loft" 338 yX3_isLike ∈ lw_all := lw_c3 (List.mem_of_getElem? (i := 149) rfl) rfl
theorem m_630 : Jvm.Cond.instanceMethod yX3_isLike ∈ lw_all := lw_c3 (List.mem_of_getElem? (i := 150) rfl) rfl
theorem m_631 : Jvm.Cond.selects "Silkloft$Finding" yX3_isLike yX3_isLike ∈ lw_all := lw_c3 (List.mem_of_getElem? (i := 151) rfl) rfl
theorem m_632 : Jvm.Cond.code yX3_isLike prog_5_method_4_code 2 (Option.some Jvm.ClassFile.FieldType.boolean) ∈ lw_all := lw_c3 (List.mem_of_getElem? (i := 152) rfl) rfl
theorem m_633 : Jvm.Cond.methodLink "Silkloft$Loft" 326 yX0_isLike ∈ lw_all := lw_c3 (List.mem_of_getElem? (i := 153) rfl) rfl
theorem m_634 : Jvm.Cond.instanceMethod yX0_isLike ∈ lw_all := lw_c3 (List.mem_of_getElem? (i := 154) rfl) rfl
theorem m_635 : Jvm.Cond.selects "Silkloft$Book" yX0_isLike yX0_isLike ∈ lw_all := lw_c3 (List.mem_of_getElem? (i := 155) rfl) rfl
theorem m_636 : Jvm.Cond.code yX0_isLike prog_2_method_7_code 3 (Option.some Jvm.ClassFile.FieldType.boolean) ∈ lw_all := lw_c3 (List.mem_of_getElem? (i := 156) rfl) rfl
theorem m_637 : Jvm.Cond.methodLink "SilkloftLaw" 135 yL_pick ∈ lw_all := lw_c3 (List.mem_of_getElem? (i := 157) rfl) rfl
theorem m_638 : Jvm.Cond.static yL_pick ∈ lw_all := lw_c3 (List.mem_of_getElem? (i := 158) rfl) rfl
theorem m_639 : Jvm.Cond.code yL_pick method_3_code 3 (Option.some Jvm.ClassFile.FieldType.int) ∈ lw_all := lw_c3 (List.mem_of_getElem? (i := 159) rfl) rfl
theorem m_640 : Jvm.Cond.methodLink "SilkloftLaw" 8 yL_cell ∈ lw_all := lw_c3 (List.mem_of_getElem? (i := 160) rfl) rfl
theorem m_641 : Jvm.Cond.static yL_cell ∈ lw_all := lw_c3 (List.mem_of_getElem? (i := 161) rfl) rfl
theorem m_642 : Jvm.Cond.code yL_cell method_2_code 2 (Option.some Jvm.ClassFile.FieldType.int) ∈ lw_all := lw_c3 (List.mem_of_getElem? (i := 162) rfl) rfl
theorem m_644 : Jvm.Cond.methodLink "SilkloftLaw" 139 yL_addRigger ∈ lw_all := lw_c3 (List.mem_of_getElem? (i := 164) rfl) rfl
theorem m_645 : Jvm.Cond.static yL_addRigger ∈ lw_all := lw_c3 (List.mem_of_getElem? (i := 165) rfl) rfl
theorem m_646 : Jvm.Cond.codeWith yL_addRigger method_4_code 4 (Option.some Jvm.ClassFile.FieldType.int) [(0, 6, 7, 20), (0, 6, 11, 22)] ∈ lw_all := lw_c3 (List.mem_of_getElem? (i := 166) rfl) rfl
theorem m_647 : Jvm.Cond.classLink "SilkloftLaw" 20 "java/lang/IllegalArgumentException" ∈ lw_all := lw_c3 (List.mem_of_getElem? (i := 167) rfl) rfl
theorem m_648 : Jvm.Cond.classLink "SilkloftLaw" 22 "java/lang/IllegalStateException" ∈ lw_all := lw_c3 (List.mem_of_getElem? (i := 168) rfl) rfl
theorem m_649 : Jvm.Cond.methodLink "SilkloftLaw" 14 yX9_addRigger ∈ lw_all := lw_c3 (List.mem_of_getElem? (i := 169) rfl) rfl
theorem m_650 : Jvm.Cond.instanceMethod yX9_addRigger ∈ lw_all := lw_c3 (List.mem_of_getElem? (i := 170) rfl) rfl
theorem m_651 : Jvm.Cond.selects "Silkloft" yX9_addRigger yX9_addRigger ∈ lw_all := lw_c3 (List.mem_of_getElem? (i := 171) rfl) rfl
theorem m_652 : Jvm.Cond.code yX9_addRigger prog_1_method_2_code 3 (Option.some Jvm.ClassFile.FieldType.int) ∈ lw_all := lw_c3 (List.mem_of_getElem? (i := 172) rfl) rfl
theorem m_653 : Jvm.Cond.methodLink "Silkloft" 26 yX9_act ∈ lw_all := lw_c3 (List.mem_of_getElem? (i := 173) rfl) rfl
theorem m_655 : Jvm.Cond.instanceMethod yX9_act ∈ lw_all := lw_c3 (List.mem_of_getElem? (i := 175) rfl) rfl
theorem m_656 : Jvm.Cond.code yX9_act prog_1_method_37_code 6 (Option.some Jvm.ClassFile.FieldType.int) ∈ lw_all := lw_c3 (List.mem_of_getElem? (i := 176) rfl) rfl
theorem m_657 : Jvm.Cond.methodLink "Silkloft" 143 yX8_refusalOf ∈ lw_all := lw_c3 (List.mem_of_getElem? (i := 177) rfl) rfl
theorem m_658 : Jvm.Cond.methodLink "Silkloft" 149 yX9_throwFor ∈ lw_all := lw_c3 (List.mem_of_getElem? (i := 178) rfl) rfl
theorem m_659 : Jvm.Cond.static yX9_throwFor ∈ lw_all := lw_c3 (List.mem_of_getElem? (i := 179) rfl) rfl
theorem m_660 : Jvm.Cond.code yX9_throwFor prog_1_method_38_code 1 (Option.none : Option Jvm.ClassFile.FieldType) ∈ lw_all := lw_c3 (List.mem_of_getElem? (i := 180) rfl) rfl
theorem m_661 : Jvm.Cond.fieldLink "Silkloft" 164 "Silkloft$Refusal" "INDEX" "LSilkloft$Refusal;" ∈ lw_all := lw_c3 (List.mem_of_getElem? (i := 181) rfl) rfl
theorem m_662 : Jvm.Cond.classLink "Silkloft" 34 "java/lang/IndexOutOfBoundsException" ∈ lw_all := lw_c3 (List.mem_of_getElem? (i := 182) rfl) rfl
theorem m_663 : Jvm.Cond.instantiable "java/lang/IndexOutOfBoundsException" 6 ∈ lw_all := lw_c3 (List.mem_of_getElem? (i := 183) rfl) rfl
theorem m_671 : Jvm.Cond.selects "java/lang/IndexOutOfBoundsException" ⟨"java/lang/Throwable", "fillInStackTrace", "(I)Ljava/lang/Throwable;"⟩ ⟨"java/lang/Throwable", "fillInStackTrace", "(I)Ljava/lang/Throwable;"⟩ ∈ lw_all := lw_c3 (List.mem_of_getElem? (i := 191) rfl) rfl
theorem m_672 : Jvm.Cond.selects "java/lang/IndexOutOfBoundsException" ⟨"java/lang/Throwable", "fillInStackTrace", "()Ljava/lang/Throwable;"⟩ ⟨"java/lang/Throwable", "fillInStackTrace", "()Ljava/lang/Throwable;"⟩ ∈ lw_all := lw_c3 (List.mem_of_getElem? (i := 192) rfl) rfl
theorem m_673 : Jvm.Cond.lays "java/lang/IndexOutOfBoundsException" "java/lang/Throwable" "cause" "Ljava/lang/Throwable;" ∈ lw_all := lw_c3 (List.mem_of_getElem? (i := 193) rfl) rfl
theorem m_674 : Jvm.Cond.lays "java/lang/Throwable" "java/lang/Throwable" "cause" "Ljava/lang/Throwable;" ∈ lw_all := lw_c3 (List.mem_of_getElem? (i := 194) rfl) rfl
theorem m_675 : Jvm.Cond.lays "java/lang/IndexOutOfBoundsException" "java/lang/Throwable" "stackTrace" "[Ljava/lang/StackTraceElement;" ∈ lw_all := lw_c3 (List.mem_of_getElem? (i := 195) rfl) rfl
theorem m_676 : Jvm.Cond.lays "java/lang/Throwable" "java/lang/Throwable" "stackTrace" "[Ljava/lang/StackTraceElement;" ∈ lw_all := lw_c3 (List.mem_of_getElem? (i := 196) rfl) rfl
theorem m_677 : Jvm.Cond.lays "java/lang/IndexOutOfBoundsException" "java/lang/Throwable" "suppressedExceptions" "Ljava/util/List;" ∈ lw_all := lw_c3 (List.mem_of_getElem? (i := 197) rfl) rfl
theorem m_678 : Jvm.Cond.lays "java/lang/Throwable" "java/lang/Throwable" "suppressedExceptions" "Ljava/util/List;" ∈ lw_all := lw_c3 (List.mem_of_getElem? (i := 198) rfl) rfl
theorem m_679 : Jvm.Cond.lays "java/lang/IndexOutOfBoundsException" "java/lang/Throwable" "detailMessage" "Ljava/lang/String;" ∈ lw_all := lw_c3 (List.mem_of_getElem? (i := 199) rfl) rfl
theorem m_680 : Jvm.Cond.lays "java/lang/Throwable" "java/lang/Throwable" "detailMessage" "Ljava/lang/String;" ∈ lw_all := lw_c3 (List.mem_of_getElem? (i := 200) rfl) rfl
theorem m_681 : Jvm.Cond.lays "java/lang/IndexOutOfBoundsException" "java/lang/Throwable" "backtrace" "Ljava/lang/Object;" ∈ lw_all := lw_c3 (List.mem_of_getElem? (i := 201) rfl) rfl
theorem m_682 : Jvm.Cond.lays "java/lang/Throwable" "java/lang/Throwable" "backtrace" "Ljava/lang/Object;" ∈ lw_all := lw_c3 (List.mem_of_getElem? (i := 202) rfl) rfl
theorem m_683 : Jvm.Cond.fieldLink "java/lang/Throwable" 198 "java/lang/Throwable" "backtrace" "Ljava/lang/Object;" ∈ lw_all := lw_c3 (List.mem_of_getElem? (i := 203) rfl) rfl
theorem m_685 : Jvm.Cond.instanceMethod ⟨"java/lang/Throwable", "<init>", "()V"⟩ ∈ lw_all := lw_c3 (List.mem_of_getElem? (i := 205) rfl) rfl
theorem m_686 : Jvm.Cond.code ⟨"java/lang/Throwable", "<init>", "()V"⟩ prog_29_method_1_code 1 (Option.none : Option Jvm.ClassFile.FieldType) ∈ lw_all := lw_c3 (List.mem_of_getElem? (i := 206) rfl) rfl
theorem m_687 : Jvm.Cond.methodLink "java/lang/Throwable" 1 ⟨"java/lang/Object", "<init>", "()V"⟩ ∈ lw_all := lw_c3 (List.mem_of_getElem? (i := 207) rfl) rfl
theorem m_688 : Jvm.Cond.fieldLink "java/lang/Throwable" 13 "java/lang/Throwable" "UNASSIGNED_STACK" "[Ljava/lang/StackTraceElement;" ∈ lw_all := lw_c3 (List.mem_of_getElem? (i := 208) rfl) rfl
theorem m_690 : Jvm.Cond.fieldLink "java/lang/Throwable" 20 "java/lang/Throwable" "SUPPRESSED_SENTINEL" "Ljava/util/List;" ∈ lw_all := lw_c3 (List.mem_of_getElem? (i := 210) rfl) rfl
theorem m_692 : Jvm.Cond.methodLink "java/lang/Throwable" 27 ⟨"java/lang/Throwable", "fillInStackTrace", "()Ljava/lang/Throwable;"⟩ ∈ lw_all := lw_c3 (List.mem_of_getElem? (i := 212) rfl) rfl
theorem m_693 : Jvm.Cond.instanceMethod ⟨"java/lang/Throwable", "fillInStackTrace", "()Ljava/lang/Throwable;"⟩ ∈ lw_all := lw_c3 (List.mem_of_getElem? (i := 213) rfl) rfl
theorem m_695 : Jvm.Cond.selects "java/lang/ArithmeticException" ⟨"java/lang/Throwable", "fillInStackTrace", "()Ljava/lang/Throwable;"⟩ ⟨"java/lang/Throwable", "fillInStackTrace", "()Ljava/lang/Throwable;"⟩ ∈ lw_all := lw_c3 (List.mem_of_getElem? (i := 215) rfl) rfl
theorem m_696 : Jvm.Cond.selects "java/lang/ArrayIndexOutOfBoundsException" ⟨"java/lang/Throwable", "fillInStackTrace", "()Ljava/lang/Throwable;"⟩ ⟨"java/lang/Throwable", "fillInStackTrace", "()Ljava/lang/Throwable;"⟩ ∈ lw_all := lw_c3 (List.mem_of_getElem? (i := 216) rfl) rfl
theorem m_697 : Jvm.Cond.selects "java/lang/IllegalArgumentException" ⟨"java/lang/Throwable", "fillInStackTrace", "()Ljava/lang/Throwable;"⟩ ⟨"java/lang/Throwable", "fillInStackTrace", "()Ljava/lang/Throwable;"⟩ ∈ lw_all := lw_c3 (List.mem_of_getElem? (i := 217) rfl) rfl
theorem m_698 : Jvm.Cond.selects "java/lang/IllegalStateException" ⟨"java/lang/Throwable", "fillInStackTrace", "()Ljava/lang/Throwable;"⟩ ⟨"java/lang/Throwable", "fillInStackTrace", "()Ljava/lang/Throwable;"⟩ ∈ lw_all := lw_c3 (List.mem_of_getElem? (i := 218) rfl) rfl
theorem m_699 : Jvm.Cond.selects "java/lang/UnsupportedOperationException" ⟨"java/lang/Throwable", "fillInStackTrace", "()Ljava/lang/Throwable;"⟩ ⟨"java/lang/Throwable", "fillInStackTrace", "()Ljava/lang/Throwable;"⟩ ∈ lw_all := lw_c3 (List.mem_of_getElem? (i := 219) rfl) rfl
theorem m_700 : Jvm.Cond.selects "java/util/NoSuchElementException" ⟨"java/lang/Throwable", "fillInStackTrace", "()Ljava/lang/Throwable;"⟩ ⟨"java/lang/Throwable", "fillInStackTrace", "()Ljava/lang/Throwable;"⟩ ∈ lw_all := lw_c3 (List.mem_of_getElem? (i := 220) rfl) rfl
theorem m_702 : Jvm.Cond.methodLink "java/lang/Throwable" 202 ⟨"java/lang/Throwable", "fillInStackTrace", "(I)Ljava/lang/Throwable;"⟩ ∈ lw_all := lw_c3 (List.mem_of_getElem? (i := 222) rfl) rfl
theorem m_704 : Jvm.Cond.instanceMethod ⟨"java/lang/Throwable", "fillInStackTrace", "(I)Ljava/lang/Throwable;"⟩ ∈ lw_all := lw_c3 (List.mem_of_getElem? (i := 224) rfl) rfl
theorem m_705 : Jvm.Cond.instantiable "java/lang/Throwable" 6 ∈ lw_all := lw_c3 (List.mem_of_getElem? (i := 225) rfl) rfl
theorem m_708 : Jvm.Cond.methodLink "Silkloft" 38 ⟨"java/lang/IndexOutOfBoundsException", "<init>", "(Ljava/lang/String;)V"⟩ ∈ lw_all := lw_c3 (List.mem_of_getElem? (i := 228) rfl) rfl
theorem m_709 : Jvm.Cond.instanceMethod ⟨"java/lang/IndexOutOfBoundsException", "<init>", "(Ljava/lang/String;)V"⟩ ∈ lw_all := lw_c3 (List.mem_of_getElem? (i := 229) rfl) rfl
theorem m_710 : Jvm.Cond.code ⟨"java/lang/IndexOutOfBoundsException", "<init>", "(Ljava/lang/String;)V"⟩ prog_23_method_2_code 2 (Option.none : Option Jvm.ClassFile.FieldType) ∈ lw_all := lw_c3 (List.mem_of_getElem? (i := 230) rfl) rfl
theorem m_711 : Jvm.Cond.methodLink "java/lang/IndexOutOfBoundsException" 7 ⟨"java/lang/RuntimeException", "<init>", "(Ljava/lang/String;)V"⟩ ∈ lw_all := lw_c3 (List.mem_of_getElem? (i := 231) rfl) rfl
theorem m_712 : Jvm.Cond.instanceMethod ⟨"java/lang/RuntimeException", "<init>", "(Ljava/lang/String;)V"⟩ ∈ lw_all := lw_c3 (List.mem_of_getElem? (i := 232) rfl) rfl
theorem m_713 : Jvm.Cond.code ⟨"java/lang/RuntimeException", "<init>", "(Ljava/lang/String;)V"⟩ prog_25_method_2_code 2 (Option.none : Option Jvm.ClassFile.FieldType) ∈ lw_all := lw_c3 (List.mem_of_getElem? (i := 233) rfl) rfl
theorem m_714 : Jvm.Cond.methodLink "java/lang/RuntimeException" 7 ⟨"java/lang/Exception", "<init>", "(Ljava/lang/String;)V"⟩ ∈ lw_all := lw_c3 (List.mem_of_getElem? (i := 234) rfl) rfl
theorem m_715 : Jvm.Cond.instanceMethod ⟨"java/lang/Exception", "<init>", "(Ljava/lang/String;)V"⟩ ∈ lw_all := lw_c3 (List.mem_of_getElem? (i := 235) rfl) rfl
theorem m_716 : Jvm.Cond.code ⟨"java/lang/Exception", "<init>", "(Ljava/lang/String;)V"⟩ prog_20_method_2_code 2 (Option.none : Option Jvm.ClassFile.FieldType) ∈ lw_all := lw_c3 (List.mem_of_getElem? (i := 236) rfl) rfl
theorem m_717 : Jvm.Cond.methodLink "java/lang/Exception" 7 ⟨"java/lang/Throwable", "<init>", "(Ljava/lang/String;)V"⟩ ∈ lw_all := lw_c3 (List.mem_of_getElem? (i := 237) rfl) rfl
theorem m_718 : Jvm.Cond.instanceMethod ⟨"java/lang/Throwable", "<init>", "(Ljava/lang/String;)V"⟩ ∈ lw_all := lw_c3 (List.mem_of_getElem? (i := 238) rfl) rfl
theorem m_719 : Jvm.Cond.code ⟨"java/lang/Throwable", "<init>", "(Ljava/lang/String;)V"⟩ prog_29_method_2_code 2 (Option.none : Option Jvm.ClassFile.FieldType) ∈ lw_all := lw_c3 (List.mem_of_getElem? (i := 239) rfl) rfl
theorem m_720 : Jvm.Cond.fieldLink "java/lang/Throwable" 198 "java/lang/Throwable" "backtrace" "Ljava/lang/Object;" ∈ lw_all := lw_c4 (List.mem_of_getElem? (i := 0) rfl) rfl
theorem m_721 : Jvm.Cond.fieldLink "java/lang/Throwable" 31 "java/lang/Throwable" "detailMessage" "Ljava/lang/String;" ∈ lw_all := lw_c4 (List.mem_of_getElem? (i := 1) rfl) rfl
theorem m_722 : Jvm.Cond.fieldLink "java/lang/Throwable" 7 "java/lang/Throwable" "cause" "Ljava/lang/Throwable;" ∈ lw_all := lw_c4 (List.mem_of_getElem? (i := 2) rfl) rfl
theorem m_723 : Jvm.Cond.fieldLink "java/lang/Throwable" 17 "java/lang/Throwable" "stackTrace" "[Ljava/lang/StackTraceElement;" ∈ lw_all := lw_c4 (List.mem_of_getElem? (i := 3) rfl) rfl
theorem m_724 : Jvm.Cond.fieldLink "java/lang/Throwable" 24 "java/lang/Throwable" "suppressedExceptions" "Ljava/util/List;" ∈ lw_all := lw_c4 (List.mem_of_getElem? (i := 4) rfl) rfl
theorem m_729 : Jvm.Cond.lays "java/lang/IndexOutOfBoundsException" "java/lang/Throwable" "depth" "I" ∈ lw_all := lw_c4 (List.mem_of_getElem? (i := 9) rfl) rfl
theorem m_733 : Jvm.Cond.arrayClass Jvm.ClassFile.FieldType.byte ∈ lw_all := lw_c4 (List.mem_of_getElem? (i := 13) rfl) rfl
theorem m_734 : Jvm.Cond.fieldLink "Silkloft" 172 "Silkloft$Refusal" "ARGUMENT" "LSilkloft$Refusal;" ∈ lw_all := lw_c4 (List.mem_of_getElem? (i := 14) rfl) rfl
theorem m_735 : Jvm.Cond.classLink "Silkloft" 68 "java/lang/IllegalArgumentException" ∈ lw_all := lw_c4 (List.mem_of_getElem? (i := 15) rfl) rfl
theorem m_736 : Jvm.Cond.instantiable "java/lang/IllegalArgumentException" 6 ∈ lw_all := lw_c4 (List.mem_of_getElem? (i := 16) rfl) rfl
theorem m_738 : Jvm.Cond.selects "java/lang/IllegalArgumentException" ⟨"java/lang/Throwable", "fillInStackTrace", "(I)Ljava/lang/Throwable;"⟩ ⟨"java/lang/Throwable", "fillInStackTrace", "(I)Ljava/lang/Throwable;"⟩ ∈ lw_all := lw_c4 (List.mem_of_getElem? (i := 18) rfl) rfl
theorem m_739 : Jvm.Cond.lays "java/lang/IllegalArgumentException" "java/lang/Throwable" "cause" "Ljava/lang/Throwable;" ∈ lw_all := lw_c4 (List.mem_of_getElem? (i := 19) rfl) rfl
theorem m_740 : Jvm.Cond.lays "java/lang/IllegalArgumentException" "java/lang/Throwable" "stackTrace" "[Ljava/lang/StackTraceElement;" ∈ lw_all := lw_c4 (List.mem_of_getElem? (i := 20) rfl) rfl
theorem m_741 : Jvm.Cond.lays "java/lang/IllegalArgumentException" "java/lang/Throwable" "suppressedExceptions" "Ljava/util/List;" ∈ lw_all := lw_c4 (List.mem_of_getElem? (i := 21) rfl) rfl
theorem m_742 : Jvm.Cond.lays "java/lang/IllegalArgumentException" "java/lang/Throwable" "detailMessage" "Ljava/lang/String;" ∈ lw_all := lw_c4 (List.mem_of_getElem? (i := 22) rfl) rfl
theorem m_743 : Jvm.Cond.lays "java/lang/IllegalArgumentException" "java/lang/Throwable" "backtrace" "Ljava/lang/Object;" ∈ lw_all := lw_c4 (List.mem_of_getElem? (i := 23) rfl) rfl
theorem m_745 : Jvm.Cond.methodLink "Silkloft" 72 ⟨"java/lang/IllegalArgumentException", "<init>", "(Ljava/lang/String;)V"⟩ ∈ lw_all := lw_c4 (List.mem_of_getElem? (i := 25) rfl) rfl
theorem m_746 : Jvm.Cond.instanceMethod ⟨"java/lang/IllegalArgumentException", "<init>", "(Ljava/lang/String;)V"⟩ ∈ lw_all := lw_c4 (List.mem_of_getElem? (i := 26) rfl) rfl
theorem m_747 : Jvm.Cond.code ⟨"java/lang/IllegalArgumentException", "<init>", "(Ljava/lang/String;)V"⟩ prog_21_method_2_code 2 (Option.none : Option Jvm.ClassFile.FieldType) ∈ lw_all := lw_c4 (List.mem_of_getElem? (i := 27) rfl) rfl
theorem m_748 : Jvm.Cond.methodLink "java/lang/IllegalArgumentException" 7 ⟨"java/lang/RuntimeException", "<init>", "(Ljava/lang/String;)V"⟩ ∈ lw_all := lw_c4 (List.mem_of_getElem? (i := 28) rfl) rfl
theorem m_749 : Jvm.Cond.lays "java/lang/IllegalArgumentException" "java/lang/Throwable" "depth" "I" ∈ lw_all := lw_c4 (List.mem_of_getElem? (i := 29) rfl) rfl
theorem m_751 : Jvm.Cond.fieldLink "Silkloft" 177 "Silkloft$Refusal" "UNSUPPORTED" "LSilkloft$Refusal;" ∈ lw_all := lw_c4 (List.mem_of_getElem? (i := 31) rfl) rfl
theorem m_752 : Jvm.Cond.classLink "Silkloft" 180 "java/lang/UnsupportedOperationException" ∈ lw_all := lw_c4 (List.mem_of_getElem? (i := 32) rfl) rfl
theorem m_753 : Jvm.Cond.instantiable "java/lang/UnsupportedOperationException" 6 ∈ lw_all := lw_c4 (List.mem_of_getElem? (i := 33) rfl) rfl
theorem m_755 : Jvm.Cond.selects "java/lang/UnsupportedOperationException" ⟨"java/lang/Throwable", "fillInStackTrace", "(I)Ljava/lang/Throwable;"⟩ ⟨"java/lang/Throwable", "fillInStackTrace", "(I)Ljava/lang/Throwable;"⟩ ∈ lw_all := lw_c4 (List.mem_of_getElem? (i := 35) rfl) rfl
theorem m_756 : Jvm.Cond.lays "java/lang/UnsupportedOperationException" "java/lang/Throwable" "cause" "Ljava/lang/Throwable;" ∈ lw_all := lw_c4 (List.mem_of_getElem? (i := 36) rfl) rfl
theorem m_757 : Jvm.Cond.lays "java/lang/UnsupportedOperationException" "java/lang/Throwable" "stackTrace" "[Ljava/lang/StackTraceElement;" ∈ lw_all := lw_c4 (List.mem_of_getElem? (i := 37) rfl) rfl
theorem m_758 : Jvm.Cond.lays "java/lang/UnsupportedOperationException" "java/lang/Throwable" "suppressedExceptions" "Ljava/util/List;" ∈ lw_all := lw_c4 (List.mem_of_getElem? (i := 38) rfl) rfl
theorem m_759 : Jvm.Cond.lays "java/lang/UnsupportedOperationException" "java/lang/Throwable" "detailMessage" "Ljava/lang/String;" ∈ lw_all := lw_c4 (List.mem_of_getElem? (i := 39) rfl) rfl
theorem m_760 : Jvm.Cond.lays "java/lang/UnsupportedOperationException" "java/lang/Throwable" "backtrace" "Ljava/lang/Object;" ∈ lw_all := lw_c4 (List.mem_of_getElem? (i := 40) rfl) rfl
theorem m_762 : Jvm.Cond.methodLink "Silkloft" 184 ⟨"java/lang/UnsupportedOperationException", "<init>", "(Ljava/lang/String;)V"⟩ ∈ lw_all := lw_c4 (List.mem_of_getElem? (i := 42) rfl) rfl
theorem m_763 : Jvm.Cond.instanceMethod ⟨"java/lang/UnsupportedOperationException", "<init>", "(Ljava/lang/String;)V"⟩ ∈ lw_all := lw_c4 (List.mem_of_getElem? (i := 43) rfl) rfl
theorem m_764 : Jvm.Cond.code ⟨"java/lang/UnsupportedOperationException", "<init>", "(Ljava/lang/String;)V"⟩ prog_30_method_2_code 2 (Option.none : Option Jvm.ClassFile.FieldType) ∈ lw_all := lw_c4 (List.mem_of_getElem? (i := 44) rfl) rfl
theorem m_765 : Jvm.Cond.methodLink "java/lang/UnsupportedOperationException" 7 ⟨"java/lang/RuntimeException", "<init>", "(Ljava/lang/String;)V"⟩ ∈ lw_all := lw_c4 (List.mem_of_getElem? (i := 45) rfl) rfl
theorem m_766 : Jvm.Cond.lays "java/lang/UnsupportedOperationException" "java/lang/Throwable" "depth" "I" ∈ lw_all := lw_c4 (List.mem_of_getElem? (i := 46) rfl) rfl
theorem m_768 : Jvm.Cond.fieldLink "Silkloft" 185 "Silkloft$Refusal" "STATE" "LSilkloft$Refusal;" ∈ lw_all := lw_c4 (List.mem_of_getElem? (i := 48) rfl) rfl
theorem m_769 : Jvm.Cond.classLink "Silkloft" 188 "java/lang/IllegalStateException" ∈ lw_all := lw_c4 (List.mem_of_getElem? (i := 49) rfl) rfl
theorem m_770 : Jvm.Cond.instantiable "java/lang/IllegalStateException" 6 ∈ lw_all := lw_c4 (List.mem_of_getElem? (i := 50) rfl) rfl
theorem m_772 : Jvm.Cond.selects "java/lang/IllegalStateException" ⟨"java/lang/Throwable", "fillInStackTrace", "(I)Ljava/lang/Throwable;"⟩ ⟨"java/lang/Throwable", "fillInStackTrace", "(I)Ljava/lang/Throwable;"⟩ ∈ lw_all := lw_c4 (List.mem_of_getElem? (i := 52) rfl) rfl
theorem m_773 : Jvm.Cond.lays "java/lang/IllegalStateException" "java/lang/Throwable" "cause" "Ljava/lang/Throwable;" ∈ lw_all := lw_c4 (List.mem_of_getElem? (i := 53) rfl) rfl
theorem m_774 : Jvm.Cond.lays "java/lang/IllegalStateException" "java/lang/Throwable" "stackTrace" "[Ljava/lang/StackTraceElement;" ∈ lw_all := lw_c4 (List.mem_of_getElem? (i := 54) rfl) rfl
theorem m_775 : Jvm.Cond.lays "java/lang/IllegalStateException" "java/lang/Throwable" "suppressedExceptions" "Ljava/util/List;" ∈ lw_all := lw_c4 (List.mem_of_getElem? (i := 55) rfl) rfl
theorem m_776 : Jvm.Cond.lays "java/lang/IllegalStateException" "java/lang/Throwable" "detailMessage" "Ljava/lang/String;" ∈ lw_all := lw_c4 (List.mem_of_getElem? (i := 56) rfl) rfl
theorem m_777 : Jvm.Cond.lays "java/lang/IllegalStateException" "java/lang/Throwable" "backtrace" "Ljava/lang/Object;" ∈ lw_all := lw_c4 (List.mem_of_getElem? (i := 57) rfl) rfl
theorem m_779 : Jvm.Cond.methodLink "Silkloft" 192 ⟨"java/lang/IllegalStateException", "<init>", "(Ljava/lang/String;)V"⟩ ∈ lw_all := lw_c4 (List.mem_of_getElem? (i := 59) rfl) rfl
theorem m_780 : Jvm.Cond.instanceMethod ⟨"java/lang/IllegalStateException", "<init>", "(Ljava/lang/String;)V"⟩ ∈ lw_all := lw_c4 (List.mem_of_getElem? (i := 60) rfl) rfl
theorem m_781 : Jvm.Cond.code ⟨"java/lang/IllegalStateException", "<init>", "(Ljava/lang/String;)V"⟩ prog_22_method_2_code 2 (Option.none : Option Jvm.ClassFile.FieldType) ∈ lw_all := lw_c4 (List.mem_of_getElem? (i := 61) rfl) rfl
theorem m_782 : Jvm.Cond.methodLink "java/lang/IllegalStateException" 7 ⟨"java/lang/RuntimeException", "<init>", "(Ljava/lang/String;)V"⟩ ∈ lw_all := lw_c4 (List.mem_of_getElem? (i := 62) rfl) rfl
theorem m_783 : Jvm.Cond.lays "java/lang/IllegalStateException" "java/lang/Throwable" "depth" "I" ∈ lw_all := lw_c4 (List.mem_of_getElem? (i := 63) rfl) rfl
theorem m_785 : Jvm.Cond.methodLink "Silkloft" 153 yX2_isFull ∈ lw_all := lw_c4 (List.mem_of_getElem? (i := 65) rfl) rfl
theorem m_786 : Jvm.Cond.instanceMethod yX2_isFull ∈ lw_all := lw_c4 (List.mem_of_getElem? (i := 66) rfl) rfl
theorem m_787 : Jvm.Cond.selects "Silkloft$Diary" yX2_isFull yX2_isFull ∈ lw_all := lw_c4 (List.mem_of_getElem? (i := 67) rfl) rfl
theorem m_788 : Jvm.Cond.code yX2_isFull prog_4_method_2_code 1 (Option.some Jvm.ClassFile.FieldType.boolean) ∈ lw_all := lw_c4 (List.mem_of_getElem? (i := 68) rfl) rfl
theorem m_789 : Jvm.Cond.methodLink "Silkloft" 157 yX2_write ∈ lw_all := lw_c4 (List.mem_of_getElem? (i := 69) rfl) rfl
theorem m_790 : Jvm.Cond.instanceMethod yX2_write ∈ lw_all := lw_c4 (List.mem_of_getElem? (i := 70) rfl) rfl
theorem m_791 : Jvm.Cond.selects "Silkloft$Diary" yX2_write yX2_write ∈ lw_all := lw_c4 (List.mem_of_getElem? (i := 71) rfl) rfl
theorem m_792 : Jvm.Cond.code yX2_write prog_4_method_3_code 7 (Option.none : Option Jvm.ClassFile.FieldType) ∈ lw_all := lw_c4 (List.mem_of_getElem? (i := 72) rfl) rfl
theorem m_793 : Jvm.Cond.methodLink "Silkloft$Diary" 19 yX2_isFull ∈ lw_all := lw_c4 (List.mem_of_getElem? (i := 73) rfl) rfl
theorem m_794 : Jvm.Cond.methodLink "Silkloft" 161 yX5_perform ∈ lw_all := lw_c4 (List.mem_of_getElem? (i := 74) rfl) rfl
theorem m_795 : Jvm.Cond.methodLink "SilkloftLaw" 142 yL_addCanopy ∈ lw_all := lw_c4 (List.mem_of_getElem? (i := 75) rfl) rfl
theorem m_796 : Jvm.Cond.static yL_addCanopy ∈ lw_all := lw_c4 (List.mem_of_getElem? (i := 76) rfl) rfl
theorem m_797 : Jvm.Cond.codeWith yL_addCanopy method_5_code 6 (Option.some Jvm.ClassFile.FieldType.int) [(0, 9, 10, 20), (0, 9, 15, 22)] ∈ lw_all := lw_c4 (List.mem_of_getElem? (i := 77) rfl) rfl
theorem m_798 : Jvm.Cond.methodLink "SilkloftLaw" 24 yX9_addCanopy ∈ lw_all := lw_c4 (List.mem_of_getElem? (i := 78) rfl) rfl
theorem m_799 : Jvm.Cond.instanceMethod yX9_addCanopy ∈ lw_all := lw_c4 (List.mem_of_getElem? (i := 79) rfl) rfl
theorem m_800 : Jvm.Cond.selects "Silkloft" yX9_addCanopy yX9_addCanopy ∈ lw_all := lw_c4 (List.mem_of_getElem? (i := 80) rfl) rfl
theorem m_801 : Jvm.Cond.code yX9_addCanopy prog_1_method_4_code 5 (Option.some Jvm.ClassFile.FieldType.int) ∈ lw_all := lw_c4 (List.mem_of_getElem? (i := 81) rfl) rfl
theorem m_802 : Jvm.Cond.methodLink "SilkloftLaw" 145 yL_load ∈ lw_all := lw_c4 (List.mem_of_getElem? (i := 82) rfl) rfl
theorem m_803 : Jvm.Cond.static yL_load ∈ lw_all := lw_c4 (List.mem_of_getElem? (i := 83) rfl) rfl
theorem m_804 : Jvm.Cond.codeWith yL_load method_11_code 2 (Option.some Jvm.ClassFile.FieldType.int) [(0, 4, 5, 22)] ∈ lw_all := lw_c4 (List.mem_of_getElem? (i := 84) rfl) rfl
theorem m_805 : Jvm.Cond.methodLink "SilkloftLaw" 48 yX9_load ∈ lw_all := lw_c4 (List.mem_of_getElem? (i := 85) rfl) rfl
theorem m_806 : Jvm.Cond.instanceMethod yX9_load ∈ lw_all := lw_c4 (List.mem_of_getElem? (i := 86) rfl) rfl
theorem m_807 : Jvm.Cond.selects "Silkloft" yX9_load yX9_load ∈ lw_all := lw_c4 (List.mem_of_getElem? (i := 87) rfl) rfl
theorem m_808 : Jvm.Cond.code yX9_load prog_1_method_10_code 1 (Option.some Jvm.ClassFile.FieldType.int) ∈ lw_all := lw_c4 (List.mem_of_getElem? (i := 88) rfl) rfl
theorem m_809 : Jvm.Cond.methodLink "SilkloftLaw" 152 yL_packings ∈ lw_all := lw_c4 (List.mem_of_getElem? (i := 89) rfl) rfl
theorem m_810 : Jvm.Cond.static yL_packings ∈ lw_all := lw_c4 (List.mem_of_getElem? (i := 90) rfl) rfl
theorem m_811 : Jvm.Cond.codeWith yL_packings method_27_code 3 (Option.some Jvm.ClassFile.FieldType.int) [(0, 5, 6, 38)] ∈ lw_all := lw_c4 (List.mem_of_getElem? (i := 91) rfl) rfl
theorem m_812 : Jvm.Cond.classLink "SilkloftLaw" 38 "java/lang/IndexOutOfBoundsException" ∈ lw_all := lw_c4 (List.mem_of_getElem? (i := 92) rfl) rfl
theorem m_813 : Jvm.Cond.instantiable "java/lang/ArrayIndexOutOfBoundsException" 6 ∈ lw_all := lw_c4 (List.mem_of_getElem? (i := 93) rfl) rfl
theorem m_814 : Jvm.Cond.instanceMethod yJx00060_init_a7421 ∈ lw_all := lw_c4 (List.mem_of_getElem? (i := 94) rfl) rfl
theorem m_815 : Jvm.Cond.code yJx00060_init_a7421 prog_15_method_2_code 2 (Option.none : Option Jvm.ClassFile.FieldType) ∈ lw_all := lw_c4 (List.mem_of_getElem? (i := 95) rfl) rfl
theorem m_816 : Jvm.Cond.methodLink "java/lang/ArrayIndexOutOfBoundsException" 7 ⟨"java/lang/IndexOutOfBoundsException", "<init>", "(Ljava/lang/String;)V"⟩ ∈ lw_all := lw_c4 (List.mem_of_getElem? (i := 96) rfl) rfl
theorem m_817 : Jvm.Cond.lays "java/lang/ArrayIndexOutOfBoundsException" "java/lang/Throwable" "backtrace" "Ljava/lang/Object;" ∈ lw_all := lw_c4 (List.mem_of_getElem? (i := 97) rfl) rfl
theorem m_818 : Jvm.Cond.lays "java/lang/ArrayIndexOutOfBoundsException" "java/lang/Throwable" "detailMessage" "Ljava/lang/String;" ∈ lw_all := lw_c4 (List.mem_of_getElem? (i := 98) rfl) rfl
theorem m_819 : Jvm.Cond.lays "java/lang/ArrayIndexOutOfBoundsException" "java/lang/Throwable" "cause" "Ljava/lang/Throwable;" ∈ lw_all := lw_c4 (List.mem_of_getElem? (i := 99) rfl) rfl
theorem m_820 : Jvm.Cond.lays "java/lang/ArrayIndexOutOfBoundsException" "java/lang/Throwable" "stackTrace" "[Ljava/lang/StackTraceElement;" ∈ lw_all := lw_c4 (List.mem_of_getElem? (i := 100) rfl) rfl
theorem m_821 : Jvm.Cond.lays "java/lang/ArrayIndexOutOfBoundsException" "java/lang/Throwable" "depth" "I" ∈ lw_all := lw_c4 (List.mem_of_getElem? (i := 101) rfl) rfl
theorem m_822 : Jvm.Cond.lays "java/lang/ArrayIndexOutOfBoundsException" "java/lang/Throwable" "suppressedExceptions" "Ljava/util/List;" ∈ lw_all := lw_c4 (List.mem_of_getElem? (i := 102) rfl) rfl
theorem m_827 : Jvm.Cond.selects "java/lang/ArrayIndexOutOfBoundsException" ⟨"java/lang/Throwable", "fillInStackTrace", "(I)Ljava/lang/Throwable;"⟩ ⟨"java/lang/Throwable", "fillInStackTrace", "(I)Ljava/lang/Throwable;"⟩ ∈ lw_all := lw_c4 (List.mem_of_getElem? (i := 107) rfl) rfl
theorem m_828 : Jvm.Cond.instantiable "java/lang/String" 4 ∈ lw_all := lw_c4 (List.mem_of_getElem? (i := 108) rfl) rfl
theorem m_829 : Jvm.Cond.laysFinal "java/lang/String" "java/lang/String" "value" "[B" ∈ lw_all := lw_c4 (List.mem_of_getElem? (i := 109) rfl) rfl
theorem m_831 : Jvm.Cond.laysFinal "java/lang/String" "java/lang/String" "coder" "B" ∈ lw_all := lw_c4 (List.mem_of_getElem? (i := 111) rfl) rfl
theorem m_833 : Jvm.Cond.methodLink "SilkloftLaw" 103 yX9_packings ∈ lw_all := lw_c4 (List.mem_of_getElem? (i := 113) rfl) rfl
theorem m_834 : Jvm.Cond.instanceMethod yX9_packings ∈ lw_all := lw_c4 (List.mem_of_getElem? (i := 114) rfl) rfl
theorem m_835 : Jvm.Cond.selects "Silkloft" yX9_packings yX9_packings ∈ lw_all := lw_c4 (List.mem_of_getElem? (i := 115) rfl) rfl
theorem m_836 : Jvm.Cond.code yX9_packings prog_1_method_26_code 2 (Option.some Jvm.ClassFile.FieldType.int) ∈ lw_all := lw_c4 (List.mem_of_getElem? (i := 116) rfl) rfl
theorem m_837 : Jvm.Cond.methodLink "Silkloft" 45 yX9_canopyAt ∈ lw_all := lw_c4 (List.mem_of_getElem? (i := 117) rfl) rfl
theorem m_839 : Jvm.Cond.instanceMethod yX9_canopyAt ∈ lw_all := lw_c4 (List.mem_of_getElem? (i := 119) rfl) rfl
theorem m_840 : Jvm.Cond.code yX9_canopyAt prog_1_method_36_code 2 (Option.some (Jvm.ClassFile.FieldType.object "Silkloft$Canopy")) ∈ lw_all := lw_c4 (List.mem_of_getElem? (i := 120) rfl) rfl
theorem m_841 : Jvm.Cond.methodLink "Silkloft" 134 yX5_hasCanopy ∈ lw_all := lw_c4 (List.mem_of_getElem? (i := 121) rfl) rfl
theorem m_843 : Jvm.Cond.methodLink "SilkloftLaw" 155 yL_acts ∈ lw_all := lw_c4 (List.mem_of_getElem? (i := 123) rfl) rfl
theorem m_844 : Jvm.Cond.static yL_acts ∈ lw_all := lw_c4 (List.mem_of_getElem? (i := 124) rfl) rfl
theorem m_845 : Jvm.Cond.code yL_acts method_35_code 11 (Option.some Jvm.ClassFile.FieldType.boolean) ∈ lw_all := lw_c4 (List.mem_of_getElem? (i := 125) rfl) rfl
theorem m_846 : Jvm.Cond.methodLink "SilkloftLaw" 174 yL_stateOf ∈ lw_all := lw_c4 (List.mem_of_getElem? (i := 126) rfl) rfl
theorem m_847 : Jvm.Cond.static yL_stateOf ∈ lw_all := lw_c4 (List.mem_of_getElem? (i := 127) rfl) rfl
theorem m_848 : Jvm.Cond.codeWith yL_stateOf method_24_code 3 (Option.some Jvm.ClassFile.FieldType.int) [(0, 5, 6, 38)] ∈ lw_all := lw_c4 (List.mem_of_getElem? (i := 128) rfl) rfl
theorem m_849 : Jvm.Cond.methodLink "SilkloftLaw" 93 yX9_stateOf ∈ lw_all := lw_c4 (List.mem_of_getElem? (i := 129) rfl) rfl
theorem m_850 : Jvm.Cond.instanceMethod yX9_stateOf ∈ lw_all := lw_c4 (List.mem_of_getElem? (i := 130) rfl) rfl
theorem m_851 : Jvm.Cond.selects "Silkloft" yX9_stateOf yX9_stateOf ∈ lw_all := lw_c4 (List.mem_of_getElem? (i := 131) rfl) rfl
theorem m_852 : Jvm.Cond.code yX9_stateOf prog_1_method_23_code 2 (Option.some Jvm.ClassFile.FieldType.char) ∈ lw_all := lw_c4 (List.mem_of_getElem? (i := 132) rfl) rfl
theorem m_853 : Jvm.Cond.methodLink "SilkloftLaw" 176 yL_hang ∈ lw_all := lw_c4 (List.mem_of_getElem? (i := 133) rfl) rfl
theorem m_854 : Jvm.Cond.static yL_hang ∈ lw_all := lw_c4 (List.mem_of_getElem? (i := 134) rfl) rfl
theorem m_855 : Jvm.Cond.codeWith yL_hang method_8_code 4 (Option.some Jvm.ClassFile.FieldType.int) [(0, 6, 7, 38), (0, 6, 11, 20), (0, 6, 15, 40), (0, 6, 19, 22)] ∈ lw_all := lw_c4 (List.mem_of_getElem? (i := 135) rfl) rfl
theorem m_856 : Jvm.Cond.classLink "SilkloftLaw" 40 "java/lang/UnsupportedOperationException" ∈ lw_all := lw_c4 (List.mem_of_getElem? (i := 136) rfl) rfl
theorem m_857 : Jvm.Cond.methodLink "SilkloftLaw" 35 yX9_hang ∈ lw_all := lw_c4 (List.mem_of_getElem? (i := 137) rfl) rfl
theorem m_858 : Jvm.Cond.instanceMethod yX9_hang ∈ lw_all := lw_c4 (List.mem_of_getElem? (i := 138) rfl) rfl
theorem m_859 : Jvm.Cond.selects "Silkloft" yX9_hang yX9_hang ∈ lw_all := lw_c4 (List.mem_of_getElem? (i := 139) rfl) rfl
theorem m_860 : Jvm.Cond.code yX9_hang prog_1_method_7_code 3 (Option.some Jvm.ClassFile.FieldType.int) ∈ lw_all := lw_c4 (List.mem_of_getElem? (i := 140) rfl) rfl
theorem m_861 : Jvm.Cond.methodLink "SilkloftLaw" 178 yL_step ∈ lw_all := lw_c4 (List.mem_of_getElem? (i := 141) rfl) rfl
theorem m_862 : Jvm.Cond.static yL_step ∈ lw_all := lw_c4 (List.mem_of_getElem? (i := 142) rfl) rfl
theorem m_863 : Jvm.Cond.codeWith yL_step method_9_code 4 (Option.some Jvm.ClassFile.FieldType.int) [(0, 6, 7, 38), (0, 6, 11, 40), (0, 6, 15, 20)] ∈ lw_all := lw_c4 (List.mem_of_getElem? (i := 143) rfl) rfl
theorem m_864 : Jvm.Cond.methodLink "SilkloftLaw" 42 yX9_step ∈ lw_all := lw_c4 (List.mem_of_getElem? (i := 144) rfl) rfl
theorem m_865 : Jvm.Cond.instanceMethod yX9_step ∈ lw_all := lw_c4 (List.mem_of_getElem? (i := 145) rfl) rfl
theorem m_866 : Jvm.Cond.selects "Silkloft" yX9_step yX9_step ∈ lw_all := lw_c4 (List.mem_of_getElem? (i := 146) rfl) rfl
theorem m_867 : Jvm.Cond.code yX9_step prog_1_method_8_code 3 (Option.some Jvm.ClassFile.FieldType.int) ∈ lw_all := lw_c4 (List.mem_of_getElem? (i := 147) rfl) rfl
theorem m_868 : Jvm.Cond.methodLink "SilkloftLaw" 180 yL_breakOff ∈ lw_all := lw_c4 (List.mem_of_getElem? (i := 148) rfl) rfl
theorem m_869 : Jvm.Cond.static yL_breakOff ∈ lw_all := lw_c4 (List.mem_of_getElem? (i := 149) rfl) rfl
theorem m_870 : Jvm.Cond.codeWith yL_breakOff method_10_code 3 (Option.some Jvm.ClassFile.FieldType.int) [(0, 5, 6, 38), (0, 5, 10, 40)] ∈ lw_all := lw_c4 (List.mem_of_getElem? (i := 150) rfl) rfl
theorem m_871 : Jvm.Cond.methodLink "SilkloftLaw" 45 yX9_breakOff ∈ lw_all := lw_c4 (List.mem_of_getElem? (i := 151) rfl) rfl
theorem m_872 : Jvm.Cond.instanceMethod yX9_breakOff ∈ lw_all := lw_c4 (List.mem_of_getElem? (i := 152) rfl) rfl
theorem m_873 : Jvm.Cond.selects "Silkloft" yX9_breakOff yX9_breakOff ∈ lw_all := lw_c4 (List.mem_of_getElem? (i := 153) rfl) rfl
theorem m_874 : Jvm.Cond.code yX9_breakOff prog_1_method_9_code 2 (Option.some Jvm.ClassFile.FieldType.int) ∈ lw_all := lw_c4 (List.mem_of_getElem? (i := 154) rfl) rfl
theorem m_875 : Jvm.Cond.methodLink "SilkloftLaw" 182 yL_board ∈ lw_all := lw_c4 (List.mem_of_getElem? (i := 155) rfl) rfl
theorem m_876 : Jvm.Cond.static yL_board ∈ lw_all := lw_c4 (List.mem_of_getElem? (i := 156) rfl) rfl
theorem m_877 : Jvm.Cond.codeWith yL_board method_12_code 5 (Option.some Jvm.ClassFile.FieldType.int) [(0, 7, 8, 38), (0, 7, 13, 20), (0, 7, 18, 40), (0, 7, 23, 22)] ∈ lw_all := lw_c4 (List.mem_of_getElem? (i := 157) rfl) rfl
theorem m_878 : Jvm.Cond.methodLink "SilkloftLaw" 52 yX9_board ∈ lw_all := lw_c4 (List.mem_of_getElem? (i := 158) rfl) rfl
theorem m_879 : Jvm.Cond.instanceMethod yX9_board ∈ lw_all := lw_c4 (List.mem_of_getElem? (i := 159) rfl) rfl
theorem m_880 : Jvm.Cond.selects "Silkloft" yX9_board yX9_board ∈ lw_all := lw_c4 (List.mem_of_getElem? (i := 160) rfl) rfl
theorem m_881 : Jvm.Cond.code yX9_board prog_1_method_11_code 4 (Option.some Jvm.ClassFile.FieldType.int) ∈ lw_all := lw_c4 (List.mem_of_getElem? (i := 161) rfl) rfl
theorem m_882 : Jvm.Cond.methodLink "SilkloftLaw" 185 yL_isGrounded ∈ lw_all := lw_c4 (List.mem_of_getElem? (i := 162) rfl) rfl
theorem m_883 : Jvm.Cond.static yL_isGrounded ∈ lw_all := lw_c4 (List.mem_of_getElem? (i := 163) rfl) rfl
theorem m_884 : Jvm.Cond.codeWith yL_isGrounded method_25_code 3 (Option.some Jvm.ClassFile.FieldType.int) [(0, 13, 14, 38)] ∈ lw_all := lw_c4 (List.mem_of_getElem? (i := 164) rfl) rfl
theorem m_885 : Jvm.Cond.methodLink "SilkloftLaw" 97 yX9_isGrounded ∈ lw_all := lw_c4 (List.mem_of_getElem? (i := 165) rfl) rfl
theorem m_886 : Jvm.Cond.instanceMethod yX9_isGrounded ∈ lw_all := lw_c4 (List.mem_of_getElem? (i := 166) rfl) rfl
theorem m_887 : Jvm.Cond.selects "Silkloft" yX9_isGrounded yX9_isGrounded ∈ lw_all := lw_c4 (List.mem_of_getElem? (i := 167) rfl) rfl
theorem m_888 : Jvm.Cond.code yX9_isGrounded prog_1_method_24_code 2 (Option.some Jvm.ClassFile.FieldType.boolean) ∈ lw_all := lw_c4 (List.mem_of_getElem? (i := 168) rfl) rfl
theorem m_889 : Jvm.Cond.methodLink "Silkloft" 55 yX5_isOnGround ∈ lw_all := lw_c4 (List.mem_of_getElem? (i := 169) rfl) rfl
theorem m_890 : Jvm.Cond.methodLink "SilkloftLaw" 187 yL_isOut ∈ lw_all := lw_c4 (List.mem_of_getElem? (i := 170) rfl) rfl
theorem m_891 : Jvm.Cond.static yL_isOut ∈ lw_all := lw_c4 (List.mem_of_getElem? (i := 171) rfl) rfl
theorem m_892 : Jvm.Cond.codeWith yL_isOut method_26_code 3 (Option.some Jvm.ClassFile.FieldType.int) [(0, 13, 14, 38)] ∈ lw_all := lw_c4 (List.mem_of_getElem? (i := 172) rfl) rfl
theorem m_893 : Jvm.Cond.methodLink "SilkloftLaw" 100 yX9_isOut ∈ lw_all := lw_c4 (List.mem_of_getElem? (i := 173) rfl) rfl
theorem m_894 : Jvm.Cond.instanceMethod yX9_isOut ∈ lw_all := lw_c4 (List.mem_of_getElem? (i := 174) rfl) rfl
theorem m_895 : Jvm.Cond.selects "Silkloft" yX9_isOut yX9_isOut ∈ lw_all := lw_c4 (List.mem_of_getElem? (i := 175) rfl) rfl
theorem m_896 : Jvm.Cond.code yX9_isOut prog_1_method_25_code 2 (Option.some Jvm.ClassFile.FieldType.boolean) ∈ lw_all := lw_c4 (List.mem_of_getElem? (i := 176) rfl) rfl
theorem m_897 : Jvm.Cond.methodLink "Silkloft" 58 yX5_isTooOld ∈ lw_all := lw_c4 (List.mem_of_getElem? (i := 177) rfl) rfl
theorem m_898 : Jvm.Cond.methodLink "SilkloftLaw" 189 yL_jump ∈ lw_all := lw_c4 (List.mem_of_getElem? (i := 178) rfl) rfl
theorem m_899 : Jvm.Cond.static yL_jump ∈ lw_all := lw_c4 (List.mem_of_getElem? (i := 179) rfl) rfl
theorem m_900 : Jvm.Cond.codeWith yL_jump method_14_code 4 (Option.some Jvm.ClassFile.FieldType.int) [(0, 6, 7, 38), (0, 6, 11, 40)] ∈ lw_all := lw_c4 (List.mem_of_getElem? (i := 180) rfl) rfl
theorem m_901 : Jvm.Cond.methodLink "SilkloftLaw" 59 yX9_jump ∈ lw_all := lw_c4 (List.mem_of_getElem? (i := 181) rfl) rfl
theorem m_902 : Jvm.Cond.instanceMethod yX9_jump ∈ lw_all := lw_c4 (List.mem_of_getElem? (i := 182) rfl) rfl
theorem m_903 : Jvm.Cond.selects "Silkloft" yX9_jump yX9_jump ∈ lw_all := lw_c4 (List.mem_of_getElem? (i := 183) rfl) rfl
theorem m_904 : Jvm.Cond.code yX9_jump prog_1_method_13_code 3 (Option.some Jvm.ClassFile.FieldType.int) ∈ lw_all := lw_c4 (List.mem_of_getElem? (i := 184) rfl) rfl
theorem m_905 : Jvm.Cond.methodLink "SilkloftLaw" 191 yL_leave ∈ lw_all := lw_c4 (List.mem_of_getElem? (i := 185) rfl) rfl
theorem m_906 : Jvm.Cond.static yL_leave ∈ lw_all := lw_c4 (List.mem_of_getElem? (i := 186) rfl) rfl
theorem m_907 : Jvm.Cond.codeWith yL_leave method_13_code 3 (Option.some Jvm.ClassFile.FieldType.int) [(0, 5, 6, 38), (0, 5, 10, 40)] ∈ lw_all := lw_c4 (List.mem_of_getElem? (i := 187) rfl) rfl
theorem m_908 : Jvm.Cond.methodLink "SilkloftLaw" 56 yX9_leave ∈ lw_all := lw_c4 (List.mem_of_getElem? (i := 188) rfl) rfl
theorem m_909 : Jvm.Cond.instanceMethod yX9_leave ∈ lw_all := lw_c4 (List.mem_of_getElem? (i := 189) rfl) rfl
theorem m_910 : Jvm.Cond.selects "Silkloft" yX9_leave yX9_leave ∈ lw_all := lw_c4 (List.mem_of_getElem? (i := 190) rfl) rfl
theorem m_911 : Jvm.Cond.code yX9_leave prog_1_method_12_code 2 (Option.some Jvm.ClassFile.FieldType.int) ∈ lw_all := lw_c4 (List.mem_of_getElem? (i := 191) rfl) rfl
theorem m_912 : Jvm.Cond.methodLink "SilkloftLaw" 193 yL_drop ∈ lw_all := lw_c4 (List.mem_of_getElem? (i := 192) rfl) rfl
theorem m_913 : Jvm.Cond.static yL_drop ∈ lw_all := lw_c4 (List.mem_of_getElem? (i := 193) rfl) rfl
theorem m_914 : Jvm.Cond.codeWith yL_drop method_21_code 4 (Option.some Jvm.ClassFile.FieldType.int) [(0, 6, 7, 38), (0, 6, 11, 40)] ∈ lw_all := lw_c4 (List.mem_of_getElem? (i := 194) rfl) rfl
theorem m_915 : Jvm.Cond.methodLink "SilkloftLaw" 82 yX9_drop ∈ lw_all := lw_c4 (List.mem_of_getElem? (i := 195) rfl) rfl
theorem m_916 : Jvm.Cond.instanceMethod yX9_drop ∈ lw_all := lw_c4 (List.mem_of_getElem? (i := 196) rfl) rfl
theorem m_917 : Jvm.Cond.selects "Silkloft" yX9_drop yX9_drop ∈ lw_all := lw_c4 (List.mem_of_getElem? (i := 197) rfl) rfl
theorem m_918 : Jvm.Cond.code yX9_drop prog_1_method_20_code 3 (Option.some Jvm.ClassFile.FieldType.int) ∈ lw_all := lw_c4 (List.mem_of_getElem? (i := 198) rfl) rfl
theorem m_919 : Jvm.Cond.methodLink "SilkloftLaw" 196 yL_repair ∈ lw_all := lw_c4 (List.mem_of_getElem? (i := 199) rfl) rfl
theorem m_920 : Jvm.Cond.static yL_repair ∈ lw_all := lw_c4 (List.mem_of_getElem? (i := 200) rfl) rfl
theorem m_921 : Jvm.Cond.codeWith yL_repair method_20_code 4 (Option.some Jvm.ClassFile.FieldType.int) [(0, 6, 7, 38), (0, 6, 11, 40), (0, 6, 15, 20)] ∈ lw_all := lw_c4 (List.mem_of_getElem? (i := 201) rfl) rfl
theorem m_922 : Jvm.Cond.methodLink "SilkloftLaw" 79 yX9_repair ∈ lw_all := lw_c4 (List.mem_of_getElem? (i := 202) rfl) rfl
theorem m_923 : Jvm.Cond.instanceMethod yX9_repair ∈ lw_all := lw_c4 (List.mem_of_getElem? (i := 203) rfl) rfl
theorem m_924 : Jvm.Cond.selects "Silkloft" yX9_repair yX9_repair ∈ lw_all := lw_c4 (List.mem_of_getElem? (i := 204) rfl) rfl
theorem m_925 : Jvm.Cond.code yX9_repair prog_1_method_19_code 3 (Option.some Jvm.ClassFile.FieldType.int) ∈ lw_all := lw_c4 (List.mem_of_getElem? (i := 205) rfl) rfl
theorem m_926 : Jvm.Cond.methodLink "SilkloftLaw" 198 yL_find ∈ lw_all := lw_c4 (List.mem_of_getElem? (i := 206) rfl) rfl
theorem m_927 : Jvm.Cond.static yL_find ∈ lw_all := lw_c4 (List.mem_of_getElem? (i := 207) rfl) rfl
theorem m_928 : Jvm.Cond.codeWith yL_find method_15_code 3 (Option.some Jvm.ClassFile.FieldType.int) [(0, 5, 6, 38), (0, 5, 10, 22)] ∈ lw_all := lw_c4 (List.mem_of_getElem? (i := 208) rfl) rfl
theorem m_929 : Jvm.Cond.methodLink "SilkloftLaw" 62 yX9_find ∈ lw_all := lw_c4 (List.mem_of_getElem? (i := 209) rfl) rfl
theorem m_930 : Jvm.Cond.instanceMethod yX9_find ∈ lw_all := lw_c4 (List.mem_of_getElem? (i := 210) rfl) rfl
theorem m_931 : Jvm.Cond.selects "Silkloft" yX9_find yX9_find ∈ lw_all := lw_c4 (List.mem_of_getElem? (i := 211) rfl) rfl
theorem m_932 : Jvm.Cond.code yX9_find prog_1_method_14_code 2 (Option.some Jvm.ClassFile.FieldType.int) ∈ lw_all := lw_c4 (List.mem_of_getElem? (i := 212) rfl) rfl
theorem m_933 : Jvm.Cond.methodLink "SilkloftLaw" 200 yL_grounds ∈ lw_all := lw_c4 (List.mem_of_getElem? (i := 213) rfl) rfl
theorem m_934 : Jvm.Cond.static yL_grounds ∈ lw_all := lw_c4 (List.mem_of_getElem? (i := 214) rfl) rfl
theorem m_935 : Jvm.Cond.codeWith yL_grounds method_19_code 3 (Option.some Jvm.ClassFile.FieldType.int) [(0, 5, 6, 38)] ∈ lw_all := lw_c4 (List.mem_of_getElem? (i := 215) rfl) rfl
theorem m_936 : Jvm.Cond.methodLink "SilkloftLaw" 76 yX9_grounds ∈ lw_all := lw_c4 (List.mem_of_getElem? (i := 216) rfl) rfl
theorem m_937 : Jvm.Cond.instanceMethod yX9_grounds ∈ lw_all := lw_c4 (List.mem_of_getElem? (i := 217) rfl) rfl
theorem m_938 : Jvm.Cond.selects "Silkloft" yX9_grounds yX9_grounds ∈ lw_all := lw_c4 (List.mem_of_getElem? (i := 218) rfl) rfl
theorem m_939 : Jvm.Cond.code yX9_grounds prog_1_method_18_code 2 (Option.some Jvm.ClassFile.FieldType.int) ∈ lw_all := lw_c4 (List.mem_of_getElem? (i := 219) rfl) rfl
theorem m_940 : Jvm.Cond.methodLink "Silkloft" 30 yX5_hasFinding ∈ lw_all := lw_c4 (List.mem_of_getElem? (i := 220) rfl) rfl
theorem m_942 : Jvm.Cond.methodLink "Silkloft" 41 yX5_countGroundedBy ∈ lw_all := lw_c4 (List.mem_of_getElem? (i := 222) rfl) rfl
theorem m_943 : Jvm.Cond.instanceMethod yX5_countGroundedBy ∈ lw_all := lw_c4 (List.mem_of_getElem? (i := 223) rfl) rfl
theorem m_944 : Jvm.Cond.selects "Silkloft$Loft" yX5_countGroundedBy yX5_countGroundedBy ∈ lw_all := lw_c4 (List.mem_of_getElem? (i := 224) rfl) rfl
theorem m_945 : Jvm.Cond.code yX5_countGroundedBy prog_7_method_35_code 4 (Option.some Jvm.ClassFile.FieldType.int) ∈ lw_all := lw_c4 (List.mem_of_getElem? (i := 225) rfl) rfl
theorem m_946 : Jvm.Cond.methodLink "SilkloftLaw" 202 yL_widen ∈ lw_all := lw_c4 (List.mem_of_getElem? (i := 226) rfl) rfl
theorem m_947 : Jvm.Cond.static yL_widen ∈ lw_all := lw_c4 (List.mem_of_getElem? (i := 227) rfl) rfl
theorem m_948 : Jvm.Cond.codeWith yL_widen method_16_code 3 (Option.some Jvm.ClassFile.FieldType.int) [(0, 5, 6, 38), (0, 5, 10, 40)] ∈ lw_all := lw_c4 (List.mem_of_getElem? (i := 228) rfl) rfl
theorem m_949 : Jvm.Cond.methodLink "SilkloftLaw" 65 yX9_widen ∈ lw_all := lw_c4 (List.mem_of_getElem? (i := 229) rfl) rfl
theorem m_950 : Jvm.Cond.instanceMethod yX9_widen ∈ lw_all := lw_c4 (List.mem_of_getElem? (i := 230) rfl) rfl
theorem m_951 : Jvm.Cond.selects "Silkloft" yX9_widen yX9_widen ∈ lw_all := lw_c4 (List.mem_of_getElem? (i := 231) rfl) rfl
theorem m_952 : Jvm.Cond.code yX9_widen prog_1_method_15_code 2 (Option.some Jvm.ClassFile.FieldType.int) ∈ lw_all := lw_c4 (List.mem_of_getElem? (i := 232) rfl) rfl
theorem m_954 : Jvm.Cond.methodLink "SilkloftLaw" 206 yJ0_charAt_5068e ∈ lw_all := lw_c4 (List.mem_of_getElem? (i := 234) rfl) rfl
theorem m_955 : Jvm.Cond.instanceMethod yJ0_charAt_5068e ∈ lw_all := lw_c4 (List.mem_of_getElem? (i := 235) rfl) rfl
theorem m_956 : Jvm.Cond.selects "java/lang/String" yJ0_charAt_5068e yJ0_charAt_5068e ∈ lw_all := lw_c4 (List.mem_of_getElem? (i := 236) rfl) rfl
theorem m_957 : Jvm.Cond.code yJ0_charAt_5068e prog_26_method_56_code 2 (Option.some Jvm.ClassFile.FieldType.char) ∈ lw_all := lw_c4 (List.mem_of_getElem? (i := 237) rfl) rfl
theorem m_958 : Jvm.Cond.methodLink "java/lang/String" 492 yJ0_isLatin1_aae02 ∈ lw_all := lw_c4 (List.mem_of_getElem? (i := 238) rfl) rfl
theorem m_959 : Jvm.Cond.instanceMethod yJ0_isLatin1_aae02 ∈ lw_all := lw_c4 (List.mem_of_getElem? (i := 239) rfl) rfl
theorem m_960 : Jvm.Cond.selects "java/lang/String" yJ0_isLatin1_aae02 yJ0_isLatin1_aae02 ∈ lw_all := lw_c5 (List.mem_of_getElem? (i := 0) rfl) rfl
theorem m_961 : Jvm.Cond.code yJ0_isLatin1_aae02 prog_26_method_154_code 1 (Option.some Jvm.ClassFile.FieldType.boolean) ∈ lw_all := lw_c5 (List.mem_of_getElem? (i := 1) rfl) rfl
theorem m_962 : Jvm.Cond.fieldLink "java/lang/String" 38 "java/lang/String" "COMPACT_STRINGS" "Z" ∈ lw_all := lw_c5 (List.mem_of_getElem? (i := 2) rfl) rfl
theorem m_964 : Jvm.Cond.methodLink "java/lang/String" 495 yJ1_charAt_3b067 ∈ lw_all := lw_c5 (List.mem_of_getElem? (i := 4) rfl) rfl
theorem m_965 : Jvm.Cond.static yJ1_charAt_3b067 ∈ lw_all := lw_c5 (List.mem_of_getElem? (i := 5) rfl) rfl
theorem m_966 : Jvm.Cond.code yJ1_charAt_3b067 prog_27_method_2_code 2 (Option.some Jvm.ClassFile.FieldType.char) ∈ lw_all := lw_c5 (List.mem_of_getElem? (i := 6) rfl) rfl
theorem m_967 : Jvm.Cond.methodLink "java/lang/StringLatin1" 9 yJ0_checkIndex_df160 ∈ lw_all := lw_c5 (List.mem_of_getElem? (i := 7) rfl) rfl
theorem m_968 : Jvm.Cond.static yJ0_checkIndex_df160 ∈ lw_all := lw_c5 (List.mem_of_getElem? (i := 8) rfl) rfl
theorem m_969 : Jvm.Cond.code yJ0_checkIndex_df160 prog_26_method_155_code 2 (Option.none : Option Jvm.ClassFile.FieldType) ∈ lw_all := lw_c5 (List.mem_of_getElem? (i := 9) rfl) rfl
theorem m_970 : Jvm.Cond.fieldLink "java/lang/String" 1053 "jdk/internal/util/Preconditions" "SIOOBE_FORMATTER" "Ljava/util/function/BiFunction;" ∈ lw_all := lw_c5 (List.mem_of_getElem? (i := 10) rfl) rfl
theorem m_972 : Jvm.Cond.methodLink "java/lang/String" 1059 yJ3_checkIndex_8e157 ∈ lw_all := lw_c5 (List.mem_of_getElem? (i := 12) rfl) rfl
theorem m_973 : Jvm.Cond.static yJ3_checkIndex_8e157 ∈ lw_all := lw_c5 (List.mem_of_getElem? (i := 13) rfl) rfl
theorem m_974 : Jvm.Cond.code yJ3_checkIndex_8e157 prog_34_method_11_code 3 (Option.some Jvm.ClassFile.FieldType.int) ∈ lw_all := lw_c5 (List.mem_of_getElem? (i := 14) rfl) rfl
theorem m_975 : Jvm.Cond.methodLink "java/lang/String" 498 yJ2_charAt_3b067 ∈ lw_all := lw_c5 (List.mem_of_getElem? (i := 15) rfl) rfl
theorem m_976 : Jvm.Cond.static yJ2_charAt_3b067 ∈ lw_all := lw_c5 (List.mem_of_getElem? (i := 16) rfl) rfl
theorem m_977 : Jvm.Cond.code yJ2_charAt_3b067 prog_28_method_83_code 2 (Option.some Jvm.ClassFile.FieldType.char) ∈ lw_all := lw_c5 (List.mem_of_getElem? (i := 17) rfl) rfl
theorem m_978 : Jvm.Cond.methodLink "java/lang/StringUTF16" 67 yJ2_checkIndex_2214a ∈ lw_all := lw_c5 (List.mem_of_getElem? (i := 18) rfl) rfl
theorem m_979 : Jvm.Cond.static yJ2_checkIndex_2214a ∈ lw_all := lw_c5 (List.mem_of_getElem? (i := 19) rfl) rfl
theorem m_980 : Jvm.Cond.code yJ2_checkIndex_2214a prog_28_method_91_code 2 (Option.none : Option Jvm.ClassFile.FieldType) ∈ lw_all := lw_c5 (List.mem_of_getElem? (i := 20) rfl) rfl
theorem m_981 : Jvm.Cond.methodLink "java/lang/StringUTF16" 48 yJ2_length_9d52b ∈ lw_all := lw_c5 (List.mem_of_getElem? (i := 21) rfl) rfl
theorem m_982 : Jvm.Cond.static yJ2_length_9d52b ∈ lw_all := lw_c5 (List.mem_of_getElem? (i := 22) rfl) rfl
theorem m_983 : Jvm.Cond.code yJ2_length_9d52b prog_28_method_6_code 1 (Option.some Jvm.ClassFile.FieldType.int) ∈ lw_all := lw_c5 (List.mem_of_getElem? (i := 23) rfl) rfl
theorem m_984 : Jvm.Cond.methodLink "java/lang/StringUTF16" 414 yJ0_checkIndex_df160 ∈ lw_all := lw_c5 (List.mem_of_getElem? (i := 24) rfl) rfl
theorem m_985 : Jvm.Cond.methodLink "java/lang/StringUTF16" 71 yJ2_getChar_3b067 ∈ lw_all := lw_c5 (List.mem_of_getElem? (i := 25) rfl) rfl
theorem m_986 : Jvm.Cond.static yJ2_getChar_3b067 ∈ lw_all := lw_c5 (List.mem_of_getElem? (i := 26) rfl) rfl
theorem m_987 : Jvm.Cond.code yJ2_getChar_3b067 prog_28_method_5_code 2 (Option.some Jvm.ClassFile.FieldType.char) ∈ lw_all := lw_c5 (List.mem_of_getElem? (i := 27) rfl) rfl
theorem m_988 : Jvm.Cond.fieldLink "java/lang/StringUTF16" 44 "java/lang/StringUTF16" "$assertionsDisabled" "Z" ∈ lw_all := lw_c5 (List.mem_of_getElem? (i := 28) rfl) rfl
theorem m_990 : Jvm.Cond.fieldLink "java/lang/StringUTF16" 59 "java/lang/StringUTF16" "HI_BYTE_SHIFT" "I" ∈ lw_all := lw_c5 (List.mem_of_getElem? (i := 30) rfl) rfl
theorem m_992 : Jvm.Cond.fieldLink "java/lang/StringUTF16" 63 "java/lang/StringUTF16" "LO_BYTE_SHIFT" "I" ∈ lw_all := lw_c5 (List.mem_of_getElem? (i := 32) rfl) rfl
theorem m_994 : Jvm.Cond.methodLink "SilkloftLaw" 211 yL_tellCause ∈ lw_all := lw_c5 (List.mem_of_getElem? (i := 34) rfl) rfl
theorem m_995 : Jvm.Cond.static yL_tellCause ∈ lw_all := lw_c5 (List.mem_of_getElem? (i := 35) rfl) rfl
theorem m_996 : Jvm.Cond.codeWith yL_tellCause method_17_code 4 (Option.some Jvm.ClassFile.FieldType.int) [(0, 6, 7, 38), (0, 6, 11, 20), (0, 6, 15, 40)] ∈ lw_all := lw_c5 (List.mem_of_getElem? (i := 36) rfl) rfl
theorem m_997 : Jvm.Cond.methodLink "SilkloftLaw" 68 yX9_tellCause ∈ lw_all := lw_c5 (List.mem_of_getElem? (i := 37) rfl) rfl
theorem m_998 : Jvm.Cond.instanceMethod yX9_tellCause ∈ lw_all := lw_c5 (List.mem_of_getElem? (i := 38) rfl) rfl
theorem m_999 : Jvm.Cond.selects "Silkloft" yX9_tellCause yX9_tellCause ∈ lw_all := lw_c5 (List.mem_of_getElem? (i := 39) rfl) rfl
theorem m_1000 : Jvm.Cond.code yX9_tellCause prog_1_method_16_code 3 (Option.some Jvm.ClassFile.FieldType.char) ∈ lw_all := lw_c5 (List.mem_of_getElem? (i := 40) rfl) rfl
theorem m_1001 : Jvm.Cond.methodLink "SilkloftLaw" 214 yL_close ∈ lw_all := lw_c5 (List.mem_of_getElem? (i := 41) rfl) rfl
theorem m_1002 : Jvm.Cond.static yL_close ∈ lw_all := lw_c5 (List.mem_of_getElem? (i := 42) rfl) rfl
theorem m_1003 : Jvm.Cond.codeWith yL_close method_18_code 3 (Option.some Jvm.ClassFile.FieldType.int) [(0, 13, 14, 38)] ∈ lw_all := lw_c5 (List.mem_of_getElem? (i := 43) rfl) rfl
theorem m_1004 : Jvm.Cond.methodLink "SilkloftLaw" 72 yX9_close ∈ lw_all := lw_c5 (List.mem_of_getElem? (i := 44) rfl) rfl
theorem m_1005 : Jvm.Cond.instanceMethod yX9_close ∈ lw_all := lw_c5 (List.mem_of_getElem? (i := 45) rfl) rfl
theorem m_1006 : Jvm.Cond.selects "Silkloft" yX9_close yX9_close ∈ lw_all := lw_c5 (List.mem_of_getElem? (i := 46) rfl) rfl
theorem m_1007 : Jvm.Cond.code yX9_close prog_1_method_17_code 2 (Option.some Jvm.ClassFile.FieldType.boolean) ∈ lw_all := lw_c5 (List.mem_of_getElem? (i := 47) rfl) rfl
theorem m_1008 : Jvm.Cond.methodLink "SilkloftLaw" 216 yL_back ∈ lw_all := lw_c5 (List.mem_of_getElem? (i := 48) rfl) rfl
theorem m_1009 : Jvm.Cond.static yL_back ∈ lw_all := lw_c5 (List.mem_of_getElem? (i := 49) rfl) rfl
theorem m_1010 : Jvm.Cond.codeWith yL_back method_23_code 5 (Option.some Jvm.ClassFile.FieldType.int) [(0, 7, 8, 38), (0, 7, 13, 40)] ∈ lw_all := lw_c5 (List.mem_of_getElem? (i := 50) rfl) rfl
theorem m_1011 : Jvm.Cond.methodLink "SilkloftLaw" 89 yX9_back ∈ lw_all := lw_c5 (List.mem_of_getElem? (i := 51) rfl) rfl
theorem m_1012 : Jvm.Cond.instanceMethod yX9_back ∈ lw_all := lw_c5 (List.mem_of_getElem? (i := 52) rfl) rfl
theorem m_1013 : Jvm.Cond.selects "Silkloft" yX9_back yX9_back ∈ lw_all := lw_c5 (List.mem_of_getElem? (i := 53) rfl) rfl
theorem m_1014 : Jvm.Cond.code yX9_back prog_1_method_22_code 4 (Option.some Jvm.ClassFile.FieldType.int) ∈ lw_all := lw_c5 (List.mem_of_getElem? (i := 54) rfl) rfl
theorem m_1015 : Jvm.Cond.methodLink "SilkloftLaw" 219 yL_hire ∈ lw_all := lw_c5 (List.mem_of_getElem? (i := 55) rfl) rfl
theorem m_1016 : Jvm.Cond.static yL_hire ∈ lw_all := lw_c5 (List.mem_of_getElem? (i := 56) rfl) rfl
theorem m_1017 : Jvm.Cond.codeWith yL_hire method_22_code 5 (Option.some Jvm.ClassFile.FieldType.int) [(0, 7, 8, 38), (0, 7, 13, 20), (0, 7, 18, 40)] ∈ lw_all := lw_c5 (List.mem_of_getElem? (i := 57) rfl) rfl
theorem m_1018 : Jvm.Cond.methodLink "SilkloftLaw" 86 yX9_hire ∈ lw_all := lw_c5 (List.mem_of_getElem? (i := 58) rfl) rfl
theorem m_1019 : Jvm.Cond.instanceMethod yX9_hire ∈ lw_all := lw_c5 (List.mem_of_getElem? (i := 59) rfl) rfl
theorem m_1020 : Jvm.Cond.selects "Silkloft" yX9_hire yX9_hire ∈ lw_all := lw_c5 (List.mem_of_getElem? (i := 60) rfl) rfl
theorem m_1021 : Jvm.Cond.code yX9_hire prog_1_method_21_code 4 (Option.some Jvm.ClassFile.FieldType.int) ∈ lw_all := lw_c5 (List.mem_of_getElem? (i := 61) rfl) rfl
theorem m_1023 : Jvm.Cond.methodLink "SilkloftLaw" 223 yL_goOn ∈ lw_all := lw_c5 (List.mem_of_getElem? (i := 63) rfl) rfl
theorem m_1024 : Jvm.Cond.static yL_goOn ∈ lw_all := lw_c5 (List.mem_of_getElem? (i := 64) rfl) rfl
theorem m_1025 : Jvm.Cond.codeWith yL_goOn method_7_code 3 (Option.some Jvm.ClassFile.FieldType.int) [(0, 5, 6, 20), (0, 5, 10, 22)] ∈ lw_all := lw_c5 (List.mem_of_getElem? (i := 65) rfl) rfl
theorem m_1026 : Jvm.Cond.methodLink "SilkloftLaw" 32 yX9_goOn ∈ lw_all := lw_c5 (List.mem_of_getElem? (i := 66) rfl) rfl
theorem m_1027 : Jvm.Cond.instanceMethod yX9_goOn ∈ lw_all := lw_c5 (List.mem_of_getElem? (i := 67) rfl) rfl
theorem m_1028 : Jvm.Cond.selects "Silkloft" yX9_goOn yX9_goOn ∈ lw_all := lw_c5 (List.mem_of_getElem? (i := 68) rfl) rfl
theorem m_1029 : Jvm.Cond.code yX9_goOn prog_1_method_6_code 2 (Option.some Jvm.ClassFile.FieldType.int) ∈ lw_all := lw_c5 (List.mem_of_getElem? (i := 69) rfl) rfl
theorem m_1030 : Jvm.Cond.methodLink "SilkloftLaw" 159 yL_areCanopies ∈ lw_all := lw_c5 (List.mem_of_getElem? (i := 70) rfl) rfl
theorem m_1031 : Jvm.Cond.static yL_areCanopies ∈ lw_all := lw_c5 (List.mem_of_getElem? (i := 71) rfl) rfl
theorem m_1032 : Jvm.Cond.code yL_areCanopies method_36_code 11 (Option.some Jvm.ClassFile.FieldType.boolean) ∈ lw_all := lw_c5 (List.mem_of_getElem? (i := 72) rfl) rfl
theorem m_1034 : Jvm.Cond.methodLink "SilkloftLaw" 227 yJ0_indexOf_0f7a4 ∈ lw_all := lw_c5 (List.mem_of_getElem? (i := 74) rfl) rfl
theorem m_1035 : Jvm.Cond.instanceMethod yJ0_indexOf_0f7a4 ∈ lw_all := lw_c5 (List.mem_of_getElem? (i := 75) rfl) rfl
theorem m_1036 : Jvm.Cond.selects "java/lang/String" yJ0_indexOf_0f7a4 yJ0_indexOf_0f7a4 ∈ lw_all := lw_c5 (List.mem_of_getElem? (i := 76) rfl) rfl
theorem m_1037 : Jvm.Cond.code yJ0_indexOf_0f7a4 prog_26_method_79_code 2 (Option.some Jvm.ClassFile.FieldType.int) ∈ lw_all := lw_c5 (List.mem_of_getElem? (i := 77) rfl) rfl
theorem m_1038 : Jvm.Cond.methodLink "java/lang/String" 633 yJ0_indexOf_7cf53 ∈ lw_all := lw_c5 (List.mem_of_getElem? (i := 78) rfl) rfl
theorem m_1039 : Jvm.Cond.instanceMethod yJ0_indexOf_7cf53 ∈ lw_all := lw_c5 (List.mem_of_getElem? (i := 79) rfl) rfl
theorem m_1040 : Jvm.Cond.selects "java/lang/String" yJ0_indexOf_7cf53 yJ0_indexOf_7cf53 ∈ lw_all := lw_c5 (List.mem_of_getElem? (i := 80) rfl) rfl
theorem m_1041 : Jvm.Cond.code yJ0_indexOf_7cf53 prog_26_method_80_code 3 (Option.some Jvm.ClassFile.FieldType.int) ∈ lw_all := lw_c5 (List.mem_of_getElem? (i := 81) rfl) rfl
theorem m_1042 : Jvm.Cond.methodLink "java/lang/String" 505 yJ0_length_8abf5 ∈ lw_all := lw_c5 (List.mem_of_getElem? (i := 82) rfl) rfl
theorem m_1043 : Jvm.Cond.instanceMethod yJ0_length_8abf5 ∈ lw_all := lw_c5 (List.mem_of_getElem? (i := 83) rfl) rfl
theorem m_1044 : Jvm.Cond.selects "java/lang/String" yJ0_length_8abf5 yJ0_length_8abf5 ∈ lw_all := lw_c5 (List.mem_of_getElem? (i := 84) rfl) rfl
theorem m_1045 : Jvm.Cond.code yJ0_length_8abf5 prog_26_method_54_code 1 (Option.some Jvm.ClassFile.FieldType.int) ∈ lw_all := lw_c5 (List.mem_of_getElem? (i := 85) rfl) rfl
theorem m_1046 : Jvm.Cond.methodLink "java/lang/String" 335 yJ0_coder_7d493 ∈ lw_all := lw_c5 (List.mem_of_getElem? (i := 86) rfl) rfl
theorem m_1047 : Jvm.Cond.instanceMethod yJ0_coder_7d493 ∈ lw_all := lw_c5 (List.mem_of_getElem? (i := 87) rfl) rfl
theorem m_1048 : Jvm.Cond.selects "java/lang/String" yJ0_coder_7d493 yJ0_coder_7d493 ∈ lw_all := lw_c5 (List.mem_of_getElem? (i := 88) rfl) rfl
theorem m_1049 : Jvm.Cond.code yJ0_coder_7d493 prog_26_method_152_code 1 (Option.some Jvm.ClassFile.FieldType.byte) ∈ lw_all := lw_c5 (List.mem_of_getElem? (i := 89) rfl) rfl
theorem m_1050 : Jvm.Cond.methodLink "java/lang/String" 637 yJ1_indexOf_4cfef ∈ lw_all := lw_c5 (List.mem_of_getElem? (i := 90) rfl) rfl
theorem m_1051 : Jvm.Cond.static yJ1_indexOf_4cfef ∈ lw_all := lw_c5 (List.mem_of_getElem? (i := 91) rfl) rfl
theorem m_1052 : Jvm.Cond.code yJ1_indexOf_4cfef prog_27_method_22_code 4 (Option.some Jvm.ClassFile.FieldType.int) ∈ lw_all := lw_c5 (List.mem_of_getElem? (i := 92) rfl) rfl
theorem m_1053 : Jvm.Cond.methodLink "java/lang/StringLatin1" 88 yJ1_canEncode_9a6ad ∈ lw_all := lw_c5 (List.mem_of_getElem? (i := 93) rfl) rfl
theorem m_1054 : Jvm.Cond.static yJ1_canEncode_9a6ad ∈ lw_all := lw_c5 (List.mem_of_getElem? (i := 94) rfl) rfl
theorem m_1055 : Jvm.Cond.code yJ1_canEncode_9a6ad prog_27_method_4_code 1 (Option.some Jvm.ClassFile.FieldType.boolean) ∈ lw_all := lw_c5 (List.mem_of_getElem? (i := 95) rfl) rfl
theorem m_1056 : Jvm.Cond.methodLink "java/lang/StringLatin1" 92 yJ9_max_7cf53 ∈ lw_all := lw_c5 (List.mem_of_getElem? (i := 96) rfl) rfl
theorem m_1057 : Jvm.Cond.methodLink "java/lang/StringLatin1" 38 yJ9_min_7cf53 ∈ lw_all := lw_c5 (List.mem_of_getElem? (i := 97) rfl) rfl
theorem m_1058 : Jvm.Cond.static yJ9_min_7cf53 ∈ lw_all := lw_c5 (List.mem_of_getElem? (i := 98) rfl) rfl
theorem m_1059 : Jvm.Cond.code yJ9_min_7cf53 prog_24_method_69_code 2 (Option.some Jvm.ClassFile.FieldType.int) ∈ lw_all := lw_c5 (List.mem_of_getElem? (i := 99) rfl) rfl
theorem m_1060 : Jvm.Cond.methodLink "java/lang/StringLatin1" 95 yJ1_indexOfChar_4cfef ∈ lw_all := lw_c5 (List.mem_of_getElem? (i := 100) rfl) rfl
theorem m_1061 : Jvm.Cond.static yJ1_indexOfChar_4cfef ∈ lw_all := lw_c5 (List.mem_of_getElem? (i := 101) rfl) rfl
theorem m_1062 : Jvm.Cond.code yJ1_indexOfChar_4cfef prog_27_method_23_code 6 (Option.some Jvm.ClassFile.FieldType.int) ∈ lw_all := lw_c5 (List.mem_of_getElem? (i := 102) rfl) rfl
theorem m_1063 : Jvm.Cond.methodLink "java/lang/String" 640 yJ2_indexOf_4cfef ∈ lw_all := lw_c5 (List.mem_of_getElem? (i := 103) rfl) rfl
theorem m_1064 : Jvm.Cond.static yJ2_indexOf_4cfef ∈ lw_all := lw_c5 (List.mem_of_getElem? (i := 104) rfl) rfl
theorem m_1065 : Jvm.Cond.code yJ2_indexOf_4cfef prog_28_method_40_code 4 (Option.some Jvm.ClassFile.FieldType.int) ∈ lw_all := lw_c5 (List.mem_of_getElem? (i := 105) rfl) rfl
theorem m_1066 : Jvm.Cond.methodLink "java/lang/StringUTF16" 224 yJ9_max_7cf53 ∈ lw_all := lw_c5 (List.mem_of_getElem? (i := 106) rfl) rfl
theorem m_1067 : Jvm.Cond.methodLink "java/lang/StringUTF16" 183 yJ9_min_7cf53 ∈ lw_all := lw_c5 (List.mem_of_getElem? (i := 107) rfl) rfl
theorem m_1069 : Jvm.Cond.methodLink "java/lang/StringUTF16" 228 yJ2_indexOfChar_4cfef ∈ lw_all := lw_c5 (List.mem_of_getElem? (i := 109) rfl) rfl
theorem m_1070 : Jvm.Cond.static yJ2_indexOfChar_4cfef ∈ lw_all := lw_c5 (List.mem_of_getElem? (i := 110) rfl) rfl
theorem m_1071 : Jvm.Cond.code yJ2_indexOfChar_4cfef prog_28_method_47_code 4 (Option.some Jvm.ClassFile.FieldType.int) ∈ lw_all := lw_c5 (List.mem_of_getElem? (i := 111) rfl) rfl
theorem m_1072 : Jvm.Cond.methodLink "java/lang/StringUTF16" 96 yJ2_checkBoundsBeginEnd_d044e ∈ lw_all := lw_c5 (List.mem_of_getElem? (i := 112) rfl) rfl
theorem m_1073 : Jvm.Cond.static yJ2_checkBoundsBeginEnd_d044e ∈ lw_all := lw_c5 (List.mem_of_getElem? (i := 113) rfl) rfl
theorem m_1074 : Jvm.Cond.code yJ2_checkBoundsBeginEnd_d044e prog_28_method_93_code 3 (Option.none : Option Jvm.ClassFile.FieldType) ∈ lw_all := lw_c5 (List.mem_of_getElem? (i := 114) rfl) rfl
theorem m_1075 : Jvm.Cond.methodLink "java/lang/StringUTF16" 241 yJ0_checkBoundsBeginEnd_23922 ∈ lw_all := lw_c5 (List.mem_of_getElem? (i := 115) rfl) rfl
theorem m_1076 : Jvm.Cond.static yJ0_checkBoundsBeginEnd_23922 ∈ lw_all := lw_c5 (List.mem_of_getElem? (i := 116) rfl) rfl
theorem m_1077 : Jvm.Cond.code yJ0_checkBoundsBeginEnd_23922 prog_26_method_158_code 3 (Option.none : Option Jvm.ClassFile.FieldType) ∈ lw_all := lw_c5 (List.mem_of_getElem? (i := 117) rfl) rfl
theorem m_1078 : Jvm.Cond.methodLink "java/lang/String" 1062 yJ3_checkFromToIndex_8c36e ∈ lw_all := lw_c5 (List.mem_of_getElem? (i := 118) rfl) rfl
theorem m_1079 : Jvm.Cond.static yJ3_checkFromToIndex_8c36e ∈ lw_all := lw_c5 (List.mem_of_getElem? (i := 119) rfl) rfl
theorem m_1080 : Jvm.Cond.code yJ3_checkFromToIndex_8c36e prog_34_method_12_code 4 (Option.some Jvm.ClassFile.FieldType.int) ∈ lw_all := lw_c5 (List.mem_of_getElem? (i := 120) rfl) rfl
theorem m_1081 : Jvm.Cond.methodLink "java/lang/StringUTF16" 244 yJ2_indexOfCharUnsafe_4cfef ∈ lw_all := lw_c5 (List.mem_of_getElem? (i := 121) rfl) rfl
theorem m_1082 : Jvm.Cond.static yJ2_indexOfCharUnsafe_4cfef ∈ lw_all := lw_c5 (List.mem_of_getElem? (i := 122) rfl) rfl
theorem m_1083 : Jvm.Cond.code yJ2_indexOfCharUnsafe_4cfef prog_28_method_48_code 5 (Option.some Jvm.ClassFile.FieldType.int) ∈ lw_all := lw_c5 (List.mem_of_getElem? (i := 123) rfl) rfl
theorem m_1084 : Jvm.Cond.methodLink "java/lang/StringUTF16" 232 yJ2_indexOfSupplementary_4cfef ∈ lw_all := lw_c5 (List.mem_of_getElem? (i := 124) rfl) rfl
theorem m_1085 : Jvm.Cond.static yJ2_indexOfSupplementary_4cfef ∈ lw_all := lw_c5 (List.mem_of_getElem? (i := 125) rfl) rfl
theorem m_1086 : Jvm.Cond.code yJ2_indexOfSupplementary_4cfef prog_28_method_49_code 7 (Option.some Jvm.ClassFile.FieldType.int) ∈ lw_all := lw_c5 (List.mem_of_getElem? (i := 126) rfl) rfl
theorem m_1087 : Jvm.Cond.methodLink "java/lang/StringUTF16" 164 yJ11_isValidCodePoint_9a6ad ∈ lw_all := lw_c5 (List.mem_of_getElem? (i := 127) rfl) rfl
theorem m_1088 : Jvm.Cond.static yJ11_isValidCodePoint_9a6ad ∈ lw_all := lw_c5 (List.mem_of_getElem? (i := 128) rfl) rfl
theorem m_1089 : Jvm.Cond.code yJ11_isValidCodePoint_9a6ad prog_17_method_11_code 2 (Option.some Jvm.ClassFile.FieldType.boolean) ∈ lw_all := lw_c5 (List.mem_of_getElem? (i := 129) rfl) rfl
theorem m_1090 : Jvm.Cond.methodLink "java/lang/StringUTF16" 157 yJ11_highSurrogate_5068e ∈ lw_all := lw_c5 (List.mem_of_getElem? (i := 130) rfl) rfl
theorem m_1091 : Jvm.Cond.static yJ11_highSurrogate_5068e ∈ lw_all := lw_c5 (List.mem_of_getElem? (i := 131) rfl) rfl
theorem m_1092 : Jvm.Cond.code yJ11_highSurrogate_5068e prog_17_method_28_code 1 (Option.some Jvm.ClassFile.FieldType.char) ∈ lw_all := lw_c5 (List.mem_of_getElem? (i := 132) rfl) rfl
theorem m_1094 : Jvm.Cond.methodLink "java/lang/StringUTF16" 161 yJ11_lowSurrogate_5068e ∈ lw_all := lw_c5 (List.mem_of_getElem? (i := 134) rfl) rfl
theorem m_1095 : Jvm.Cond.static yJ11_lowSurrogate_5068e ∈ lw_all := lw_c5 (List.mem_of_getElem? (i := 135) rfl) rfl
theorem m_1096 : Jvm.Cond.code yJ11_lowSurrogate_5068e prog_17_method_29_code 1 (Option.some Jvm.ClassFile.FieldType.char) ∈ lw_all := lw_c5 (List.mem_of_getElem? (i := 136) rfl) rfl
theorem m_1098 : Jvm.Cond.methodLink "SilkloftLaw" 230 yL_jumps ∈ lw_all := lw_c5 (List.mem_of_getElem? (i := 138) rfl) rfl
theorem m_1099 : Jvm.Cond.static yL_jumps ∈ lw_all := lw_c5 (List.mem_of_getElem? (i := 139) rfl) rfl
theorem m_1100 : Jvm.Cond.codeWith yL_jumps method_29_code 3 (Option.some Jvm.ClassFile.FieldType.int) [(0, 5, 6, 38)] ∈ lw_all := lw_c5 (List.mem_of_getElem? (i := 140) rfl) rfl
theorem m_1101 : Jvm.Cond.methodLink "SilkloftLaw" 110 yX9_jumps ∈ lw_all := lw_c5 (List.mem_of_getElem? (i := 141) rfl) rfl
theorem m_1102 : Jvm.Cond.instanceMethod yX9_jumps ∈ lw_all := lw_c5 (List.mem_of_getElem? (i := 142) rfl) rfl
theorem m_1103 : Jvm.Cond.selects "Silkloft" yX9_jumps yX9_jumps ∈ lw_all := lw_c5 (List.mem_of_getElem? (i := 143) rfl) rfl
theorem m_1104 : Jvm.Cond.code yX9_jumps prog_1_method_28_code 2 (Option.some Jvm.ClassFile.FieldType.int) ∈ lw_all := lw_c5 (List.mem_of_getElem? (i := 144) rfl) rfl
theorem m_1105 : Jvm.Cond.methodLink "SilkloftLaw" 232 yL_sharers ∈ lw_all := lw_c5 (List.mem_of_getElem? (i := 145) rfl) rfl
theorem m_1106 : Jvm.Cond.static yL_sharers ∈ lw_all := lw_c5 (List.mem_of_getElem? (i := 146) rfl) rfl
theorem m_1107 : Jvm.Cond.codeWith yL_sharers method_30_code 3 (Option.some Jvm.ClassFile.FieldType.int) [(0, 5, 6, 38)] ∈ lw_all := lw_c5 (List.mem_of_getElem? (i := 147) rfl) rfl
theorem m_1108 : Jvm.Cond.methodLink "SilkloftLaw" 113 yX9_sharers ∈ lw_all := lw_c5 (List.mem_of_getElem? (i := 148) rfl) rfl
theorem m_1109 : Jvm.Cond.instanceMethod yX9_sharers ∈ lw_all := lw_c5 (List.mem_of_getElem? (i := 149) rfl) rfl
theorem m_1110 : Jvm.Cond.selects "Silkloft" yX9_sharers yX9_sharers ∈ lw_all := lw_c5 (List.mem_of_getElem? (i := 150) rfl) rfl
theorem m_1111 : Jvm.Cond.code yX9_sharers prog_1_method_29_code 2 (Option.some Jvm.ClassFile.FieldType.int) ∈ lw_all := lw_c5 (List.mem_of_getElem? (i := 151) rfl) rfl
theorem m_1112 : Jvm.Cond.methodLink "Silkloft" 86 yX5_countSharers ∈ lw_all := lw_c5 (List.mem_of_getElem? (i := 152) rfl) rfl
theorem m_1113 : Jvm.Cond.instanceMethod yX5_countSharers ∈ lw_all := lw_c5 (List.mem_of_getElem? (i := 153) rfl) rfl
theorem m_1114 : Jvm.Cond.selects "Silkloft$Loft" yX5_countSharers yX5_countSharers ∈ lw_all := lw_c5 (List.mem_of_getElem? (i := 154) rfl) rfl
theorem m_1115 : Jvm.Cond.code yX5_countSharers prog_7_method_38_code 4 (Option.some Jvm.ClassFile.FieldType.int) ∈ lw_all := lw_c5 (List.mem_of_getElem? (i := 155) rfl) rfl
theorem m_1116 : Jvm.Cond.methodLink "SilkloftLaw" 234 yL_packingOf ∈ lw_all := lw_c5 (List.mem_of_getElem? (i := 156) rfl) rfl
theorem m_1117 : Jvm.Cond.static yL_packingOf ∈ lw_all := lw_c5 (List.mem_of_getElem? (i := 157) rfl) rfl
theorem m_1118 : Jvm.Cond.codeWith yL_packingOf method_28_code 5 (Option.some Jvm.ClassFile.FieldType.int) [(0, 7, 8, 38), (0, 7, 13, 20)] ∈ lw_all := lw_c5 (List.mem_of_getElem? (i := 158) rfl) rfl
theorem m_1119 : Jvm.Cond.methodLink "SilkloftLaw" 106 yX9_packingOf ∈ lw_all := lw_c5 (List.mem_of_getElem? (i := 159) rfl) rfl
theorem m_1120 : Jvm.Cond.instanceMethod yX9_packingOf ∈ lw_all := lw_c5 (List.mem_of_getElem? (i := 160) rfl) rfl
theorem m_1121 : Jvm.Cond.selects "Silkloft" yX9_packingOf yX9_packingOf ∈ lw_all := lw_c5 (List.mem_of_getElem? (i := 161) rfl) rfl
theorem m_1122 : Jvm.Cond.code yX9_packingOf prog_1_method_27_code 5 (Option.some Jvm.ClassFile.FieldType.int) ∈ lw_all := lw_c5 (List.mem_of_getElem? (i := 162) rfl) rfl
theorem m_1125 : Jvm.Cond.methodLink "Silkloft" 77 yX0_lookUp ∈ lw_all := lw_c5 (List.mem_of_getElem? (i := 165) rfl) rfl
theorem m_1126 : Jvm.Cond.instanceMethod yX0_lookUp ∈ lw_all := lw_c5 (List.mem_of_getElem? (i := 166) rfl) rfl
theorem m_1127 : Jvm.Cond.selects "Silkloft$Book" yX0_lookUp yX0_lookUp ∈ lw_all := lw_c5 (List.mem_of_getElem? (i := 167) rfl) rfl
theorem m_1128 : Jvm.Cond.code yX0_lookUp prog_2_method_5_code 6 (Option.some Jvm.ClassFile.FieldType.int) ∈ lw_all := lw_c5 (List.mem_of_getElem? (i := 168) rfl) rfl
theorem m_1129 : Jvm.Cond.methodLink "Silkloft$Book" 28 yX0_numberOf ∈ lw_all := lw_c5 (List.mem_of_getElem? (i := 169) rfl) rfl
theorem m_1131 : Jvm.Cond.instanceMethod yX0_numberOf ∈ lw_all := lw_c5 (List.mem_of_getElem? (i := 171) rfl) rfl
theorem m_1132 : Jvm.Cond.code yX0_numberOf prog_2_method_6_code 5 (Option.some Jvm.ClassFile.FieldType.int) ∈ lw_all := lw_c5 (List.mem_of_getElem? (i := 172) rfl) rfl
theorem m_1133 : Jvm.Cond.methodLink "Silkloft$Book" 32 yX0_has ∈ lw_all := lw_c5 (List.mem_of_getElem? (i := 173) rfl) rfl
theorem m_1134 : Jvm.Cond.methodLink "SilkloftLaw" 237 yL_groundedShare ∈ lw_all := lw_c5 (List.mem_of_getElem? (i := 174) rfl) rfl
theorem m_1135 : Jvm.Cond.static yL_groundedShare ∈ lw_all := lw_c5 (List.mem_of_getElem? (i := 175) rfl) rfl
theorem m_1136 : Jvm.Cond.codeWith yL_groundedShare method_32_code 2 (Option.some Jvm.ClassFile.FieldType.float) [(0, 4, 5, 125)] ∈ lw_all := lw_c5 (List.mem_of_getElem? (i := 176) rfl) rfl
theorem m_1137 : Jvm.Cond.classLink "SilkloftLaw" 125 "java/lang/ArithmeticException" ∈ lw_all := lw_c5 (List.mem_of_getElem? (i := 177) rfl) rfl
theorem m_1138 : Jvm.Cond.instantiable "java/lang/ArithmeticException" 6 ∈ lw_all := lw_c5 (List.mem_of_getElem? (i := 178) rfl) rfl
theorem m_1139 : Jvm.Cond.instanceMethod ⟨"java/lang/ArithmeticException", "<init>", "(Ljava/lang/String;)V"⟩ ∈ lw_all := lw_c5 (List.mem_of_getElem? (i := 179) rfl) rfl
theorem m_1140 : Jvm.Cond.code ⟨"java/lang/ArithmeticException", "<init>", "(Ljava/lang/String;)V"⟩ prog_14_method_2_code 2 (Option.none : Option Jvm.ClassFile.FieldType) ∈ lw_all := lw_c5 (List.mem_of_getElem? (i := 180) rfl) rfl
theorem m_1141 : Jvm.Cond.methodLink "java/lang/ArithmeticException" 7 ⟨"java/lang/RuntimeException", "<init>", "(Ljava/lang/String;)V"⟩ ∈ lw_all := lw_c5 (List.mem_of_getElem? (i := 181) rfl) rfl
theorem m_1142 : Jvm.Cond.lays "java/lang/ArithmeticException" "java/lang/Throwable" "backtrace" "Ljava/lang/Object;" ∈ lw_all := lw_c5 (List.mem_of_getElem? (i := 182) rfl) rfl
theorem m_1143 : Jvm.Cond.lays "java/lang/ArithmeticException" "java/lang/Throwable" "detailMessage" "Ljava/lang/String;" ∈ lw_all := lw_c5 (List.mem_of_getElem? (i := 183) rfl) rfl
theorem m_1144 : Jvm.Cond.lays "java/lang/ArithmeticException" "java/lang/Throwable" "cause" "Ljava/lang/Throwable;" ∈ lw_all := lw_c5 (List.mem_of_getElem? (i := 184) rfl) rfl
theorem m_1145 : Jvm.Cond.lays "java/lang/ArithmeticException" "java/lang/Throwable" "stackTrace" "[Ljava/lang/StackTraceElement;" ∈ lw_all := lw_c5 (List.mem_of_getElem? (i := 185) rfl) rfl
theorem m_1146 : Jvm.Cond.lays "java/lang/ArithmeticException" "java/lang/Throwable" "depth" "I" ∈ lw_all := lw_c5 (List.mem_of_getElem? (i := 186) rfl) rfl
theorem m_1147 : Jvm.Cond.lays "java/lang/ArithmeticException" "java/lang/Throwable" "suppressedExceptions" "Ljava/util/List;" ∈ lw_all := lw_c5 (List.mem_of_getElem? (i := 187) rfl) rfl
theorem m_1150 : Jvm.Cond.selects "java/lang/ArithmeticException" ⟨"java/lang/Throwable", "fillInStackTrace", "(I)Ljava/lang/Throwable;"⟩ ⟨"java/lang/Throwable", "fillInStackTrace", "(I)Ljava/lang/Throwable;"⟩ ∈ lw_all := lw_c5 (List.mem_of_getElem? (i := 190) rfl) rfl
theorem m_1151 : Jvm.Cond.methodLink "SilkloftLaw" 121 yX9_groundedShare ∈ lw_all := lw_c5 (List.mem_of_getElem? (i := 191) rfl) rfl
theorem m_1152 : Jvm.Cond.instanceMethod yX9_groundedShare ∈ lw_all := lw_c5 (List.mem_of_getElem? (i := 192) rfl) rfl
theorem m_1153 : Jvm.Cond.selects "Silkloft" yX9_groundedShare yX9_groundedShare ∈ lw_all := lw_c5 (List.mem_of_getElem? (i := 193) rfl) rfl
theorem m_1154 : Jvm.Cond.code yX9_groundedShare prog_1_method_33_code 2 (Option.some Jvm.ClassFile.FieldType.float) ∈ lw_all := lw_c5 (List.mem_of_getElem? (i := 194) rfl) rfl
theorem m_1155 : Jvm.Cond.classLink "Silkloft" 109 "java/lang/ArithmeticException" ∈ lw_all := lw_c5 (List.mem_of_getElem? (i := 195) rfl) rfl
theorem m_1157 : Jvm.Cond.methodLink "Silkloft" 113 ⟨"java/lang/ArithmeticException", "<init>", "(Ljava/lang/String;)V"⟩ ∈ lw_all := lw_c5 (List.mem_of_getElem? (i := 197) rfl) rfl
theorem m_1158 : Jvm.Cond.methodLink "Silkloft" 114 yX5_countGrounded ∈ lw_all := lw_c5 (List.mem_of_getElem? (i := 198) rfl) rfl
theorem m_1159 : Jvm.Cond.instanceMethod yX5_countGrounded ∈ lw_all := lw_c5 (List.mem_of_getElem? (i := 199) rfl) rfl
theorem m_1160 : Jvm.Cond.selects "Silkloft$Loft" yX5_countGrounded yX5_countGrounded ∈ lw_all := lw_c5 (List.mem_of_getElem? (i := 200) rfl) rfl
theorem m_1161 : Jvm.Cond.code yX5_countGrounded prog_7_method_41_code 3 (Option.some Jvm.ClassFile.FieldType.int) ∈ lw_all := lw_c5 (List.mem_of_getElem? (i := 201) rfl) rfl
theorem m_1163 : Jvm.Cond.methodLink "SilkloftLaw" 240 yL_next ∈ lw_all := lw_c5 (List.mem_of_getElem? (i := 203) rfl) rfl
theorem m_1164 : Jvm.Cond.static yL_next ∈ lw_all := lw_c5 (List.mem_of_getElem? (i := 204) rfl) rfl
theorem m_1165 : Jvm.Cond.codeWith yL_next method_31_code 2 (Option.some Jvm.ClassFile.FieldType.int) [(0, 4, 5, 119)] ∈ lw_all := lw_c5 (List.mem_of_getElem? (i := 205) rfl) rfl
theorem m_1166 : Jvm.Cond.classLink "SilkloftLaw" 119 "java/util/NoSuchElementException" ∈ lw_all := lw_c5 (List.mem_of_getElem? (i := 206) rfl) rfl
theorem m_1167 : Jvm.Cond.methodLink "SilkloftLaw" 116 yX9_next ∈ lw_all := lw_c5 (List.mem_of_getElem? (i := 207) rfl) rfl
theorem m_1168 : Jvm.Cond.instanceMethod yX9_next ∈ lw_all := lw_c5 (List.mem_of_getElem? (i := 208) rfl) rfl
theorem m_1169 : Jvm.Cond.selects "Silkloft" yX9_next yX9_next ∈ lw_all := lw_c5 (List.mem_of_getElem? (i := 209) rfl) rfl
theorem m_1170 : Jvm.Cond.code yX9_next prog_1_method_30_code 2 (Option.some Jvm.ClassFile.FieldType.int) ∈ lw_all := lw_c5 (List.mem_of_getElem? (i := 210) rfl) rfl
theorem m_1171 : Jvm.Cond.methodLink "Silkloft" 89 yX5_firstReserveToRepack ∈ lw_all := lw_c5 (List.mem_of_getElem? (i := 211) rfl) rfl
theorem m_1172 : Jvm.Cond.instanceMethod yX5_firstReserveToRepack ∈ lw_all := lw_c5 (List.mem_of_getElem? (i := 212) rfl) rfl
theorem m_1173 : Jvm.Cond.selects "Silkloft$Loft" yX5_firstReserveToRepack yX5_firstReserveToRepack ∈ lw_all := lw_c5 (List.mem_of_getElem? (i := 213) rfl) rfl
theorem m_1174 : Jvm.Cond.code yX5_firstReserveToRepack prog_7_method_39_code 6 (Option.some Jvm.ClassFile.FieldType.int) ∈ lw_all := lw_c5 (List.mem_of_getElem? (i := 214) rfl) rfl
theorem m_1175 : Jvm.Cond.classLink "Silkloft" 93 "java/util/NoSuchElementException" ∈ lw_all := lw_c5 (List.mem_of_getElem? (i := 215) rfl) rfl
theorem m_1176 : Jvm.Cond.instantiable "java/util/NoSuchElementException" 6 ∈ lw_all := lw_c5 (List.mem_of_getElem? (i := 216) rfl) rfl
theorem m_1178 : Jvm.Cond.selects "java/util/NoSuchElementException" ⟨"java/lang/Throwable", "fillInStackTrace", "(I)Ljava/lang/Throwable;"⟩ ⟨"java/lang/Throwable", "fillInStackTrace", "(I)Ljava/lang/Throwable;"⟩ ∈ lw_all := lw_c5 (List.mem_of_getElem? (i := 218) rfl) rfl
theorem m_1179 : Jvm.Cond.lays "java/util/NoSuchElementException" "java/lang/Throwable" "cause" "Ljava/lang/Throwable;" ∈ lw_all := lw_c5 (List.mem_of_getElem? (i := 219) rfl) rfl
theorem m_1180 : Jvm.Cond.lays "java/util/NoSuchElementException" "java/lang/Throwable" "stackTrace" "[Ljava/lang/StackTraceElement;" ∈ lw_all := lw_c5 (List.mem_of_getElem? (i := 220) rfl) rfl
theorem m_1181 : Jvm.Cond.lays "java/util/NoSuchElementException" "java/lang/Throwable" "suppressedExceptions" "Ljava/util/List;" ∈ lw_all := lw_c5 (List.mem_of_getElem? (i := 221) rfl) rfl
theorem m_1182 : Jvm.Cond.lays "java/util/NoSuchElementException" "java/lang/Throwable" "detailMessage" "Ljava/lang/String;" ∈ lw_all := lw_c5 (List.mem_of_getElem? (i := 222) rfl) rfl
theorem m_1183 : Jvm.Cond.lays "java/util/NoSuchElementException" "java/lang/Throwable" "backtrace" "Ljava/lang/Object;" ∈ lw_all := lw_c5 (List.mem_of_getElem? (i := 223) rfl) rfl
theorem m_1185 : Jvm.Cond.methodLink "Silkloft" 97 ⟨"java/util/NoSuchElementException", "<init>", "(Ljava/lang/String;)V"⟩ ∈ lw_all := lw_c5 (List.mem_of_getElem? (i := 225) rfl) rfl
theorem m_1186 : Jvm.Cond.instanceMethod ⟨"java/util/NoSuchElementException", "<init>", "(Ljava/lang/String;)V"⟩ ∈ lw_all := lw_c5 (List.mem_of_getElem? (i := 226) rfl) rfl
theorem m_1187 : Jvm.Cond.code ⟨"java/util/NoSuchElementException", "<init>", "(Ljava/lang/String;)V"⟩ prog_33_method_4_code 2 (Option.none : Option Jvm.ClassFile.FieldType) ∈ lw_all := lw_c5 (List.mem_of_getElem? (i := 227) rfl) rfl
theorem m_1188 : Jvm.Cond.methodLink "java/util/NoSuchElementException" 13 ⟨"java/lang/RuntimeException", "<init>", "(Ljava/lang/String;)V"⟩ ∈ lw_all := lw_c5 (List.mem_of_getElem? (i := 228) rfl) rfl
theorem m_1189 : Jvm.Cond.lays "java/util/NoSuchElementException" "java/lang/Throwable" "depth" "I" ∈ lw_all := lw_c5 (List.mem_of_getElem? (i := 229) rfl) rfl
theorem m_1191 : Jvm.Cond.methodLink "SilkloftLaw" 242 yX9_held ∈ lw_all := lw_c5 (List.mem_of_getElem? (i := 231) rfl) rfl
theorem m_1192 : Jvm.Cond.instanceMethod yX9_held ∈ lw_all := lw_c5 (List.mem_of_getElem? (i := 232) rfl) rfl
theorem m_1193 : Jvm.Cond.selects "Silkloft" yX9_held yX9_held ∈ lw_all := lw_c5 (List.mem_of_getElem? (i := 233) rfl) rfl
theorem m_1194 : Jvm.Cond.code yX9_held prog_1_method_31_code 1 (Option.some Jvm.ClassFile.FieldType.long) ∈ lw_all := lw_c5 (List.mem_of_getElem? (i := 234) rfl) rfl
theorem m_1195 : Jvm.Cond.methodLink "Silkloft" 98 yX5_sumOfDeposits ∈ lw_all := lw_c5 (List.mem_of_getElem? (i := 235) rfl) rfl
theorem m_1196 : Jvm.Cond.instanceMethod yX5_sumOfDeposits ∈ lw_all := lw_c5 (List.mem_of_getElem? (i := 236) rfl) rfl
theorem m_1197 : Jvm.Cond.selects "Silkloft$Loft" yX5_sumOfDeposits yX5_sumOfDeposits ∈ lw_all := lw_c5 (List.mem_of_getElem? (i := 237) rfl) rfl
theorem m_1198 : Jvm.Cond.code yX5_sumOfDeposits prog_7_method_40_code 4 (Option.some Jvm.ClassFile.FieldType.long) ∈ lw_all := lw_c5 (List.mem_of_getElem? (i := 238) rfl) rfl
theorem m_1199 : Jvm.Cond.methodLink "SilkloftLaw" 245 yL_meanDrops ∈ lw_all := lw_c5 (List.mem_of_getElem? (i := 239) rfl) rfl
theorem m_1200 : Jvm.Cond.static yL_meanDrops ∈ lw_all := lw_c6 (List.mem_of_getElem? (i := 0) rfl) rfl
theorem m_1201 : Jvm.Cond.codeWith yL_meanDrops method_33_code 2 (Option.some Jvm.ClassFile.FieldType.double) [(0, 4, 5, 125)] ∈ lw_all := lw_c6 (List.mem_of_getElem? (i := 1) rfl) rfl
theorem m_1202 : Jvm.Cond.methodLink "SilkloftLaw" 128 yX9_meanDrops ∈ lw_all := lw_c6 (List.mem_of_getElem? (i := 2) rfl) rfl
theorem m_1203 : Jvm.Cond.instanceMethod yX9_meanDrops ∈ lw_all := lw_c6 (List.mem_of_getElem? (i := 3) rfl) rfl
theorem m_1204 : Jvm.Cond.selects "Silkloft" yX9_meanDrops yX9_meanDrops ∈ lw_all := lw_c6 (List.mem_of_getElem? (i := 4) rfl) rfl
theorem m_1205 : Jvm.Cond.code yX9_meanDrops prog_1_method_34_code 2 (Option.some Jvm.ClassFile.FieldType.double) ∈ lw_all := lw_c6 (List.mem_of_getElem? (i := 5) rfl) rfl
theorem m_1206 : Jvm.Cond.methodLink "Silkloft" 117 yX5_sumOfGoodDrops ∈ lw_all := lw_c6 (List.mem_of_getElem? (i := 6) rfl) rfl
theorem m_1207 : Jvm.Cond.instanceMethod yX5_sumOfGoodDrops ∈ lw_all := lw_c6 (List.mem_of_getElem? (i := 7) rfl) rfl
theorem m_1208 : Jvm.Cond.selects "Silkloft$Loft" yX5_sumOfGoodDrops yX5_sumOfGoodDrops ∈ lw_all := lw_c6 (List.mem_of_getElem? (i := 8) rfl) rfl
theorem m_1209 : Jvm.Cond.code yX5_sumOfGoodDrops prog_7_method_42_code 3 (Option.some Jvm.ClassFile.FieldType.int) ∈ lw_all := lw_c6 (List.mem_of_getElem? (i := 9) rfl) rfl
theorem m_1211 : Jvm.Cond.methodLink "SilkloftLaw" 163 yL_areFindings ∈ lw_all := lw_c6 (List.mem_of_getElem? (i := 11) rfl) rfl
theorem m_1212 : Jvm.Cond.static yL_areFindings ∈ lw_all := lw_c6 (List.mem_of_getElem? (i := 12) rfl) rfl
theorem m_1213 : Jvm.Cond.code yL_areFindings method_37_code 4 (Option.some Jvm.ClassFile.FieldType.boolean) ∈ lw_all := lw_c6 (List.mem_of_getElem? (i := 13) rfl) rfl
theorem m_1214 : Jvm.Cond.methodLink "SilkloftLaw" 171 yL_isThrown ∈ lw_all := lw_c6 (List.mem_of_getElem? (i := 14) rfl) rfl
theorem m_1215 : Jvm.Cond.static yL_isThrown ∈ lw_all := lw_c6 (List.mem_of_getElem? (i := 15) rfl) rfl
theorem m_1216 : Jvm.Cond.code yL_isThrown method_38_code 8 (Option.some Jvm.ClassFile.FieldType.boolean) ∈ lw_all := lw_c6 (List.mem_of_getElem? (i := 16) rfl) rfl
theorem m_1217 : Jvm.Cond.methodLink "SilkloftLaw" 248 yL_setPeriod ∈ lw_all := lw_c6 (List.mem_of_getElem? (i := 17) rfl) rfl
theorem m_1218 : Jvm.Cond.static yL_setPeriod ∈ lw_all := lw_c6 (List.mem_of_getElem? (i := 18) rfl) rfl
theorem m_1219 : Jvm.Cond.codeWith yL_setPeriod method_6_code 3 (Option.some Jvm.ClassFile.FieldType.int) [(0, 5, 6, 20)] ∈ lw_all := lw_c6 (List.mem_of_getElem? (i := 19) rfl) rfl
theorem m_1220 : Jvm.Cond.methodLink "SilkloftLaw" 28 yX9_setPeriod ∈ lw_all := lw_c6 (List.mem_of_getElem? (i := 20) rfl) rfl
theorem m_1221 : Jvm.Cond.instanceMethod yX9_setPeriod ∈ lw_all := lw_c6 (List.mem_of_getElem? (i := 21) rfl) rfl
theorem m_1222 : Jvm.Cond.selects "Silkloft" yX9_setPeriod yX9_setPeriod ∈ lw_all := lw_c6 (List.mem_of_getElem? (i := 22) rfl) rfl
theorem m_1223 : Jvm.Cond.code yX9_setPeriod prog_1_method_5_code 2 (Option.some Jvm.ClassFile.FieldType.int) ∈ lw_all := lw_c6 (List.mem_of_getElem? (i := 23) rfl) rfl
theorem m_1224 : Jvm.Cond.arrayClass Jvm.ClassFile.FieldType.long ∈ lw_all := lw_c6 (List.mem_of_getElem? (i := 24) rfl) rfl
theorem m_1245 : Jvm.Cond.fieldLink "java/lang/String" 15 "java/lang/String" "coder" "B" ∈ lw_all := lw_c6 (List.mem_of_getElem? (i := 45) rfl) rfl
theorem m_1246 : Jvm.Cond.fieldLink "java/lang/String" 9 "java/lang/String" "value" "[B" ∈ lw_all := lw_c6 (List.mem_of_getElem? (i := 46) rfl) rfl
theorem s_0 : Jvm.Cond.selects RX5 yX5_daysLeft yX5_daysLeft ∈ lw_all := lw_sel (List.mem_of_getElem? (l := lw_privs) (i := 0) rfl)
theorem s_1 : Jvm.Cond.selects RX5 yX5_isReachedBy yX5_isReachedBy ∈ lw_all := lw_sel (List.mem_of_getElem? (l := lw_privs) (i := 1) rfl)
theorem s_2 : Jvm.Cond.selects RX5 yX5_isFreeOf yX5_isFreeOf ∈ lw_all := lw_sel (List.mem_of_getElem? (l := lw_privs) (i := 2) rfl)
theorem s_3 : Jvm.Cond.selects RX5 yX5_enrol yX5_enrol ∈ lw_all := lw_sel (List.mem_of_getElem? (l := lw_privs) (i := 3) rfl)
theorem s_4 : Jvm.Cond.selects RX5 yX5_relicense yX5_relicense ∈ lw_all := lw_sel (List.mem_of_getElem? (l := lw_privs) (i := 4) rfl)
theorem s_5 : Jvm.Cond.selects RX5 yX5_enter yX5_enter ∈ lw_all := lw_sel (List.mem_of_getElem? (l := lw_privs) (i := 5) rfl)
theorem s_6 : Jvm.Cond.selects RX5 yX5_changePeriod yX5_changePeriod ∈ lw_all := lw_sel (List.mem_of_getElem? (l := lw_privs) (i := 6) rfl)
theorem s_7 : Jvm.Cond.selects RX5 yX5_letDaysPass yX5_letDaysPass ∈ lw_all := lw_sel (List.mem_of_getElem? (l := lw_privs) (i := 7) rfl)
theorem s_8 : Jvm.Cond.selects RX5 yX5_putOnHook yX5_putOnHook ∈ lw_all := lw_sel (List.mem_of_getElem? (l := lw_privs) (i := 8) rfl)
theorem s_9 : Jvm.Cond.selects RX5 yX5_doStep yX5_doStep ∈ lw_all := lw_sel (List.mem_of_getElem? (l := lw_privs) (i := 9) rfl)
theorem s_10 : Jvm.Cond.selects RX5 yX5_endPacking yX5_endPacking ∈ lw_all := lw_sel (List.mem_of_getElem? (l := lw_privs) (i := 10) rfl)
theorem s_11 : Jvm.Cond.selects RX5 yX5_takeOffHook yX5_takeOffHook ∈ lw_all := lw_sel (List.mem_of_getElem? (l := lw_privs) (i := 11) rfl)
theorem s_12 : Jvm.Cond.selects RX5 yX5_beginLoad yX5_beginLoad ∈ lw_all := lw_sel (List.mem_of_getElem? (l := lw_privs) (i := 12) rfl)
theorem s_13 : Jvm.Cond.selects RX5 yX5_putAboard yX5_putAboard ∈ lw_all := lw_sel (List.mem_of_getElem? (l := lw_privs) (i := 13) rfl)
theorem s_14 : Jvm.Cond.selects RX5 yX5_takeLastOff yX5_takeLastOff ∈ lw_all := lw_sel (List.mem_of_getElem? (l := lw_privs) (i := 14) rfl)
theorem s_15 : Jvm.Cond.selects RX5 yX5_letJump yX5_letJump ∈ lw_all := lw_sel (List.mem_of_getElem? (l := lw_privs) (i := 15) rfl)
theorem s_16 : Jvm.Cond.selects RX5 yX5_noteFinding yX5_noteFinding ∈ lw_all := lw_sel (List.mem_of_getElem? (l := lw_privs) (i := 16) rfl)
theorem s_17 : Jvm.Cond.selects RX5 yX5_raiseLevel yX5_raiseLevel ∈ lw_all := lw_sel (List.mem_of_getElem? (l := lw_privs) (i := 17) rfl)
theorem s_18 : Jvm.Cond.selects RX5 yX5_noteCause yX5_noteCause ∈ lw_all := lw_sel (List.mem_of_getElem? (l := lw_privs) (i := 18) rfl)
theorem s_19 : Jvm.Cond.selects RX5 yX5_shut yX5_shut ∈ lw_all := lw_sel (List.mem_of_getElem? (l := lw_privs) (i := 19) rfl)
theorem s_20 : Jvm.Cond.selects RX5 yX5_mend yX5_mend ∈ lw_all := lw_sel (List.mem_of_getElem? (l := lw_privs) (i := 20) rfl)
theorem s_21 : Jvm.Cond.selects RX5 yX5_tryOut yX5_tryOut ∈ lw_all := lw_sel (List.mem_of_getElem? (l := lw_privs) (i := 21) rfl)
theorem s_22 : Jvm.Cond.selects RX5 yX5_noteFindingIfRoom yX5_noteFindingIfRoom ∈ lw_all := lw_sel (List.mem_of_getElem? (l := lw_privs) (i := 22) rfl)
theorem s_23 : Jvm.Cond.selects RX5 yX5_handOut yX5_handOut ∈ lw_all := lw_sel (List.mem_of_getElem? (l := lw_privs) (i := 23) rfl)
theorem s_24 : Jvm.Cond.selects RX5 yX5_takeIn yX5_takeIn ∈ lw_all := lw_sel (List.mem_of_getElem? (l := lw_privs) (i := 24) rfl)
theorem s_25 : Jvm.Cond.selects RX5 yX5_hasRiggersLike yX5_hasRiggersLike ∈ lw_all := lw_sel (List.mem_of_getElem? (l := lw_privs) (i := 25) rfl)
theorem s_26 : Jvm.Cond.selects RX5 yX5_hasCanopiesLike yX5_hasCanopiesLike ∈ lw_all := lw_sel (List.mem_of_getElem? (l := lw_privs) (i := 26) rfl)
theorem s_27 : Jvm.Cond.selects RX1 yX1_isMadeLike yX1_isMadeLike ∈ lw_all := lw_sel (List.mem_of_getElem? (l := lw_privs) (i := 27) rfl)
theorem s_28 : Jvm.Cond.selects RX1 yX1_isPackedLike yX1_isPackedLike ∈ lw_all := lw_sel (List.mem_of_getElem? (l := lw_privs) (i := 28) rfl)
theorem s_29 : Jvm.Cond.selects RX1 yX1_isTriedLike yX1_isTriedLike ∈ lw_all := lw_sel (List.mem_of_getElem? (l := lw_privs) (i := 29) rfl)
theorem s_30 : Jvm.Cond.selects RX5 yX5_hasLoadsLike yX5_hasLoadsLike ∈ lw_all := lw_sel (List.mem_of_getElem? (l := lw_privs) (i := 30) rfl)
theorem s_31 : Jvm.Cond.selects RX5 yX5_hasFindingsLike yX5_hasFindingsLike ∈ lw_all := lw_sel (List.mem_of_getElem? (l := lw_privs) (i := 31) rfl)
theorem s_32 : Jvm.Cond.selects RX9 yX9_act yX9_act ∈ lw_all := lw_sel (List.mem_of_getElem? (l := lw_privs) (i := 32) rfl)
theorem s_33 : Jvm.Cond.selects "java/lang/Throwable" ⟨"java/lang/Throwable", "fillInStackTrace", "(I)Ljava/lang/Throwable;"⟩ ⟨"java/lang/Throwable", "fillInStackTrace", "(I)Ljava/lang/Throwable;"⟩ ∈ lw_all := lw_sel (List.mem_of_getElem? (l := lw_privs) (i := 33) rfl)
theorem s_34 : Jvm.Cond.selects RX9 yX9_canopyAt yX9_canopyAt ∈ lw_all := lw_sel (List.mem_of_getElem? (l := lw_privs) (i := 34) rfl)
theorem s_35 : Jvm.Cond.selects RX0 yX0_numberOf yX0_numberOf ∈ lw_all := lw_sel (List.mem_of_getElem? (l := lw_privs) (i := 35) rfl)
