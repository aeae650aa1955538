-- ===== PART A: goes FIRST, ahead of the names: the tables' words, and 'selects' of the private methods out of them =====
/-- a private method of a class that the tables say can be made, by its rows of tables_1 -/
def lw_okq (q : MethodName × Nat) : Prop := (q.1.cls ≠ "java/lang/invoke/MethodHandle" ∧ q.1.cls ≠ "java/lang/invoke/VarHandle") ∧ Cond.instantiable q.1.cls q.2 ∈ tables_1 ∧ Cond.privateMethod q.1 ∈ tables_1 ∧ Cond.instanceMethod q.1 ∈ tables_1
theorem lw_p0 : lw_okq (⟨"Silkloft$Loft", "daysLeft", "(LSilkloft$Canopy;)I"⟩, 13) := ⟨⟨by decide +kernel, by decide +kernel⟩, List.mem_of_getElem? (i := 34) (by decide +kernel), List.mem_of_getElem? (i := 414) (by decide +kernel), List.mem_of_getElem? (i := 415) (by decide +kernel)⟩
theorem lw_p1 : lw_okq (⟨"Silkloft$Loft", "isReachedBy", "(LSilkloft$Finding;I)Z"⟩, 13) := ⟨⟨by decide +kernel, by decide +kernel⟩, List.mem_of_getElem? (i := 34) (by decide +kernel), List.mem_of_getElem? (i := 426) (by decide +kernel), List.mem_of_getElem? (i := 427) (by decide +kernel)⟩
theorem lw_p2 : lw_okq (⟨"Silkloft$Loft", "isFreeOf", "(LSilkloft$Finding;I)Z"⟩, 13) := ⟨⟨by decide +kernel, by decide +kernel⟩, List.mem_of_getElem? (i := 34) (by decide +kernel), List.mem_of_getElem? (i := 438) (by decide +kernel), List.mem_of_getElem? (i := 439) (by decide +kernel)⟩
theorem lw_p3 : lw_okq (⟨"Silkloft$Loft", "enrol", "(II)I"⟩, 13) := ⟨⟨by decide +kernel, by decide +kernel⟩, List.mem_of_getElem? (i := 34) (by decide +kernel), List.mem_of_getElem? (i := 472) (by decide +kernel), List.mem_of_getElem? (i := 473) (by decide +kernel)⟩
theorem lw_p4 : lw_okq (⟨"Silkloft$Loft", "relicense", "(III)I"⟩, 13) := ⟨⟨by decide +kernel, by decide +kernel⟩, List.mem_of_getElem? (i := 34) (by decide +kernel), List.mem_of_getElem? (i := 480) (by decide +kernel), List.mem_of_getElem? (i := 481) (by decide +kernel)⟩
theorem lw_p5 : lw_okq (⟨"Silkloft$Loft", "enter", "(CIII)I"⟩, 13) := ⟨⟨by decide +kernel, by decide +kernel⟩, List.mem_of_getElem? (i := 34) (by decide +kernel), List.mem_of_getElem? (i := 484) (by decide +kernel), List.mem_of_getElem? (i := 485) (by decide +kernel)⟩
theorem lw_p6 : lw_okq (⟨"Silkloft$Loft", "changePeriod", "(I)I"⟩, 13) := ⟨⟨by decide +kernel, by decide +kernel⟩, List.mem_of_getElem? (i := 34) (by decide +kernel), List.mem_of_getElem? (i := 492) (by decide +kernel), List.mem_of_getElem? (i := 493) (by decide +kernel)⟩
theorem lw_p7 : lw_okq (⟨"Silkloft$Loft", "letDaysPass", "(I)I"⟩, 13) := ⟨⟨by decide +kernel, by decide +kernel⟩, List.mem_of_getElem? (i := 34) (by decide +kernel), List.mem_of_getElem? (i := 496) (by decide +kernel), List.mem_of_getElem? (i := 497) (by decide +kernel)⟩
theorem lw_p8 : lw_okq (⟨"Silkloft$Loft", "putOnHook", "(II)I"⟩, 13) := ⟨⟨by decide +kernel, by decide +kernel⟩, List.mem_of_getElem? (i := 34) (by decide +kernel), List.mem_of_getElem? (i := 500) (by decide +kernel), List.mem_of_getElem? (i := 501) (by decide +kernel)⟩
theorem lw_p9 : lw_okq (⟨"Silkloft$Loft", "doStep", "(II)I"⟩, 13) := ⟨⟨by decide +kernel, by decide +kernel⟩, List.mem_of_getElem? (i := 34) (by decide +kernel), List.mem_of_getElem? (i := 504) (by decide +kernel), List.mem_of_getElem? (i := 505) (by decide +kernel)⟩
theorem lw_p10 : lw_okq (⟨"Silkloft$Loft", "endPacking", "(I)V"⟩, 13) := ⟨⟨by decide +kernel, by decide +kernel⟩, List.mem_of_getElem? (i := 34) (by decide +kernel), List.mem_of_getElem? (i := 508) (by decide +kernel), List.mem_of_getElem? (i := 509) (by decide +kernel)⟩
theorem lw_p11 : lw_okq (⟨"Silkloft$Loft", "takeOffHook", "(LSilkloft$Canopy;)I"⟩, 13) := ⟨⟨by decide +kernel, by decide +kernel⟩, List.mem_of_getElem? (i := 34) (by decide +kernel), List.mem_of_getElem? (i := 516) (by decide +kernel), List.mem_of_getElem? (i := 517) (by decide +kernel)⟩
theorem lw_p12 : lw_okq (⟨"Silkloft$Loft", "beginLoad", "()I"⟩, 13) := ⟨⟨by decide +kernel, by decide +kernel⟩, List.mem_of_getElem? (i := 34) (by decide +kernel), List.mem_of_getElem? (i := 520) (by decide +kernel), List.mem_of_getElem? (i := 521) (by decide +kernel)⟩
theorem lw_p13 : lw_okq (⟨"Silkloft$Loft", "putAboard", "(LSilkloft$Load;II)I"⟩, 13) := ⟨⟨by decide +kernel, by decide +kernel⟩, List.mem_of_getElem? (i := 34) (by decide +kernel), List.mem_of_getElem? (i := 528) (by decide +kernel), List.mem_of_getElem? (i := 529) (by decide +kernel)⟩
theorem lw_p14 : lw_okq (⟨"Silkloft$Loft", "takeLastOff", "(LSilkloft$Load;)I"⟩, 13) := ⟨⟨by decide +kernel, by decide +kernel⟩, List.mem_of_getElem? (i := 34) (by decide +kernel), List.mem_of_getElem? (i := 532) (by decide +kernel), List.mem_of_getElem? (i := 533) (by decide +kernel)⟩
theorem lw_p15 : lw_okq (⟨"Silkloft$Loft", "letJump", "(LSilkloft$Load;I)I"⟩, 13) := ⟨⟨by decide +kernel, by decide +kernel⟩, List.mem_of_getElem? (i := 34) (by decide +kernel), List.mem_of_getElem? (i := 536) (by decide +kernel), List.mem_of_getElem? (i := 537) (by decide +kernel)⟩
def lw_privs_1 : List (MethodName × Nat) := [(⟨"Silkloft$Loft", "daysLeft", "(LSilkloft$Canopy;)I"⟩, 13), (⟨"Silkloft$Loft", "isReachedBy", "(LSilkloft$Finding;I)Z"⟩, 13), (⟨"Silkloft$Loft", "isFreeOf", "(LSilkloft$Finding;I)Z"⟩, 13), (⟨"Silkloft$Loft", "enrol", "(II)I"⟩, 13), (⟨"Silkloft$Loft", "relicense", "(III)I"⟩, 13), (⟨"Silkloft$Loft", "enter", "(CIII)I"⟩, 13), (⟨"Silkloft$Loft", "changePeriod", "(I)I"⟩, 13), (⟨"Silkloft$Loft", "letDaysPass", "(I)I"⟩, 13), (⟨"Silkloft$Loft", "putOnHook", "(II)I"⟩, 13), (⟨"Silkloft$Loft", "doStep", "(II)I"⟩, 13), (⟨"Silkloft$Loft", "endPacking", "(I)V"⟩, 13), (⟨"Silkloft$Loft", "takeOffHook", "(LSilkloft$Canopy;)I"⟩, 13), (⟨"Silkloft$Loft", "beginLoad", "()I"⟩, 13), (⟨"Silkloft$Loft", "putAboard", "(LSilkloft$Load;II)I"⟩, 13), (⟨"Silkloft$Loft", "takeLastOff", "(LSilkloft$Load;)I"⟩, 13), (⟨"Silkloft$Loft", "letJump", "(LSilkloft$Load;I)I"⟩, 13)]
theorem lw_r1 : ∀ q ∈ lw_privs_1, lw_okq q := List.forall_mem_cons.mpr ⟨lw_p0, List.forall_mem_cons.mpr ⟨lw_p1, List.forall_mem_cons.mpr ⟨lw_p2, List.forall_mem_cons.mpr ⟨lw_p3, List.forall_mem_cons.mpr ⟨lw_p4, List.forall_mem_cons.mpr ⟨lw_p5, List.forall_mem_cons.mpr ⟨lw_p6, List.forall_mem_cons.mpr ⟨lw_p7, List.forall_mem_cons.mpr ⟨lw_p8, List.forall_mem_cons.mpr ⟨lw_p9, List.forall_mem_cons.mpr ⟨lw_p10, List.forall_mem_cons.mpr ⟨lw_p11, List.forall_mem_cons.mpr ⟨lw_p12, List.forall_mem_cons.mpr ⟨lw_p13, List.forall_mem_cons.mpr ⟨lw_p14, List.forall_mem_cons.mpr ⟨lw_p15, fun _ h => absurd h List.not_mem_nil⟩⟩⟩⟩⟩⟩⟩⟩⟩⟩⟩⟩⟩⟩⟩⟩
theorem lw_p16 : lw_okq (⟨"Silkloft$Loft", "noteFinding", "(I)I"⟩, 13) := ⟨⟨by decide +kernel, by decide +kernel⟩, List.mem_of_getElem? (i := 34) (by decide +kernel), List.mem_of_getElem? (i := 544) (by decide +kernel), List.mem_of_getElem? (i := 545) (by decide +kernel)⟩
theorem lw_p17 : lw_okq (⟨"Silkloft$Loft", "raiseLevel", "(LSilkloft$Finding;)I"⟩, 13) := ⟨⟨by decide +kernel, by decide +kernel⟩, List.mem_of_getElem? (i := 34) (by decide +kernel), List.mem_of_getElem? (i := 552) (by decide +kernel), List.mem_of_getElem? (i := 553) (by decide +kernel)⟩
theorem lw_p18 : lw_okq (⟨"Silkloft$Loft", "noteCause", "(LSilkloft$Finding;C)I"⟩, 13) := ⟨⟨by decide +kernel, by decide +kernel⟩, List.mem_of_getElem? (i := 34) (by decide +kernel), List.mem_of_getElem? (i := 556) (by decide +kernel), List.mem_of_getElem? (i := 557) (by decide +kernel)⟩
theorem lw_p19 : lw_okq (⟨"Silkloft$Loft", "shut", "(LSilkloft$Finding;)I"⟩, 13) := ⟨⟨by decide +kernel, by decide +kernel⟩, List.mem_of_getElem? (i := 34) (by decide +kernel), List.mem_of_getElem? (i := 560) (by decide +kernel), List.mem_of_getElem? (i := 561) (by decide +kernel)⟩
theorem lw_p20 : lw_okq (⟨"Silkloft$Loft", "mend", "(I)I"⟩, 13) := ⟨⟨by decide +kernel, by decide +kernel⟩, List.mem_of_getElem? (i := 34) (by decide +kernel), List.mem_of_getElem? (i := 564) (by decide +kernel), List.mem_of_getElem? (i := 565) (by decide +kernel)⟩
theorem lw_p21 : lw_okq (⟨"Silkloft$Loft", "tryOut", "(IZ)I"⟩, 13) := ⟨⟨by decide +kernel, by decide +kernel⟩, List.mem_of_getElem? (i := 34) (by decide +kernel), List.mem_of_getElem? (i := 568) (by decide +kernel), List.mem_of_getElem? (i := 569) (by decide +kernel)⟩
theorem lw_p22 : lw_okq (⟨"Silkloft$Loft", "noteFindingIfRoom", "(I)V"⟩, 13) := ⟨⟨by decide +kernel, by decide +kernel⟩, List.mem_of_getElem? (i := 34) (by decide +kernel), List.mem_of_getElem? (i := 576) (by decide +kernel), List.mem_of_getElem? (i := 577) (by decide +kernel)⟩
theorem lw_p23 : lw_okq (⟨"Silkloft$Loft", "handOut", "(LSilkloft$Canopy;II)I"⟩, 13) := ⟨⟨by decide +kernel, by decide +kernel⟩, List.mem_of_getElem? (i := 34) (by decide +kernel), List.mem_of_getElem? (i := 580) (by decide +kernel), List.mem_of_getElem? (i := 581) (by decide +kernel)⟩
theorem lw_p24 : lw_okq (⟨"Silkloft$Loft", "takeIn", "(IZZ)I"⟩, 13) := ⟨⟨by decide +kernel, by decide +kernel⟩, List.mem_of_getElem? (i := 34) (by decide +kernel), List.mem_of_getElem? (i := 584) (by decide +kernel), List.mem_of_getElem? (i := 585) (by decide +kernel)⟩
theorem lw_p25 : lw_okq (⟨"Silkloft$Loft", "hasRiggersLike", "(LSilkloft$Loft;)Z"⟩, 13) := ⟨⟨by decide +kernel, by decide +kernel⟩, List.mem_of_getElem? (i := 34) (by decide +kernel), List.mem_of_getElem? (i := 595) (by decide +kernel), List.mem_of_getElem? (i := 596) (by decide +kernel)⟩
theorem lw_p26 : lw_okq (⟨"Silkloft$Loft", "hasCanopiesLike", "(LSilkloft$Loft;)Z"⟩, 13) := ⟨⟨by decide +kernel, by decide +kernel⟩, List.mem_of_getElem? (i := 34) (by decide +kernel), List.mem_of_getElem? (i := 603) (by decide +kernel), List.mem_of_getElem? (i := 604) (by decide +kernel)⟩
theorem lw_p27 : lw_okq (⟨"Silkloft$Canopy", "isMadeLike", "(LSilkloft$Canopy;)Z"⟩, 20) := ⟨⟨by decide +kernel, by decide +kernel⟩, List.mem_of_getElem? (i := 86) (by decide +kernel), List.mem_of_getElem? (i := 611) (by decide +kernel), List.mem_of_getElem? (i := 612) (by decide +kernel)⟩
theorem lw_p28 : lw_okq (⟨"Silkloft$Canopy", "isPackedLike", "(LSilkloft$Canopy;)Z"⟩, 20) := ⟨⟨by decide +kernel, by decide +kernel⟩, List.mem_of_getElem? (i := 86) (by decide +kernel), List.mem_of_getElem? (i := 615) (by decide +kernel), List.mem_of_getElem? (i := 616) (by decide +kernel)⟩
theorem lw_p29 : lw_okq (⟨"Silkloft$Canopy", "isTriedLike", "(LSilkloft$Canopy;)Z"⟩, 20) := ⟨⟨by decide +kernel, by decide +kernel⟩, List.mem_of_getElem? (i := 86) (by decide +kernel), List.mem_of_getElem? (i := 619) (by decide +kernel), List.mem_of_getElem? (i := 620) (by decide +kernel)⟩
theorem lw_p30 : lw_okq (⟨"Silkloft$Loft", "hasLoadsLike", "(LSilkloft$Loft;)Z"⟩, 13) := ⟨⟨by decide +kernel, by decide +kernel⟩, List.mem_of_getElem? (i := 34) (by decide +kernel), List.mem_of_getElem? (i := 623) (by decide +kernel), List.mem_of_getElem? (i := 624) (by decide +kernel)⟩
theorem lw_p31 : lw_okq (⟨"Silkloft$Loft", "hasFindingsLike", "(LSilkloft$Loft;)Z"⟩, 13) := ⟨⟨by decide +kernel, by decide +kernel⟩, List.mem_of_getElem? (i := 34) (by decide +kernel), List.mem_of_getElem? (i := 631) (by decide +kernel), List.mem_of_getElem? (i := 632) (by decide +kernel)⟩
def lw_privs_2 : List (MethodName × Nat) := [(⟨"Silkloft$Loft", "noteFinding", "(I)I"⟩, 13), (⟨"Silkloft$Loft", "raiseLevel", "(LSilkloft$Finding;)I"⟩, 13), (⟨"Silkloft$Loft", "noteCause", "(LSilkloft$Finding;C)I"⟩, 13), (⟨"Silkloft$Loft", "shut", "(LSilkloft$Finding;)I"⟩, 13), (⟨"Silkloft$Loft", "mend", "(I)I"⟩, 13), (⟨"Silkloft$Loft", "tryOut", "(IZ)I"⟩, 13), (⟨"Silkloft$Loft", "noteFindingIfRoom", "(I)V"⟩, 13), (⟨"Silkloft$Loft", "handOut", "(LSilkloft$Canopy;II)I"⟩, 13), (⟨"Silkloft$Loft", "takeIn", "(IZZ)I"⟩, 13), (⟨"Silkloft$Loft", "hasRiggersLike", "(LSilkloft$Loft;)Z"⟩, 13), (⟨"Silkloft$Loft", "hasCanopiesLike", "(LSilkloft$Loft;)Z"⟩, 13), (⟨"Silkloft$Canopy", "isMadeLike", "(LSilkloft$Canopy;)Z"⟩, 20), (⟨"Silkloft$Canopy", "isPackedLike", "(LSilkloft$Canopy;)Z"⟩, 20), (⟨"Silkloft$Canopy", "isTriedLike", "(LSilkloft$Canopy;)Z"⟩, 20), (⟨"Silkloft$Loft", "hasLoadsLike", "(LSilkloft$Loft;)Z"⟩, 13), (⟨"Silkloft$Loft", "hasFindingsLike", "(LSilkloft$Loft;)Z"⟩, 13)]
theorem lw_r2 : ∀ q ∈ lw_privs_2, lw_okq q := List.forall_mem_cons.mpr ⟨lw_p16, List.forall_mem_cons.mpr ⟨lw_p17, List.forall_mem_cons.mpr ⟨lw_p18, List.forall_mem_cons.mpr ⟨lw_p19, List.forall_mem_cons.mpr ⟨lw_p20, List.forall_mem_cons.mpr ⟨lw_p21, List.forall_mem_cons.mpr ⟨lw_p22, List.forall_mem_cons.mpr ⟨lw_p23, List.forall_mem_cons.mpr ⟨lw_p24, List.forall_mem_cons.mpr ⟨lw_p25, List.forall_mem_cons.mpr ⟨lw_p26, List.forall_mem_cons.mpr ⟨lw_p27, List.forall_mem_cons.mpr ⟨lw_p28, List.forall_mem_cons.mpr ⟨lw_p29, List.forall_mem_cons.mpr ⟨lw_p30, List.forall_mem_cons.mpr ⟨lw_p31, fun _ h => absurd h List.not_mem_nil⟩⟩⟩⟩⟩⟩⟩⟩⟩⟩⟩⟩⟩⟩⟩⟩
theorem lw_p32 : lw_okq (⟨"Silkloft", "act", "(IIIII)I"⟩, 3) := ⟨⟨by decide +kernel, by decide +kernel⟩, List.mem_of_getElem? (i := 26) (by decide +kernel), List.mem_of_getElem? (i := 652) (by decide +kernel), List.mem_of_getElem? (i := 653) (by decide +kernel)⟩
theorem lw_p33 : lw_okq (⟨"java/lang/Throwable", "fillInStackTrace", "(I)Ljava/lang/Throwable;"⟩, 6) := ⟨⟨by decide +kernel, by decide +kernel⟩, List.mem_of_getElem? (i := 703) (by decide +kernel), List.mem_of_getElem? (i := 701) (by decide +kernel), List.mem_of_getElem? (i := 702) (by decide +kernel)⟩
theorem lw_p34 : lw_okq (⟨"Silkloft", "canopyAt", "(I)LSilkloft$Canopy;"⟩, 3) := ⟨⟨by decide +kernel, by decide +kernel⟩, List.mem_of_getElem? (i := 26) (by decide +kernel), List.mem_of_getElem? (i := 969) (by decide +kernel), List.mem_of_getElem? (i := 970) (by decide +kernel)⟩
theorem lw_p35 : lw_okq (⟨"Silkloft$Book", "numberOf", "(II)I"⟩, 5) := ⟨⟨by decide +kernel, by decide +kernel⟩, List.mem_of_getElem? (i := 48) (by decide +kernel), List.mem_of_getElem? (i := 1011) (by decide +kernel), List.mem_of_getElem? (i := 1012) (by decide +kernel)⟩
theorem lw_p36 : lw_okq (⟨"SilkloftModel", "fails", "(I)I"⟩, 48) := ⟨⟨by decide +kernel, by decide +kernel⟩, List.mem_of_getElem? (i := 1101) (by decide +kernel), List.mem_of_getElem? (i := 1263) (by decide +kernel), List.mem_of_getElem? (i := 1264) (by decide +kernel)⟩
theorem lw_p37 : lw_okq (⟨"SilkloftModel", "tell", "(I)I"⟩, 48) := ⟨⟨by decide +kernel, by decide +kernel⟩, List.mem_of_getElem? (i := 1101) (by decide +kernel), List.mem_of_getElem? (i := 1267) (by decide +kernel), List.mem_of_getElem? (i := 1268) (by decide +kernel)⟩
theorem lw_p38 : lw_okq (⟨"SilkloftModel", "isRigger", "(I)Z"⟩, 48) := ⟨⟨by decide +kernel, by decide +kernel⟩, List.mem_of_getElem? (i := 1101) (by decide +kernel), List.mem_of_getElem? (i := 1275) (by decide +kernel), List.mem_of_getElem? (i := 1276) (by decide +kernel)⟩
theorem lw_p39 : lw_okq (⟨"SilkloftModel", "isCanopy", "(I)Z"⟩, 48) := ⟨⟨by decide +kernel, by decide +kernel⟩, List.mem_of_getElem? (i := 1101) (by decide +kernel), List.mem_of_getElem? (i := 1295) (by decide +kernel), List.mem_of_getElem? (i := 1296) (by decide +kernel)⟩
theorem lw_p40 : lw_okq (⟨"SilkloftModel", "isUsed", "(I)Z"⟩, 48) := ⟨⟨by decide +kernel, by decide +kernel⟩, List.mem_of_getElem? (i := 1101) (by decide +kernel), List.mem_of_getElem? (i := 1299) (by decide +kernel), List.mem_of_getElem? (i := 1300) (by decide +kernel)⟩
theorem lw_p41 : lw_okq (⟨"SilkloftModel", "hooksUsed", "()I"⟩, 48) := ⟨⟨by decide +kernel, by decide +kernel⟩, List.mem_of_getElem? (i := 1101) (by decide +kernel), List.mem_of_getElem? (i := 1303) (by decide +kernel), List.mem_of_getElem? (i := 1304) (by decide +kernel)⟩
theorem lw_p42 : lw_okq (⟨"SilkloftModel", "may", "(II)Z"⟩, 48) := ⟨⟨by decide +kernel, by decide +kernel⟩, List.mem_of_getElem? (i := 1101) (by decide +kernel), List.mem_of_getElem? (i := 1311) (by decide +kernel), List.mem_of_getElem? (i := 1312) (by decide +kernel)⟩
theorem lw_p43 : lw_okq (⟨"SilkloftModel", "finishes", "(I)V"⟩, 48) := ⟨⟨by decide +kernel, by decide +kernel⟩, List.mem_of_getElem? (i := 1101) (by decide +kernel), List.mem_of_getElem? (i := 1315) (by decide +kernel), List.mem_of_getElem? (i := 1316) (by decide +kernel)⟩
theorem lw_p44 : lw_okq (⟨"SilkloftModel", "finds", "(I)V"⟩, 48) := ⟨⟨by decide +kernel, by decide +kernel⟩, List.mem_of_getElem? (i := 1101) (by decide +kernel), List.mem_of_getElem? (i := 1327) (by decide +kernel), List.mem_of_getElem? (i := 1328) (by decide +kernel)⟩
theorem lw_p45 : lw_okq (⟨"SilkloftModel", "isFinding", "(I)Z"⟩, 48) := ⟨⟨by decide +kernel, by decide +kernel⟩, List.mem_of_getElem? (i := 1101) (by decide +kernel), List.mem_of_getElem? (i := 1335) (by decide +kernel), List.mem_of_getElem? (i := 1336) (by decide +kernel)⟩
theorem lw_p46 : lw_okq (⟨"SilkloftModel", "refuses", "(I)Z"⟩, 48) := ⟨⟨by decide +kernel, by decide +kernel⟩, List.mem_of_getElem? (i := 1101) (by decide +kernel), List.mem_of_getElem? (i := 1347) (by decide +kernel), List.mem_of_getElem? (i := 1348) (by decide +kernel)⟩
theorem lw_p47 : lw_okq (⟨"SilkloftModel", "tells", "(Z)Z"⟩, 48) := ⟨⟨by decide +kernel, by decide +kernel⟩, List.mem_of_getElem? (i := 1101) (by decide +kernel), List.mem_of_getElem? (i := 1351) (by decide +kernel), List.mem_of_getElem? (i := 1352) (by decide +kernel)⟩
def lw_privs_3 : List (MethodName × Nat) := [(⟨"Silkloft", "act", "(IIIII)I"⟩, 3), (⟨"java/lang/Throwable", "fillInStackTrace", "(I)Ljava/lang/Throwable;"⟩, 6), (⟨"Silkloft", "canopyAt", "(I)LSilkloft$Canopy;"⟩, 3), (⟨"Silkloft$Book", "numberOf", "(II)I"⟩, 5), (⟨"SilkloftModel", "fails", "(I)I"⟩, 48), (⟨"SilkloftModel", "tell", "(I)I"⟩, 48), (⟨"SilkloftModel", "isRigger", "(I)Z"⟩, 48), (⟨"SilkloftModel", "isCanopy", "(I)Z"⟩, 48), (⟨"SilkloftModel", "isUsed", "(I)Z"⟩, 48), (⟨"SilkloftModel", "hooksUsed", "()I"⟩, 48), (⟨"SilkloftModel", "may", "(II)Z"⟩, 48), (⟨"SilkloftModel", "finishes", "(I)V"⟩, 48), (⟨"SilkloftModel", "finds", "(I)V"⟩, 48), (⟨"SilkloftModel", "isFinding", "(I)Z"⟩, 48), (⟨"SilkloftModel", "refuses", "(I)Z"⟩, 48), (⟨"SilkloftModel", "tells", "(Z)Z"⟩, 48)]
theorem lw_r3 : ∀ q ∈ lw_privs_3, lw_okq q := List.forall_mem_cons.mpr ⟨lw_p32, List.forall_mem_cons.mpr ⟨lw_p33, List.forall_mem_cons.mpr ⟨lw_p34, List.forall_mem_cons.mpr ⟨lw_p35, List.forall_mem_cons.mpr ⟨lw_p36, List.forall_mem_cons.mpr ⟨lw_p37, List.forall_mem_cons.mpr ⟨lw_p38, List.forall_mem_cons.mpr ⟨lw_p39, List.forall_mem_cons.mpr ⟨lw_p40, List.forall_mem_cons.mpr ⟨lw_p41, List.forall_mem_cons.mpr ⟨lw_p42, List.forall_mem_cons.mpr ⟨lw_p43, List.forall_mem_cons.mpr ⟨lw_p44, List.forall_mem_cons.mpr ⟨lw_p45, List.forall_mem_cons.mpr ⟨lw_p46, List.forall_mem_cons.mpr ⟨lw_p47, fun _ h => absurd h List.not_mem_nil⟩⟩⟩⟩⟩⟩⟩⟩⟩⟩⟩⟩⟩⟩⟩⟩
theorem lw_p48 : lw_okq (⟨"SilkloftModel", "reaches", "(II)Z"⟩, 48) := ⟨⟨by decide +kernel, by decide +kernel⟩, List.mem_of_getElem? (i := 1101) (by decide +kernel), List.mem_of_getElem? (i := 1359) (by decide +kernel), List.mem_of_getElem? (i := 1360) (by decide +kernel)⟩
theorem lw_p49 : lw_okq (⟨"SilkloftModel", "sharesHook", "(II)Z"⟩, 48) := ⟨⟨by decide +kernel, by decide +kernel⟩, List.mem_of_getElem? (i := 1101) (by decide +kernel), List.mem_of_getElem? (i := 1363) (by decide +kernel), List.mem_of_getElem? (i := 1364) (by decide +kernel)⟩
theorem lw_p50 : lw_okq (⟨"SilkloftModel", "sharesRigger", "(II)Z"⟩, 48) := ⟨⟨by decide +kernel, by decide +kernel⟩, List.mem_of_getElem? (i := 1101) (by decide +kernel), List.mem_of_getElem? (i := 1367) (by decide +kernel), List.mem_of_getElem? (i := 1368) (by decide +kernel)⟩
theorem lw_p51 : lw_okq (⟨"SilkloftModel", "isFree", "(II)Z"⟩, 48) := ⟨⟨by decide +kernel, by decide +kernel⟩, List.mem_of_getElem? (i := 1101) (by decide +kernel), List.mem_of_getElem? (i := 1371) (by decide +kernel), List.mem_of_getElem? (i := 1372) (by decide +kernel)⟩
theorem lw_p52 : lw_okq (⟨"SilkloftModel", "isLoad", "(I)Z"⟩, 48) := ⟨⟨by decide +kernel, by decide +kernel⟩, List.mem_of_getElem? (i := 1101) (by decide +kernel), List.mem_of_getElem? (i := 1391) (by decide +kernel), List.mem_of_getElem? (i := 1392) (by decide +kernel)⟩
theorem lw_p53 : lw_okq (⟨"SilkloftModel", "isFit", "(I)Z"⟩, 48) := ⟨⟨by decide +kernel, by decide +kernel⟩, List.mem_of_getElem? (i := 1101) (by decide +kernel), List.mem_of_getElem? (i := 1395) (by decide +kernel), List.mem_of_getElem? (i := 1396) (by decide +kernel)⟩
theorem lw_p54 : lw_okq (⟨"SilkloftModel", "isHeldDown", "(I)Z"⟩, 48) := ⟨⟨by decide +kernel, by decide +kernel⟩, List.mem_of_getElem? (i := 1101) (by decide +kernel), List.mem_of_getElem? (i := 1399) (by decide +kernel), List.mem_of_getElem? (i := 1400) (by decide +kernel)⟩
theorem lw_p55 : lw_okq (⟨"SilkloftModel", "isOld", "(I)Z"⟩, 48) := ⟨⟨by decide +kernel, by decide +kernel⟩, List.mem_of_getElem? (i := 1101) (by decide +kernel), List.mem_of_getElem? (i := 1403) (by decide +kernel), List.mem_of_getElem? (i := 1404) (by decide +kernel)⟩
theorem lw_p56 : lw_okq (⟨"SilkloftModel", "isReady", "(I)Z"⟩, 48) := ⟨⟨by decide +kernel, by decide +kernel⟩, List.mem_of_getElem? (i := 1101) (by decide +kernel), List.mem_of_getElem? (i := 1407) (by decide +kernel), List.mem_of_getElem? (i := 1408) (by decide +kernel)⟩
theorem lw_p57 : lw_okq (⟨"SilkloftModel", "areFit", "(I)Z"⟩, 48) := ⟨⟨by decide +kernel, by decide +kernel⟩, List.mem_of_getElem? (i := 1101) (by decide +kernel), List.mem_of_getElem? (i := 1419) (by decide +kernel), List.mem_of_getElem? (i := 1420) (by decide +kernel)⟩
theorem lw_p58 : lw_okq (⟨"SilkloftModel", "packsOf", "(I)I"⟩, 48) := ⟨⟨by decide +kernel, by decide +kernel⟩, List.mem_of_getElem? (i := 1101) (by decide +kernel), List.mem_of_getElem? (i := 1448) (by decide +kernel), List.mem_of_getElem? (i := 1449) (by decide +kernel)⟩
def lw_privs_4 : List (MethodName × Nat) := [(⟨"SilkloftModel", "reaches", "(II)Z"⟩, 48), (⟨"SilkloftModel", "sharesHook", "(II)Z"⟩, 48), (⟨"SilkloftModel", "sharesRigger", "(II)Z"⟩, 48), (⟨"SilkloftModel", "isFree", "(II)Z"⟩, 48), (⟨"SilkloftModel", "isLoad", "(I)Z"⟩, 48), (⟨"SilkloftModel", "isFit", "(I)Z"⟩, 48), (⟨"SilkloftModel", "isHeldDown", "(I)Z"⟩, 48), (⟨"SilkloftModel", "isOld", "(I)Z"⟩, 48), (⟨"SilkloftModel", "isReady", "(I)Z"⟩, 48), (⟨"SilkloftModel", "areFit", "(I)Z"⟩, 48), (⟨"SilkloftModel", "packsOf", "(I)I"⟩, 48)]
theorem lw_r4 : ∀ q ∈ lw_privs_4, lw_okq q := List.forall_mem_cons.mpr ⟨lw_p48, List.forall_mem_cons.mpr ⟨lw_p49, List.forall_mem_cons.mpr ⟨lw_p50, List.forall_mem_cons.mpr ⟨lw_p51, List.forall_mem_cons.mpr ⟨lw_p52, List.forall_mem_cons.mpr ⟨lw_p53, List.forall_mem_cons.mpr ⟨lw_p54, List.forall_mem_cons.mpr ⟨lw_p55, List.forall_mem_cons.mpr ⟨lw_p56, List.forall_mem_cons.mpr ⟨lw_p57, List.forall_mem_cons.mpr ⟨lw_p58, fun _ h => absurd h List.not_mem_nil⟩⟩⟩⟩⟩⟩⟩⟩⟩⟩⟩
def lw_privs : List (MethodName × Nat) := lw_privs_1 ++ (lw_privs_2 ++ (lw_privs_3 ++ (lw_privs_4)))
def lw_tbl : List Cond := k2_sels lw_privs ++ tables_1
theorem lw_privs_ok : ∀ q ∈ lw_privs, lw_okq q := by
  show ∀ q ∈ lw_privs_1 ++ (lw_privs_2 ++ (lw_privs_3 ++ (lw_privs_4))), lw_okq q
  exact List.forall_mem_append.mpr ⟨lw_r1, List.forall_mem_append.mpr ⟨lw_r2, List.forall_mem_append.mpr ⟨lw_r3, lw_r4⟩⟩⟩
/-- the streams that the claim lets the run draw from -/
abbrev lw_cs : List Choice := [Jvm.Choice.named "NaN.bits"]
theorem lw_bits : nanBits ∈ lw_cs := by first | decide | exact List.mem_cons_self | simp [lw_cs, nanBits]

-- names, printed by the kit (claim/NAMES.whole.lean.txt)
def RX0 : String := "Silkloft$Book"
def TX0 : u_T := fun k => match k with
  | 0 => ("Silkloft$Book", "count", "I", false)
  | 1 => ("Silkloft$Book", "owners", "[I", true)
  | 2 => ("Silkloft$Book", "hooks", "[I", true)
  | 3 => ("Silkloft$Book", "days", "[I", true)
  | _ => ("Silkloft$Book", "riggers", "[I", true)
def tyX0 : Nat → FieldType := fun k => match k with
  | 0 => .int
  | 1 => .array .int
  | 2 => .array .int
  | 3 => .array .int
  | _ => .array .int
theorem nmX0 : ∀ a, a < 5 → ∀ b, b < 5 → a ≠ b → (TX0 a).2.1 ≠ (TX0 b).2.1 := by decide +kernel
theorem tyX0_ok : ∀ k, k < 5 → parseFieldDescriptor (TX0 k).2.2.1 = some (tyX0 k) := by decide +kernel
abbrev cX0_init : ByteArray := prog_2_method_1_code
def yX0_init : MethodName := ⟨RX0, "<init>", "()V"⟩
abbrev cX0_write : ByteArray := prog_2_method_2_code
def yX0_write : MethodName := ⟨RX0, "write", "(III[I)I"⟩
abbrev cX0_has : ByteArray := prog_2_method_3_code
def yX0_has : MethodName := ⟨RX0, "has", "(I)Z"⟩
abbrev cX0_handsOf : ByteArray := prog_2_method_4_code
def yX0_handsOf : MethodName := ⟨RX0, "handsOf", "(I)J"⟩
abbrev cX0_lookUp : ByteArray := prog_2_method_5_code
def yX0_lookUp : MethodName := ⟨RX0, "lookUp", "(IIC)I"⟩
abbrev cX0_numberOf : ByteArray := prog_2_method_6_code
def yX0_numberOf : MethodName := ⟨RX0, "numberOf", "(II)I"⟩
abbrev cX0_isLike : ByteArray := prog_2_method_7_code
def yX0_isLike : MethodName := ⟨RX0, "isLike", "(LSilkloft$Book;)Z"⟩
def RX1 : String := "Silkloft$Canopy"
def TX1 : u_T := fun k => match k with
  | 0 => ("Silkloft$Canopy", "kind", "C", false)
  | 1 => ("Silkloft$Canopy", "cloth", "I", false)
  | 2 => ("Silkloft$Canopy", "lines", "I", false)
  | 3 => ("Silkloft$Canopy", "life", "I", false)
  | 4 => ("Silkloft$Canopy", "added", "I", false)
  | 5 => ("Silkloft$Canopy", "state", "C", false)
  | 6 => ("Silkloft$Canopy", "hook", "I", false)
  | 7 => ("Silkloft$Canopy", "stepsDone", "I", false)
  | 8 => ("Silkloft$Canopy", "stepRiggers", "[I", true)
  | 9 => ("Silkloft$Canopy", "packingCount", "I", false)
  | 10 => ("Silkloft$Canopy", "latestPacking", "I", false)
  | 11 => ("Silkloft$Canopy", "hooksEver", "I", false)
  | 12 => ("Silkloft$Canopy", "handsEver", "J", false)
  | 13 => ("Silkloft$Canopy", "jumpCount", "I", false)
  | 14 => ("Silkloft$Canopy", "repairCount", "I", false)
  | 15 => ("Silkloft$Canopy", "goodDrops", "I", false)
  | 16 => ("Silkloft$Canopy", "lastGoodDrop", "I", false)
  | 17 => ("Silkloft$Canopy", "goodDropBefore", "I", false)
  | 18 => ("Silkloft$Canopy", "dueBack", "I", false)
  | _ => ("Silkloft$Canopy", "deposit", "I", false)
def tyX1 : Nat → FieldType := fun k => match k with
  | 0 => .char
  | 1 => .int
  | 2 => .int
  | 3 => .int
  | 4 => .int
  | 5 => .char
  | 6 => .int
  | 7 => .int
  | 8 => .array .int
  | 9 => .int
  | 10 => .int
  | 11 => .int
  | 12 => .long
  | 13 => .int
  | 14 => .int
  | 15 => .int
  | 16 => .int
  | 17 => .int
  | 18 => .int
  | _ => .int
theorem nmX1 : ∀ a, a < 20 → ∀ b, b < 20 → a ≠ b → (TX1 a).2.1 ≠ (TX1 b).2.1 := by decide +kernel
theorem tyX1_ok : ∀ k, k < 20 → parseFieldDescriptor (TX1 k).2.2.1 = some (tyX1 k) := by decide +kernel
abbrev cX1_init : ByteArray := prog_3_method_1_code
def yX1_init : MethodName := ⟨RX1, "<init>", "()V"⟩
abbrev cX1_begin : ByteArray := prog_3_method_2_code
def yX1_begin : MethodName := ⟨RX1, "begin", "(CIIII)V"⟩
abbrev cX1_noteDrop : ByteArray := prog_3_method_3_code
def yX1_noteDrop : MethodName := ⟨RX1, "noteDrop", "(ZI)V"⟩
abbrev cX1_land : ByteArray := prog_3_method_4_code
def yX1_land : MethodName := ⟨RX1, "land", "()V"⟩
abbrev cX1_isLike : ByteArray := prog_3_method_5_code
def yX1_isLike : MethodName := ⟨RX1, "isLike", "(LSilkloft$Canopy;)Z"⟩
abbrev cX1_isMadeLike : ByteArray := prog_3_method_6_code
def yX1_isMadeLike : MethodName := ⟨RX1, "isMadeLike", "(LSilkloft$Canopy;)Z"⟩
abbrev cX1_isPackedLike : ByteArray := prog_3_method_7_code
def yX1_isPackedLike : MethodName := ⟨RX1, "isPackedLike", "(LSilkloft$Canopy;)Z"⟩
abbrev cX1_isTriedLike : ByteArray := prog_3_method_8_code
def yX1_isTriedLike : MethodName := ⟨RX1, "isTriedLike", "(LSilkloft$Canopy;)Z"⟩
def RX2 : String := "Silkloft$Diary"
def TX2 : u_T := fun k => match k with
  | 0 => ("Silkloft$Diary", "count", "I", false)
  | _ => ("Silkloft$Diary", "rows", "[I", true)
def tyX2 : Nat → FieldType := fun k => match k with
  | 0 => .int
  | _ => .array .int
theorem nmX2 : ∀ a, a < 2 → ∀ b, b < 2 → a ≠ b → (TX2 a).2.1 ≠ (TX2 b).2.1 := by decide +kernel
theorem tyX2_ok : ∀ k, k < 2 → parseFieldDescriptor (TX2 k).2.2.1 = some (tyX2 k) := by decide +kernel
abbrev cX2_init : ByteArray := prog_4_method_1_code
def yX2_init : MethodName := ⟨RX2, "<init>", "()V"⟩
abbrev cX2_isFull : ByteArray := prog_4_method_2_code
def yX2_isFull : MethodName := ⟨RX2, "isFull", "()Z"⟩
abbrev cX2_write : ByteArray := prog_4_method_3_code
def yX2_write : MethodName := ⟨RX2, "write", "(IIIII)V"⟩
abbrev cX2_repeat : ByteArray := prog_4_method_4_code
def yX2_repeat : MethodName := ⟨RX2, "repeat", "(ILSilkloft$Loft;)Z"⟩
def RX3 : String := "Silkloft$Finding"
def TX3 : u_T := fun k => match k with
  | 0 => ("Silkloft$Finding", "canopy", "I", false)
  | 1 => ("Silkloft$Finding", "packing", "I", false)
  | 2 => ("Silkloft$Finding", "level", "I", false)
  | 3 => ("Silkloft$Finding", "cause", "C", false)
  | 4 => ("Silkloft$Finding", "isClosed", "Z", false)
  | 5 => ("Silkloft$Finding", "madeBy", "I", false)
  | _ => ("Silkloft$Finding", "repairedBy", "I", false)
def tyX3 : Nat → FieldType := fun k => match k with
  | 0 => .int
  | 1 => .int
  | 2 => .int
  | 3 => .char
  | 4 => .boolean
  | 5 => .int
  | _ => .int
theorem nmX3 : ∀ a, a < 7 → ∀ b, b < 7 → a ≠ b → (TX3 a).2.1 ≠ (TX3 b).2.1 := by decide +kernel
theorem tyX3_ok : ∀ k, k < 7 → parseFieldDescriptor (TX3 k).2.2.1 = some (tyX3 k) := by decide +kernel
abbrev cX3_init : ByteArray := prog_5_method_1_code
def yX3_init : MethodName := ⟨RX3, "<init>", "()V"⟩
abbrev cX3_begin : ByteArray := prog_5_method_2_code
def yX3_begin : MethodName := ⟨RX3, "begin", "(III)V"⟩
abbrev cX3_goesBy : ByteArray := prog_5_method_3_code
def yX3_goesBy : MethodName := ⟨RX3, "goesBy", "(IC)Z"⟩
abbrev cX3_isLike : ByteArray := prog_5_method_4_code
def yX3_isLike : MethodName := ⟨RX3, "isLike", "(LSilkloft$Finding;)Z"⟩
def RX4 : String := "Silkloft$Load"
def TX4 : u_T := fun k => match k with
  | 0 => ("Silkloft$Load", "aboard", "I", false)
  | 1 => ("Silkloft$Load", "hasJumped", "Z", false)
  | 2 => ("Silkloft$Load", "mains", "[I", true)
  | _ => ("Silkloft$Load", "reserves", "[I", true)
def tyX4 : Nat → FieldType := fun k => match k with
  | 0 => .int
  | 1 => .boolean
  | 2 => .array .int
  | _ => .array .int
theorem nmX4 : ∀ a, a < 4 → ∀ b, b < 4 → a ≠ b → (TX4 a).2.1 ≠ (TX4 b).2.1 := by decide +kernel
theorem tyX4_ok : ∀ k, k < 4 → parseFieldDescriptor (TX4 k).2.2.1 = some (tyX4 k) := by decide +kernel
abbrev cX4_init : ByteArray := prog_6_method_1_code
def yX4_init : MethodName := ⟨RX4, "<init>", "()V"⟩
abbrev cX4_begin : ByteArray := prog_6_method_2_code
def yX4_begin : MethodName := ⟨RX4, "begin", "()V"⟩
abbrev cX4_isLike : ByteArray := prog_6_method_3_code
def yX4_isLike : MethodName := ⟨RX4, "isLike", "(LSilkloft$Load;)Z"⟩
def RX5 : String := "Silkloft$Loft"
def TX5 : u_T := fun k => match k with
  | 0 => ("Silkloft$Loft", "riggers", "[LSilkloft$Rigger;", true)
  | 1 => ("Silkloft$Loft", "canopies", "[LSilkloft$Canopy;", true)
  | 2 => ("Silkloft$Loft", "loads", "[LSilkloft$Load;", true)
  | 3 => ("Silkloft$Loft", "findings", "[LSilkloft$Finding;", true)
  | 4 => ("Silkloft$Loft", "book", "LSilkloft$Book;", true)
  | 5 => ("Silkloft$Loft", "riggerCount", "I", false)
  | 6 => ("Silkloft$Loft", "canopyCount", "I", false)
  | 7 => ("Silkloft$Loft", "loadCount", "I", false)
  | 8 => ("Silkloft$Loft", "findingCount", "I", false)
  | 9 => ("Silkloft$Loft", "day", "I", false)
  | 10 => ("Silkloft$Loft", "period", "I", false)
  | 11 => ("Silkloft$Loft", "keptSum", "J", false)
  | _ => ("Silkloft$Loft", "actCount", "I", false)
def tyX5 : Nat → FieldType := fun k => match k with
  | 0 => .array (.object "Silkloft$Rigger")
  | 1 => .array (.object "Silkloft$Canopy")
  | 2 => .array (.object "Silkloft$Load")
  | 3 => .array (.object "Silkloft$Finding")
  | 4 => .object "Silkloft$Book"
  | 5 => .int
  | 6 => .int
  | 7 => .int
  | 8 => .int
  | 9 => .int
  | 10 => .int
  | 11 => .long
  | _ => .int
theorem nmX5 : ∀ a, a < 13 → ∀ b, b < 13 → a ≠ b → (TX5 a).2.1 ≠ (TX5 b).2.1 := by decide +kernel
theorem tyX5_ok : ∀ k, k < 13 → parseFieldDescriptor (TX5 k).2.2.1 = some (tyX5 k) := by decide +kernel
abbrev cX5_init : ByteArray := prog_7_method_1_code
def yX5_init : MethodName := ⟨RX5, "<init>", "()V"⟩
abbrev cX5_clear : ByteArray := prog_7_method_2_code
def yX5_clear : MethodName := ⟨RX5, "clear", "()V"⟩
abbrev cX5_hasRigger : ByteArray := prog_7_method_3_code
def yX5_hasRigger : MethodName := ⟨RX5, "hasRigger", "(I)Z"⟩
abbrev cX5_hasCanopy : ByteArray := prog_7_method_4_code
def yX5_hasCanopy : MethodName := ⟨RX5, "hasCanopy", "(I)Z"⟩
abbrev cX5_hasLoad : ByteArray := prog_7_method_5_code
def yX5_hasLoad : MethodName := ⟨RX5, "hasLoad", "(I)Z"⟩
abbrev cX5_hasFinding : ByteArray := prog_7_method_6_code
def yX5_hasFinding : MethodName := ⟨RX5, "hasFinding", "(I)Z"⟩
abbrev cX5_perform : ByteArray := prog_7_method_7_code
def yX5_perform : MethodName := ⟨RX5, "perform", "(IIIII)I"⟩
abbrev cX5_enrol : ByteArray := prog_7_method_8_code
def yX5_enrol : MethodName := ⟨RX5, "enrol", "(II)I"⟩
abbrev cX5_relicense : ByteArray := prog_7_method_9_code
def yX5_relicense : MethodName := ⟨RX5, "relicense", "(III)I"⟩
abbrev cX5_enter : ByteArray := prog_7_method_10_code
def yX5_enter : MethodName := ⟨RX5, "enter", "(CIII)I"⟩
abbrev cX5_changePeriod : ByteArray := prog_7_method_11_code
def yX5_changePeriod : MethodName := ⟨RX5, "changePeriod", "(I)I"⟩
abbrev cX5_letDaysPass : ByteArray := prog_7_method_12_code
def yX5_letDaysPass : MethodName := ⟨RX5, "letDaysPass", "(I)I"⟩
abbrev cX5_putOnHook : ByteArray := prog_7_method_13_code
def yX5_putOnHook : MethodName := ⟨RX5, "putOnHook", "(II)I"⟩
abbrev cX5_isHookFree : ByteArray := prog_7_method_14_code
def yX5_isHookFree : MethodName := ⟨RX5, "isHookFree", "(I)Z"⟩
abbrev cX5_doStep : ByteArray := prog_7_method_15_code
def yX5_doStep : MethodName := ⟨RX5, "doStep", "(II)I"⟩
abbrev cX5_endPacking : ByteArray := prog_7_method_16_code
def yX5_endPacking : MethodName := ⟨RX5, "endPacking", "(I)V"⟩
abbrev cX5_takeOffHook : ByteArray := prog_7_method_17_code
def yX5_takeOffHook : MethodName := ⟨RX5, "takeOffHook", "(LSilkloft$Canopy;)I"⟩
abbrev cX5_beginLoad : ByteArray := prog_7_method_18_code
def yX5_beginLoad : MethodName := ⟨RX5, "beginLoad", "()I"⟩
abbrev cX5_putAboard : ByteArray := prog_7_method_19_code
def yX5_putAboard : MethodName := ⟨RX5, "putAboard", "(LSilkloft$Load;II)I"⟩
abbrev cX5_takeLastOff : ByteArray := prog_7_method_20_code
def yX5_takeLastOff : MethodName := ⟨RX5, "takeLastOff", "(LSilkloft$Load;)I"⟩
abbrev cX5_letJump : ByteArray := prog_7_method_21_code
def yX5_letJump : MethodName := ⟨RX5, "letJump", "(LSilkloft$Load;I)I"⟩
abbrev cX5_noteFinding : ByteArray := prog_7_method_22_code
def yX5_noteFinding : MethodName := ⟨RX5, "noteFinding", "(I)I"⟩
abbrev cX5_noteFindingIfRoom : ByteArray := prog_7_method_23_code
def yX5_noteFindingIfRoom : MethodName := ⟨RX5, "noteFindingIfRoom", "(I)V"⟩
abbrev cX5_raiseLevel : ByteArray := prog_7_method_24_code
def yX5_raiseLevel : MethodName := ⟨RX5, "raiseLevel", "(LSilkloft$Finding;)I"⟩
abbrev cX5_noteCause : ByteArray := prog_7_method_25_code
def yX5_noteCause : MethodName := ⟨RX5, "noteCause", "(LSilkloft$Finding;C)I"⟩
abbrev cX5_shut : ByteArray := prog_7_method_26_code
def yX5_shut : MethodName := ⟨RX5, "shut", "(LSilkloft$Finding;)I"⟩
abbrev cX5_mend : ByteArray := prog_7_method_27_code
def yX5_mend : MethodName := ⟨RX5, "mend", "(I)I"⟩
abbrev cX5_tryOut : ByteArray := prog_7_method_28_code
def yX5_tryOut : MethodName := ⟨RX5, "tryOut", "(IZ)I"⟩
abbrev cX5_handOut : ByteArray := prog_7_method_29_code
def yX5_handOut : MethodName := ⟨RX5, "handOut", "(LSilkloft$Canopy;II)I"⟩
abbrev cX5_takeIn : ByteArray := prog_7_method_30_code
def yX5_takeIn : MethodName := ⟨RX5, "takeIn", "(IZZ)I"⟩
abbrev cX5_isFitToJump : ByteArray := prog_7_method_31_code
def yX5_isFitToJump : MethodName := ⟨RX5, "isFitToJump", "(I)Z"⟩
abbrev cX5_isTooOld : ByteArray := prog_7_method_32_code
def yX5_isTooOld : MethodName := ⟨RX5, "isTooOld", "(LSilkloft$Canopy;)Z"⟩
abbrev cX5_daysLeft : ByteArray := prog_7_method_33_code
def yX5_daysLeft : MethodName := ⟨RX5, "daysLeft", "(LSilkloft$Canopy;)I"⟩
abbrev cX5_isOnGround : ByteArray := prog_7_method_34_code
def yX5_isOnGround : MethodName := ⟨RX5, "isOnGround", "(I)Z"⟩
abbrev cX5_countGroundedBy : ByteArray := prog_7_method_35_code
def yX5_countGroundedBy : MethodName := ⟨RX5, "countGroundedBy", "(I)I"⟩
abbrev cX5_isReachedBy : ByteArray := prog_7_method_36_code
def yX5_isReachedBy : MethodName := ⟨RX5, "isReachedBy", "(LSilkloft$Finding;I)Z"⟩
abbrev cX5_isFreeOf : ByteArray := prog_7_method_37_code
def yX5_isFreeOf : MethodName := ⟨RX5, "isFreeOf", "(LSilkloft$Finding;I)Z"⟩
abbrev cX5_countSharers : ByteArray := prog_7_method_38_code
def yX5_countSharers : MethodName := ⟨RX5, "countSharers", "(I)I"⟩
abbrev cX5_firstReserveToRepack : ByteArray := prog_7_method_39_code
def yX5_firstReserveToRepack : MethodName := ⟨RX5, "firstReserveToRepack", "()I"⟩
abbrev cX5_sumOfDeposits : ByteArray := prog_7_method_40_code
def yX5_sumOfDeposits : MethodName := ⟨RX5, "sumOfDeposits", "()J"⟩
abbrev cX5_countGrounded : ByteArray := prog_7_method_41_code
def yX5_countGrounded : MethodName := ⟨RX5, "countGrounded", "()I"⟩
abbrev cX5_sumOfGoodDrops : ByteArray := prog_7_method_42_code
def yX5_sumOfGoodDrops : MethodName := ⟨RX5, "sumOfGoodDrops", "()I"⟩
abbrev cX5_isLike : ByteArray := prog_7_method_43_code
def yX5_isLike : MethodName := ⟨RX5, "isLike", "(LSilkloft$Loft;)Z"⟩
abbrev cX5_hasRiggersLike : ByteArray := prog_7_method_44_code
def yX5_hasRiggersLike : MethodName := ⟨RX5, "hasRiggersLike", "(LSilkloft$Loft;)Z"⟩
abbrev cX5_hasCanopiesLike : ByteArray := prog_7_method_45_code
def yX5_hasCanopiesLike : MethodName := ⟨RX5, "hasCanopiesLike", "(LSilkloft$Loft;)Z"⟩
abbrev cX5_hasLoadsLike : ByteArray := prog_7_method_46_code
def yX5_hasLoadsLike : MethodName := ⟨RX5, "hasLoadsLike", "(LSilkloft$Loft;)Z"⟩
abbrev cX5_hasFindingsLike : ByteArray := prog_7_method_47_code
def yX5_hasFindingsLike : MethodName := ⟨RX5, "hasFindingsLike", "(LSilkloft$Loft;)Z"⟩
def RX6 : String := "Silkloft$Refusal"
def TX6 : u_T := fun k => match k with
  | _ => ("", "", "", false)
def tyX6 : Nat → FieldType := fun k => match k with
  | _ => .int
theorem nmX6 : ∀ a, a < 0 → ∀ b, b < 0 → a ≠ b → (TX6 a).2.1 ≠ (TX6 b).2.1 := by decide +kernel
theorem tyX6_ok : ∀ k, k < 0 → parseFieldDescriptor (TX6 k).2.2.1 = some (tyX6 k) := by decide +kernel
def RX7 : String := "Silkloft$Rigger"
def TX7 : u_T := fun k => match k with
  | 0 => ("Silkloft$Rigger", "licences", "I", false)
  | _ => ("Silkloft$Rigger", "until", "I", false)
def tyX7 : Nat → FieldType := fun k => match k with
  | 0 => .int
  | _ => .int
theorem nmX7 : ∀ a, a < 2 → ∀ b, b < 2 → a ≠ b → (TX7 a).2.1 ≠ (TX7 b).2.1 := by decide +kernel
theorem tyX7_ok : ∀ k, k < 2 → parseFieldDescriptor (TX7 k).2.2.1 = some (tyX7 k) := by decide +kernel
abbrev cX7_init : ByteArray := prog_9_method_1_code
def yX7_init : MethodName := ⟨RX7, "<init>", "()V"⟩
abbrev cX7_set : ByteArray := prog_9_method_2_code
def yX7_set : MethodName := ⟨RX7, "set", "(II)V"⟩
abbrev cX7_may : ByteArray := prog_9_method_3_code
def yX7_may : MethodName := ⟨RX7, "may", "(II)Z"⟩
abbrev cX7_isLike : ByteArray := prog_9_method_4_code
def yX7_isLike : MethodName := ⟨RX7, "isLike", "(LSilkloft$Rigger;)Z"⟩
def RX8 : String := "Silkloft$Rules"
def TX8 : u_T := fun k => match k with
  | _ => ("", "", "", false)
def tyX8 : Nat → FieldType := fun k => match k with
  | _ => .int
theorem nmX8 : ∀ a, a < 0 → ∀ b, b < 0 → a ≠ b → (TX8 a).2.1 ≠ (TX8 b).2.1 := by decide +kernel
theorem tyX8_ok : ∀ k, k < 0 → parseFieldDescriptor (TX8 k).2.2.1 = some (tyX8 k) := by decide +kernel
abbrev cX8_refusalOf : ByteArray := prog_10_method_2_code
def yX8_refusalOf : MethodName := ⟨RX8, "refusalOf", "(LSilkloft$Loft;IIIII)LSilkloft$Refusal;"⟩
abbrev cX8_isIn : ByteArray := prog_10_method_3_code
def yX8_isIn : MethodName := ⟨RX8, "isIn", "(III)Z"⟩
abbrev cX8_areLicences : ByteArray := prog_10_method_4_code
def yX8_areLicences : MethodName := ⟨RX8, "areLicences", "(II)Z"⟩
abbrev cX8_ofAddRigger : ByteArray := prog_10_method_5_code
def yX8_ofAddRigger : MethodName := ⟨RX8, "ofAddRigger", "(LSilkloft$Loft;II)LSilkloft$Refusal;"⟩
abbrev cX8_ofSetLicences : ByteArray := prog_10_method_6_code
def yX8_ofSetLicences : MethodName := ⟨RX8, "ofSetLicences", "(LSilkloft$Loft;III)LSilkloft$Refusal;"⟩
abbrev cX8_ofAddCanopy : ByteArray := prog_10_method_7_code
def yX8_ofAddCanopy : MethodName := ⟨RX8, "ofAddCanopy", "(LSilkloft$Loft;IIII)LSilkloft$Refusal;"⟩
abbrev cX8_ofGoOn : ByteArray := prog_10_method_8_code
def yX8_ofGoOn : MethodName := ⟨RX8, "ofGoOn", "(LSilkloft$Loft;I)LSilkloft$Refusal;"⟩
abbrev cX8_ofCanopyIn : ByteArray := prog_10_method_9_code
def yX8_ofCanopyIn : MethodName := ⟨RX8, "ofCanopyIn", "(LSilkloft$Loft;IC)LSilkloft$Refusal;"⟩
abbrev cX8_ofHang : ByteArray := prog_10_method_10_code
def yX8_ofHang : MethodName := ⟨RX8, "ofHang", "(LSilkloft$Loft;II)LSilkloft$Refusal;"⟩
abbrev cX8_ofStep : ByteArray := prog_10_method_11_code
def yX8_ofStep : MethodName := ⟨RX8, "ofStep", "(LSilkloft$Loft;II)LSilkloft$Refusal;"⟩
abbrev cX8_ofBoard : ByteArray := prog_10_method_12_code
def yX8_ofBoard : MethodName := ⟨RX8, "ofBoard", "(LSilkloft$Loft;III)LSilkloft$Refusal;"⟩
abbrev cX8_ofLeave : ByteArray := prog_10_method_13_code
def yX8_ofLeave : MethodName := ⟨RX8, "ofLeave", "(LSilkloft$Loft;I)LSilkloft$Refusal;"⟩
abbrev cX8_ofJump : ByteArray := prog_10_method_14_code
def yX8_ofJump : MethodName := ⟨RX8, "ofJump", "(LSilkloft$Loft;I)LSilkloft$Refusal;"⟩
abbrev cX8_ofFind : ByteArray := prog_10_method_15_code
def yX8_ofFind : MethodName := ⟨RX8, "ofFind", "(LSilkloft$Loft;I)LSilkloft$Refusal;"⟩
abbrev cX8_ofWiden : ByteArray := prog_10_method_16_code
def yX8_ofWiden : MethodName := ⟨RX8, "ofWiden", "(LSilkloft$Loft;I)LSilkloft$Refusal;"⟩
abbrev cX8_ofTellCause : ByteArray := prog_10_method_17_code
def yX8_ofTellCause : MethodName := ⟨RX8, "ofTellCause", "(LSilkloft$Loft;II)LSilkloft$Refusal;"⟩
abbrev cX8_ofRepair : ByteArray := prog_10_method_18_code
def yX8_ofRepair : MethodName := ⟨RX8, "ofRepair", "(LSilkloft$Loft;II)LSilkloft$Refusal;"⟩
abbrev cX8_ofHire : ByteArray := prog_10_method_19_code
def yX8_ofHire : MethodName := ⟨RX8, "ofHire", "(LSilkloft$Loft;III)LSilkloft$Refusal;"⟩
def RX9 : String := "Silkloft"
def TX9 : u_T := fun k => match k with
  | 0 => ("Silkloft", "loft", "LSilkloft$Loft;", true)
  | 1 => ("Silkloft", "again", "LSilkloft$Loft;", true)
  | _ => ("Silkloft", "diary", "LSilkloft$Diary;", true)
def tyX9 : Nat → FieldType := fun k => match k with
  | 0 => .object "Silkloft$Loft"
  | 1 => .object "Silkloft$Loft"
  | _ => .object "Silkloft$Diary"
theorem nmX9 : ∀ a, a < 3 → ∀ b, b < 3 → a ≠ b → (TX9 a).2.1 ≠ (TX9 b).2.1 := by decide +kernel
theorem tyX9_ok : ∀ k, k < 3 → parseFieldDescriptor (TX9 k).2.2.1 = some (tyX9 k) := by decide +kernel
abbrev cX9_init : ByteArray := prog_1_method_1_code
def yX9_init : MethodName := ⟨RX9, "<init>", "()V"⟩
abbrev cX9_addRigger : ByteArray := prog_1_method_2_code
def yX9_addRigger : MethodName := ⟨RX9, "addRigger", "(II)I"⟩
abbrev cX9_setLicences : ByteArray := prog_1_method_3_code
def yX9_setLicences : MethodName := ⟨RX9, "setLicences", "(III)I"⟩
abbrev cX9_addCanopy : ByteArray := prog_1_method_4_code
def yX9_addCanopy : MethodName := ⟨RX9, "addCanopy", "(CIII)I"⟩
abbrev cX9_setPeriod : ByteArray := prog_1_method_5_code
def yX9_setPeriod : MethodName := ⟨RX9, "setPeriod", "(I)I"⟩
abbrev cX9_goOn : ByteArray := prog_1_method_6_code
def yX9_goOn : MethodName := ⟨RX9, "goOn", "(I)I"⟩
abbrev cX9_hang : ByteArray := prog_1_method_7_code
def yX9_hang : MethodName := ⟨RX9, "hang", "(II)I"⟩
abbrev cX9_step : ByteArray := prog_1_method_8_code
def yX9_step : MethodName := ⟨RX9, "step", "(II)I"⟩
abbrev cX9_breakOff : ByteArray := prog_1_method_9_code
def yX9_breakOff : MethodName := ⟨RX9, "breakOff", "(I)I"⟩
abbrev cX9_load : ByteArray := prog_1_method_10_code
def yX9_load : MethodName := ⟨RX9, "load", "()I"⟩
abbrev cX9_board : ByteArray := prog_1_method_11_code
def yX9_board : MethodName := ⟨RX9, "board", "(III)I"⟩
abbrev cX9_leave : ByteArray := prog_1_method_12_code
def yX9_leave : MethodName := ⟨RX9, "leave", "(I)I"⟩
abbrev cX9_jump : ByteArray := prog_1_method_13_code
def yX9_jump : MethodName := ⟨RX9, "jump", "(II)I"⟩
abbrev cX9_find : ByteArray := prog_1_method_14_code
def yX9_find : MethodName := ⟨RX9, "find", "(I)I"⟩
abbrev cX9_widen : ByteArray := prog_1_method_15_code
def yX9_widen : MethodName := ⟨RX9, "widen", "(I)I"⟩
abbrev cX9_tellCause : ByteArray := prog_1_method_16_code
def yX9_tellCause : MethodName := ⟨RX9, "tellCause", "(IC)C"⟩
abbrev cX9_close : ByteArray := prog_1_method_17_code
def yX9_close : MethodName := ⟨RX9, "close", "(I)Z"⟩
abbrev cX9_grounds : ByteArray := prog_1_method_18_code
def yX9_grounds : MethodName := ⟨RX9, "grounds", "(I)I"⟩
abbrev cX9_repair : ByteArray := prog_1_method_19_code
def yX9_repair : MethodName := ⟨RX9, "repair", "(II)I"⟩
abbrev cX9_drop : ByteArray := prog_1_method_20_code
def yX9_drop : MethodName := ⟨RX9, "drop", "(IZ)I"⟩
abbrev cX9_hire : ByteArray := prog_1_method_21_code
def yX9_hire : MethodName := ⟨RX9, "hire", "(III)I"⟩
abbrev cX9_back : ByteArray := prog_1_method_22_code
def yX9_back : MethodName := ⟨RX9, "back", "(IZZ)I"⟩
abbrev cX9_stateOf : ByteArray := prog_1_method_23_code
def yX9_stateOf : MethodName := ⟨RX9, "stateOf", "(I)C"⟩
abbrev cX9_isGrounded : ByteArray := prog_1_method_24_code
def yX9_isGrounded : MethodName := ⟨RX9, "isGrounded", "(I)Z"⟩
abbrev cX9_isOut : ByteArray := prog_1_method_25_code
def yX9_isOut : MethodName := ⟨RX9, "isOut", "(I)Z"⟩
abbrev cX9_packings : ByteArray := prog_1_method_26_code
def yX9_packings : MethodName := ⟨RX9, "packings", "(I)I"⟩
abbrev cX9_packingOf : ByteArray := prog_1_method_27_code
def yX9_packingOf : MethodName := ⟨RX9, "packingOf", "(IIC)I"⟩
abbrev cX9_jumps : ByteArray := prog_1_method_28_code
def yX9_jumps : MethodName := ⟨RX9, "jumps", "(I)I"⟩
abbrev cX9_sharers : ByteArray := prog_1_method_29_code
def yX9_sharers : MethodName := ⟨RX9, "sharers", "(I)I"⟩
abbrev cX9_next : ByteArray := prog_1_method_30_code
def yX9_next : MethodName := ⟨RX9, "next", "()I"⟩
abbrev cX9_held : ByteArray := prog_1_method_31_code
def yX9_held : MethodName := ⟨RX9, "held", "()J"⟩
abbrev cX9_kept : ByteArray := prog_1_method_32_code
def yX9_kept : MethodName := ⟨RX9, "kept", "()J"⟩
abbrev cX9_groundedShare : ByteArray := prog_1_method_33_code
def yX9_groundedShare : MethodName := ⟨RX9, "groundedShare", "()F"⟩
abbrev cX9_meanDrops : ByteArray := prog_1_method_34_code
def yX9_meanDrops : MethodName := ⟨RX9, "meanDrops", "()D"⟩
abbrev cX9_isSound : ByteArray := prog_1_method_35_code
def yX9_isSound : MethodName := ⟨RX9, "isSound", "()Z"⟩
abbrev cX9_canopyAt : ByteArray := prog_1_method_36_code
def yX9_canopyAt : MethodName := ⟨RX9, "canopyAt", "(I)LSilkloft$Canopy;"⟩
abbrev cX9_act : ByteArray := prog_1_method_37_code
def yX9_act : MethodName := ⟨RX9, "act", "(IIIII)I"⟩
abbrev cX9_throwFor : ByteArray := prog_1_method_38_code
def yX9_throwFor : MethodName := ⟨RX9, "throwFor", "(LSilkloft$Refusal;)V"⟩
def RX10 : String := "SilkloftModel"
def TX10 : u_T := fun k => match k with
  | 0 => ("SilkloftModel", "licences", "[I", true)
  | 1 => ("SilkloftModel", "until", "[I", true)
  | 2 => ("SilkloftModel", "kind", "[I", true)
  | 3 => ("SilkloftModel", "cloth", "[I", true)
  | 4 => ("SilkloftModel", "lines", "[I", true)
  | 5 => ("SilkloftModel", "life", "[I", true)
  | 6 => ("SilkloftModel", "born", "[I", true)
  | 7 => ("SilkloftModel", "state", "[I", true)
  | 8 => ("SilkloftModel", "hookOf", "[I", true)
  | 9 => ("SilkloftModel", "done", "[I", true)
  | 10 => ("SilkloftModel", "latest", "[I", true)
  | 11 => ("SilkloftModel", "jumps", "[I", true)
  | 12 => ("SilkloftModel", "goods", "[I", true)
  | 13 => ("SilkloftModel", "repairs", "[I", true)
  | 14 => ("SilkloftModel", "repaired", "[I", true)
  | 15 => ("SilkloftModel", "dropOne", "[I", true)
  | 16 => ("SilkloftModel", "dropTwo", "[I", true)
  | 17 => ("SilkloftModel", "isOneGood", "[I", true)
  | 18 => ("SilkloftModel", "isTwoGood", "[I", true)
  | 19 => ("SilkloftModel", "repairOne", "[I", true)
  | 20 => ("SilkloftModel", "repairTwo", "[I", true)
  | 21 => ("SilkloftModel", "dueDay", "[I", true)
  | 22 => ("SilkloftModel", "deposit", "[I", true)
  | 23 => ("SilkloftModel", "hands", "[I", true)
  | 24 => ("SilkloftModel", "packCanopy", "[I", true)
  | 25 => ("SilkloftModel", "packHook", "[I", true)
  | 26 => ("SilkloftModel", "packDay", "[I", true)
  | 27 => ("SilkloftModel", "packRigger", "[I", true)
  | 28 => ("SilkloftModel", "aboard", "[I", true)
  | 29 => ("SilkloftModel", "hasJumped", "[I", true)
  | 30 => ("SilkloftModel", "mains", "[I", true)
  | 31 => ("SilkloftModel", "reserves", "[I", true)
  | 32 => ("SilkloftModel", "findCanopy", "[I", true)
  | 33 => ("SilkloftModel", "findPack", "[I", true)
  | 34 => ("SilkloftModel", "findAct", "[I", true)
  | 35 => ("SilkloftModel", "level", "[I", true)
  | 36 => ("SilkloftModel", "cause", "[I", true)
  | 37 => ("SilkloftModel", "closed", "[I", true)
  | 38 => ("SilkloftModel", "thrown", "I", false)
  | 39 => ("SilkloftModel", "riggers", "I", false)
  | 40 => ("SilkloftModel", "canopies", "I", false)
  | 41 => ("SilkloftModel", "packs", "I", false)
  | 42 => ("SilkloftModel", "loads", "I", false)
  | 43 => ("SilkloftModel", "findings", "I", false)
  | 44 => ("SilkloftModel", "day", "I", false)
  | 45 => ("SilkloftModel", "period", "I", false)
  | 46 => ("SilkloftModel", "acts", "I", false)
  | _ => ("SilkloftModel", "kept", "J", false)
def tyX10 : Nat → FieldType := fun k => match k with
  | 0 => .array .int
  | 1 => .array .int
  | 2 => .array .int
  | 3 => .array .int
  | 4 => .array .int
  | 5 => .array .int
  | 6 => .array .int
  | 7 => .array .int
  | 8 => .array .int
  | 9 => .array .int
  | 10 => .array .int
  | 11 => .array .int
  | 12 => .array .int
  | 13 => .array .int
  | 14 => .array .int
  | 15 => .array .int
  | 16 => .array .int
  | 17 => .array .int
  | 18 => .array .int
  | 19 => .array .int
  | 20 => .array .int
  | 21 => .array .int
  | 22 => .array .int
  | 23 => .array .int
  | 24 => .array .int
  | 25 => .array .int
  | 26 => .array .int
  | 27 => .array .int
  | 28 => .array .int
  | 29 => .array .int
  | 30 => .array .int
  | 31 => .array .int
  | 32 => .array .int
  | 33 => .array .int
  | 34 => .array .int
  | 35 => .array .int
  | 36 => .array .int
  | 37 => .array .int
  | 38 => .int
  | 39 => .int
  | 40 => .int
  | 41 => .int
  | 42 => .int
  | 43 => .int
  | 44 => .int
  | 45 => .int
  | 46 => .int
  | _ => .long
theorem nmX10 : ∀ a, a < 48 → ∀ b, b < 48 → a ≠ b → (TX10 a).2.1 ≠ (TX10 b).2.1 := by decide +kernel
theorem tyX10_ok : ∀ k, k < 48 → parseFieldDescriptor (TX10 k).2.2.1 = some (tyX10 k) := by decide +kernel
abbrev cX10_init : ByteArray := prog_12_method_1_code
def yX10_init : MethodName := ⟨RX10, "<init>", "()V"⟩
abbrev cX10_thrown : ByteArray := prog_12_method_2_code
def yX10_thrown : MethodName := ⟨RX10, "thrown", "()I"⟩
abbrev cX10_fails : ByteArray := prog_12_method_3_code
def yX10_fails : MethodName := ⟨RX10, "fails", "(I)I"⟩
abbrev cX10_tell : ByteArray := prog_12_method_4_code
def yX10_tell : MethodName := ⟨RX10, "tell", "(I)I"⟩
abbrev cX10_refuses : ByteArray := prog_12_method_5_code
def yX10_refuses : MethodName := ⟨RX10, "refuses", "(I)Z"⟩
abbrev cX10_tells : ByteArray := prog_12_method_6_code
def yX10_tells : MethodName := ⟨RX10, "tells", "(Z)Z"⟩
abbrev cX10_in : ByteArray := prog_12_method_7_code
def yX10_in : MethodName := ⟨RX10, "in", "(III)Z"⟩
abbrev cX10_isRigger : ByteArray := prog_12_method_8_code
def yX10_isRigger : MethodName := ⟨RX10, "isRigger", "(I)Z"⟩
abbrev cX10_isCanopy : ByteArray := prog_12_method_9_code
def yX10_isCanopy : MethodName := ⟨RX10, "isCanopy", "(I)Z"⟩
abbrev cX10_may : ByteArray := prog_12_method_10_code
def yX10_may : MethodName := ⟨RX10, "may", "(II)Z"⟩
abbrev cX10_addRigger : ByteArray := prog_12_method_11_code
def yX10_addRigger : MethodName := ⟨RX10, "addRigger", "(II)I"⟩
abbrev cX10_setLicences : ByteArray := prog_12_method_12_code
def yX10_setLicences : MethodName := ⟨RX10, "setLicences", "(III)I"⟩
abbrev cX10_addCanopy : ByteArray := prog_12_method_13_code
def yX10_addCanopy : MethodName := ⟨RX10, "addCanopy", "(CIII)I"⟩
abbrev cX10_setPeriod : ByteArray := prog_12_method_14_code
def yX10_setPeriod : MethodName := ⟨RX10, "setPeriod", "(I)I"⟩
abbrev cX10_goOn : ByteArray := prog_12_method_15_code
def yX10_goOn : MethodName := ⟨RX10, "goOn", "(I)I"⟩
abbrev cX10_isReady : ByteArray := prog_12_method_16_code
def yX10_isReady : MethodName := ⟨RX10, "isReady", "(I)Z"⟩
abbrev cX10_isOld : ByteArray := prog_12_method_17_code
def yX10_isOld : MethodName := ⟨RX10, "isOld", "(I)Z"⟩
abbrev cX10_hooksUsed : ByteArray := prog_12_method_18_code
def yX10_hooksUsed : MethodName := ⟨RX10, "hooksUsed", "()I"⟩
abbrev cX10_isUsed : ByteArray := prog_12_method_19_code
def yX10_isUsed : MethodName := ⟨RX10, "isUsed", "(I)Z"⟩
abbrev cX10_hang : ByteArray := prog_12_method_20_code
def yX10_hang : MethodName := ⟨RX10, "hang", "(II)I"⟩
abbrev cX10_finishes : ByteArray := prog_12_method_21_code
def yX10_finishes : MethodName := ⟨RX10, "finishes", "(I)V"⟩
abbrev cX10_step : ByteArray := prog_12_method_22_code
def yX10_step : MethodName := ⟨RX10, "step", "(II)I"⟩
abbrev cX10_breakOff : ByteArray := prog_12_method_23_code
def yX10_breakOff : MethodName := ⟨RX10, "breakOff", "(I)I"⟩
abbrev cX10_sharesHook : ByteArray := prog_12_method_24_code
def yX10_sharesHook : MethodName := ⟨RX10, "sharesHook", "(II)Z"⟩
abbrev cX10_sharesRigger : ByteArray := prog_12_method_25_code
def yX10_sharesRigger : MethodName := ⟨RX10, "sharesRigger", "(II)Z"⟩
abbrev cX10_reaches : ByteArray := prog_12_method_26_code
def yX10_reaches : MethodName := ⟨RX10, "reaches", "(II)Z"⟩
abbrev cX10_isFree : ByteArray := prog_12_method_27_code
def yX10_isFree : MethodName := ⟨RX10, "isFree", "(II)Z"⟩
abbrev cX10_isHeldDown : ByteArray := prog_12_method_28_code
def yX10_isHeldDown : MethodName := ⟨RX10, "isHeldDown", "(I)Z"⟩
abbrev cX10_isFit : ByteArray := prog_12_method_29_code
def yX10_isFit : MethodName := ⟨RX10, "isFit", "(I)Z"⟩
abbrev cX10_finds : ByteArray := prog_12_method_30_code
def yX10_finds : MethodName := ⟨RX10, "finds", "(I)V"⟩
abbrev cX10_find : ByteArray := prog_12_method_31_code
def yX10_find : MethodName := ⟨RX10, "find", "(I)I"⟩
abbrev cX10_isFinding : ByteArray := prog_12_method_32_code
def yX10_isFinding : MethodName := ⟨RX10, "isFinding", "(I)Z"⟩
abbrev cX10_widen : ByteArray := prog_12_method_33_code
def yX10_widen : MethodName := ⟨RX10, "widen", "(I)I"⟩
abbrev cX10_tellCause : ByteArray := prog_12_method_34_code
def yX10_tellCause : MethodName := ⟨RX10, "tellCause", "(IC)C"⟩
abbrev cX10_close : ByteArray := prog_12_method_35_code
def yX10_close : MethodName := ⟨RX10, "close", "(I)Z"⟩
abbrev cX10_grounds : ByteArray := prog_12_method_36_code
def yX10_grounds : MethodName := ⟨RX10, "grounds", "(I)I"⟩
abbrev cX10_repair : ByteArray := prog_12_method_37_code
def yX10_repair : MethodName := ⟨RX10, "repair", "(II)I"⟩
abbrev cX10_drop : ByteArray := prog_12_method_38_code
def yX10_drop : MethodName := ⟨RX10, "drop", "(IZ)I"⟩
abbrev cX10_isLoad : ByteArray := prog_12_method_39_code
def yX10_isLoad : MethodName := ⟨RX10, "isLoad", "(I)Z"⟩
abbrev cX10_load : ByteArray := prog_12_method_40_code
def yX10_load : MethodName := ⟨RX10, "load", "()I"⟩
abbrev cX10_board : ByteArray := prog_12_method_41_code
def yX10_board : MethodName := ⟨RX10, "board", "(III)I"⟩
abbrev cX10_leave : ByteArray := prog_12_method_42_code
def yX10_leave : MethodName := ⟨RX10, "leave", "(I)I"⟩
abbrev cX10_areFit : ByteArray := prog_12_method_43_code
def yX10_areFit : MethodName := ⟨RX10, "areFit", "(I)Z"⟩
abbrev cX10_jump : ByteArray := prog_12_method_44_code
def yX10_jump : MethodName := ⟨RX10, "jump", "(II)I"⟩
abbrev cX10_hire : ByteArray := prog_12_method_45_code
def yX10_hire : MethodName := ⟨RX10, "hire", "(III)I"⟩
abbrev cX10_back : ByteArray := prog_12_method_46_code
def yX10_back : MethodName := ⟨RX10, "back", "(IZZ)I"⟩
abbrev cX10_stateOf : ByteArray := prog_12_method_47_code
def yX10_stateOf : MethodName := ⟨RX10, "stateOf", "(I)C"⟩
abbrev cX10_isGrounded : ByteArray := prog_12_method_48_code
def yX10_isGrounded : MethodName := ⟨RX10, "isGrounded", "(I)Z"⟩
abbrev cX10_isOut : ByteArray := prog_12_method_49_code
def yX10_isOut : MethodName := ⟨RX10, "isOut", "(I)Z"⟩
abbrev cX10_packsOf : ByteArray := prog_12_method_50_code
def yX10_packsOf : MethodName := ⟨RX10, "packsOf", "(I)I"⟩
abbrev cX10_packings : ByteArray := prog_12_method_51_code
def yX10_packings : MethodName := ⟨RX10, "packings", "(I)I"⟩
abbrev cX10_packingOf : ByteArray := prog_12_method_52_code
def yX10_packingOf : MethodName := ⟨RX10, "packingOf", "(IIC)I"⟩
abbrev cX10_jumps : ByteArray := prog_12_method_53_code
def yX10_jumps : MethodName := ⟨RX10, "jumps", "(I)I"⟩
abbrev cX10_sharers : ByteArray := prog_12_method_54_code
def yX10_sharers : MethodName := ⟨RX10, "sharers", "(I)I"⟩
abbrev cX10_next : ByteArray := prog_12_method_55_code
def yX10_next : MethodName := ⟨RX10, "next", "()I"⟩
abbrev cX10_held : ByteArray := prog_12_method_56_code
def yX10_held : MethodName := ⟨RX10, "held", "()J"⟩
abbrev cX10_kept : ByteArray := prog_12_method_57_code
def yX10_kept : MethodName := ⟨RX10, "kept", "()J"⟩
abbrev cX10_groundedShare : ByteArray := prog_12_method_58_code
def yX10_groundedShare : MethodName := ⟨RX10, "groundedShare", "()F"⟩
abbrev cX10_meanDrops : ByteArray := prog_12_method_59_code
def yX10_meanDrops : MethodName := ⟨RX10, "meanDrops", "()D"⟩
abbrev cX10_isSound : ByteArray := prog_12_method_60_code
def yX10_isSound : MethodName := ⟨RX10, "isSound", "()Z"⟩
def RJx145de : String := "java/io/Serializable"
def TJx145de : u_T := fun k => match k with
  | _ => ("", "", "", false)
def tyJx145de : Nat → FieldType := fun k => match k with
  | _ => .int
theorem nmJx145de : ∀ a, a < 0 → ∀ b, b < 0 → a ≠ b → (TJx145de a).2.1 ≠ (TJx145de b).2.1 := by decide +kernel
theorem tyJx145de_ok : ∀ k, k < 0 → parseFieldDescriptor (TJx145de k).2.2.1 = some (tyJx145de k) := by decide +kernel
def RJx00060 : String := "java/lang/ArrayIndexOutOfBoundsException"
def TJx00060 : u_T := fun k => match k with
  | 0 => ("java/lang/Throwable", "backtrace", "Ljava/lang/Object;", false)
  | 1 => ("java/lang/Throwable", "detailMessage", "Ljava/lang/String;", false)
  | 2 => ("java/lang/Throwable", "cause", "Ljava/lang/Throwable;", false)
  | 3 => ("java/lang/Throwable", "stackTrace", "[Ljava/lang/StackTraceElement;", false)
  | 4 => ("java/lang/Throwable", "depth", "I", false)
  | _ => ("java/lang/Throwable", "suppressedExceptions", "Ljava/util/List;", false)
def tyJx00060 : Nat → FieldType := fun k => match k with
  | 0 => .object "java/lang/Object"
  | 1 => .object "java/lang/String"
  | 2 => .object "java/lang/Throwable"
  | 3 => .array (.object "java/lang/StackTraceElement")
  | 4 => .int
  | _ => .object "java/util/List"
theorem nmJx00060 : ∀ a, a < 6 → ∀ b, b < 6 → a ≠ b → (TJx00060 a).2.1 ≠ (TJx00060 b).2.1 := by decide +kernel
theorem tyJx00060_ok : ∀ k, k < 6 → parseFieldDescriptor (TJx00060 k).2.2.1 = some (tyJx00060 k) := by decide +kernel
abbrev cJx00060_init_a7421 : ByteArray := prog_15_method_2_code
def yJx00060_init_a7421 : MethodName := ⟨RJx00060, "<init>", "(Ljava/lang/String;)V"⟩
def RJx29ce0 : String := "java/lang/Enum"
def TJx29ce0 : u_T := fun k => match k with
  | _ => ("", "", "", false)
def tyJx29ce0 : Nat → FieldType := fun k => match k with
  | _ => .int
theorem nmJx29ce0 : ∀ a, a < 0 → ∀ b, b < 0 → a ≠ b → (TJx29ce0 a).2.1 ≠ (TJx29ce0 b).2.1 := by decide +kernel
theorem tyJx29ce0_ok : ∀ k, k < 0 → parseFieldDescriptor (TJx29ce0 k).2.2.1 = some (tyJx29ce0 k) := by decide +kernel
def RJ9 : String := "java/lang/Math"
def TJ9 : u_T := fun k => match k with
  | _ => ("", "", "", false)
def tyJ9 : Nat → FieldType := fun k => match k with
  | _ => .int
theorem nmJ9 : ∀ a, a < 0 → ∀ b, b < 0 → a ≠ b → (TJ9 a).2.1 ≠ (TJ9 b).2.1 := by decide +kernel
theorem tyJ9_ok : ∀ k, k < 0 → parseFieldDescriptor (TJ9 k).2.2.1 = some (tyJ9 k) := by decide +kernel
abbrev cJ9_max_7cf53 : ByteArray := prog_21_method_65_code
def yJ9_max_7cf53 : MethodName := ⟨RJ9, "max", "(II)I"⟩
def RJ0 : String := "java/lang/String"
def TJ0 : u_T := fun k => match k with
  | 0 => ("java/lang/String", "value", "[B", true)
  | _ => ("java/lang/String", "coder", "B", true)
def tyJ0 : Nat → FieldType := fun k => match k with
  | 0 => .array .byte
  | _ => .byte
theorem nmJ0 : ∀ a, a < 2 → ∀ b, b < 2 → a ≠ b → (TJ0 a).2.1 ≠ (TJ0 b).2.1 := by decide +kernel
theorem tyJ0_ok : ∀ k, k < 2 → parseFieldDescriptor (TJ0 k).2.2.1 = some (tyJ0 k) := by decide +kernel
def RL : String := "SilkloftLaw"
abbrev cL_addRigger : ByteArray := method_3_code
def yL_addRigger : MethodName := ⟨RL, "addRigger", "(LSilkloft;II[J)I"⟩
abbrev cL_setLicences : ByteArray := method_4_code
def yL_setLicences : MethodName := ⟨RL, "setLicences", "(LSilkloft;III[J)I"⟩
abbrev cL_addCanopy : ByteArray := method_5_code
def yL_addCanopy : MethodName := ⟨RL, "addCanopy", "(LSilkloft;CIII[J)I"⟩
abbrev cL_setPeriod : ByteArray := method_6_code
def yL_setPeriod : MethodName := ⟨RL, "setPeriod", "(LSilkloft;I[J)I"⟩
abbrev cL_goOn : ByteArray := method_7_code
def yL_goOn : MethodName := ⟨RL, "goOn", "(LSilkloft;I[J)I"⟩
abbrev cL_hang : ByteArray := method_8_code
def yL_hang : MethodName := ⟨RL, "hang", "(LSilkloft;II[J)I"⟩
abbrev cL_step : ByteArray := method_9_code
def yL_step : MethodName := ⟨RL, "step", "(LSilkloft;II[J)I"⟩
abbrev cL_breakOff : ByteArray := method_10_code
def yL_breakOff : MethodName := ⟨RL, "breakOff", "(LSilkloft;I[J)I"⟩
abbrev cL_load : ByteArray := method_11_code
def yL_load : MethodName := ⟨RL, "load", "(LSilkloft;[J)I"⟩
abbrev cL_board : ByteArray := method_12_code
def yL_board : MethodName := ⟨RL, "board", "(LSilkloft;III[J)I"⟩
abbrev cL_leave : ByteArray := method_13_code
def yL_leave : MethodName := ⟨RL, "leave", "(LSilkloft;I[J)I"⟩
abbrev cL_jump : ByteArray := method_14_code
def yL_jump : MethodName := ⟨RL, "jump", "(LSilkloft;II[J)I"⟩
abbrev cL_find : ByteArray := method_15_code
def yL_find : MethodName := ⟨RL, "find", "(LSilkloft;I[J)I"⟩
abbrev cL_widen : ByteArray := method_16_code
def yL_widen : MethodName := ⟨RL, "widen", "(LSilkloft;I[J)I"⟩
abbrev cL_tellCause : ByteArray := method_17_code
def yL_tellCause : MethodName := ⟨RL, "tellCause", "(LSilkloft;IC[J)I"⟩
abbrev cL_close : ByteArray := method_18_code
def yL_close : MethodName := ⟨RL, "close", "(LSilkloft;I[J)I"⟩
abbrev cL_grounds : ByteArray := method_19_code
def yL_grounds : MethodName := ⟨RL, "grounds", "(LSilkloft;I[J)I"⟩
abbrev cL_repair : ByteArray := method_20_code
def yL_repair : MethodName := ⟨RL, "repair", "(LSilkloft;II[J)I"⟩
abbrev cL_drop : ByteArray := method_21_code
def yL_drop : MethodName := ⟨RL, "drop", "(LSilkloft;IZ[J)I"⟩
abbrev cL_hire : ByteArray := method_22_code
def yL_hire : MethodName := ⟨RL, "hire", "(LSilkloft;III[J)I"⟩
abbrev cL_back : ByteArray := method_23_code
def yL_back : MethodName := ⟨RL, "back", "(LSilkloft;IZZ[J)I"⟩
abbrev cL_stateOf : ByteArray := method_24_code
def yL_stateOf : MethodName := ⟨RL, "stateOf", "(LSilkloft;I[J)I"⟩
abbrev cL_isGrounded : ByteArray := method_25_code
def yL_isGrounded : MethodName := ⟨RL, "isGrounded", "(LSilkloft;I[J)I"⟩
abbrev cL_isOut : ByteArray := method_26_code
def yL_isOut : MethodName := ⟨RL, "isOut", "(LSilkloft;I[J)I"⟩
abbrev cL_packings : ByteArray := method_27_code
def yL_packings : MethodName := ⟨RL, "packings", "(LSilkloft;I[J)I"⟩
abbrev cL_packingOf : ByteArray := method_28_code
def yL_packingOf : MethodName := ⟨RL, "packingOf", "(LSilkloft;IIC[J)I"⟩
abbrev cL_jumps : ByteArray := method_29_code
def yL_jumps : MethodName := ⟨RL, "jumps", "(LSilkloft;I[J)I"⟩
abbrev cL_sharers : ByteArray := method_30_code
def yL_sharers : MethodName := ⟨RL, "sharers", "(LSilkloft;I[J)I"⟩
abbrev cL_next : ByteArray := method_31_code
def yL_next : MethodName := ⟨RL, "next", "(LSilkloft;[J)I"⟩
abbrev cL_groundedShare : ByteArray := method_32_code
def yL_groundedShare : MethodName := ⟨RL, "groundedShare", "(LSilkloft;[D)I"⟩
abbrev cL_meanDrops : ByteArray := method_33_code
def yL_meanDrops : MethodName := ⟨RL, "meanDrops", "(LSilkloft;[D)I"⟩
abbrev cL_law : ByteArray := code
def yL_law : MethodName := ⟨RL, "law", "([I)Z"⟩
/-- the words that every method of the claim is given -/
def lw_all : List Cond := lw_tbl.filter goodWord
theorem lw_mem {w : Cond} {i : Nat} (h : lw_tbl[i]? = some w) (g : goodWord w = true) : w ∈ lw_all := List.mem_filter.mpr ⟨List.mem_of_getElem? h, g⟩
theorem lw_in {w : Cond} (h : w ∈ lw_all) : w ∈ lw_tbl := (List.mem_filter.mp h).1
theorem lw_good {w : Cond} (h : w ∈ lw_all) : (w.onTables && w.keeps) = true ∨ ∃ ty, w = .arrayClass ty := good_of_word (List.mem_filter.mp h).2
theorem lw_of1 {w : Cond} (h : w ∈ tables_1) (g : goodWord w = true) : w ∈ lw_all := List.mem_filter.mpr ⟨List.mem_append_right _ h, g⟩
theorem lw_c1 {w : Cond} (h : w ∈ tables_1_1) (g : goodWord w = true) : w ∈ lw_all := lw_of1 (List.mem_append_left _ h) g
theorem lw_c2 {w : Cond} (h : w ∈ tables_1_2) (g : goodWord w = true) : w ∈ lw_all := lw_of1 (List.mem_append_right _ (List.mem_append_left _ h)) g
theorem lw_c3 {w : Cond} (h : w ∈ tables_1_3) (g : goodWord w = true) : w ∈ lw_all := lw_of1 (List.mem_append_right _ (List.mem_append_right _ (List.mem_append_left _ h))) g
theorem lw_c4 {w : Cond} (h : w ∈ tables_1_4) (g : goodWord w = true) : w ∈ lw_all := lw_of1 (List.mem_append_right _ (List.mem_append_right _ (List.mem_append_right _ (List.mem_append_left _ h)))) g
theorem lw_c5 {w : Cond} (h : w ∈ tables_1_5) (g : goodWord w = true) : w ∈ lw_all := lw_of1 (List.mem_append_right _ (List.mem_append_right _ (List.mem_append_right _ (List.mem_append_right _ (List.mem_append_left _ h))))) g
theorem lw_c6 {w : Cond} (h : w ∈ tables_1_6) (g : goodWord w = true) : w ∈ lw_all := lw_of1 (List.mem_append_right _ (List.mem_append_right _ (List.mem_append_right _ (List.mem_append_right _ (List.mem_append_right _ (List.mem_append_left _ h)))))) g
theorem lw_c7 {w : Cond} (h : w ∈ tables_1_7) (g : goodWord w = true) : w ∈ lw_all := lw_of1 (List.mem_append_right _ (List.mem_append_right _ (List.mem_append_right _ (List.mem_append_right _ (List.mem_append_right _ (List.mem_append_right _ h)))))) g
theorem lw_sel {q : MethodName × Nat} (h : q ∈ lw_privs) : Cond.selects q.1.cls q.1 q.1 ∈ lw_all := List.mem_filter.mpr ⟨List.mem_append_left _ (List.mem_map.mpr ⟨q, h, rfl⟩), rfl⟩
theorem m_0 : Jvm.Cond.initialized "SilkloftLaw" ∈ lw_all := lw_c1 (List.mem_of_getElem? (i := 0) rfl) rfl
theorem m_1 : Jvm.Cond.initialized "Silkloft" ∈ lw_all := lw_c1 (List.mem_of_getElem? (i := 1) rfl) rfl
theorem m_2 : Jvm.Cond.initialized "Silkloft$Loft" ∈ lw_all := lw_c1 (List.mem_of_getElem? (i := 2) rfl) rfl
theorem m_3 : Jvm.Cond.initialized "Silkloft$Book" ∈ lw_all := lw_c1 (List.mem_of_getElem? (i := 3) rfl) rfl
theorem m_4 : Jvm.Cond.initialized "Silkloft$Rigger" ∈ lw_all := lw_c1 (List.mem_of_getElem? (i := 4) rfl) rfl
theorem m_5 : Jvm.Cond.initialized "Silkloft$Canopy" ∈ lw_all := lw_c1 (List.mem_of_getElem? (i := 5) rfl) rfl
theorem m_6 : Jvm.Cond.initialized "Silkloft$Load" ∈ lw_all := lw_c1 (List.mem_of_getElem? (i := 6) rfl) rfl
theorem m_7 : Jvm.Cond.initialized "Silkloft$Finding" ∈ lw_all := lw_c1 (List.mem_of_getElem? (i := 7) rfl) rfl
theorem m_8 : Jvm.Cond.initialized "Silkloft$Diary" ∈ lw_all := lw_c1 (List.mem_of_getElem? (i := 8) rfl) rfl
theorem m_9 : Jvm.Cond.initialized "SilkloftModel" ∈ lw_all := lw_c1 (List.mem_of_getElem? (i := 9) rfl) rfl
theorem m_10 : Jvm.Cond.initialized "Silkloft$Rules" ∈ lw_all := lw_c1 (List.mem_of_getElem? (i := 10) rfl) rfl
theorem m_11 : Jvm.Cond.initialized "java/lang/Enum" ∈ lw_all := lw_c1 (List.mem_of_getElem? (i := 11) rfl) rfl
theorem m_12 : Jvm.Cond.initialized "Silkloft$Refusal" ∈ lw_all := lw_c1 (List.mem_of_getElem? (i := 12) rfl) rfl
theorem m_13 : Jvm.Cond.initialized "java/lang/Throwable" ∈ lw_all := lw_c1 (List.mem_of_getElem? (i := 13) rfl) rfl
theorem m_14 : Jvm.Cond.initialized "java/lang/Exception" ∈ lw_all := lw_c1 (List.mem_of_getElem? (i := 14) rfl) rfl
theorem m_15 : Jvm.Cond.initialized "java/lang/RuntimeException" ∈ lw_all := lw_c1 (List.mem_of_getElem? (i := 15) rfl) rfl
theorem m_16 : Jvm.Cond.initialized "java/lang/IndexOutOfBoundsException" ∈ lw_all := lw_c1 (List.mem_of_getElem? (i := 16) rfl) rfl
theorem m_17 : Jvm.Cond.initialized "java/lang/IllegalArgumentException" ∈ lw_all := lw_c1 (List.mem_of_getElem? (i := 17) rfl) rfl
theorem m_18 : Jvm.Cond.initialized "java/lang/UnsupportedOperationException" ∈ lw_all := lw_c1 (List.mem_of_getElem? (i := 18) rfl) rfl
theorem m_19 : Jvm.Cond.initialized "java/lang/IllegalStateException" ∈ lw_all := lw_c1 (List.mem_of_getElem? (i := 19) rfl) rfl
theorem m_20 : Jvm.Cond.initialized "java/lang/Math" ∈ lw_all := lw_c1 (List.mem_of_getElem? (i := 20) rfl) rfl
theorem m_21 : Jvm.Cond.initialized "java/lang/ArrayIndexOutOfBoundsException" ∈ lw_all := lw_c1 (List.mem_of_getElem? (i := 21) rfl) rfl
theorem m_22 : Jvm.Cond.initialized "java/lang/String" ∈ lw_all := lw_c1 (List.mem_of_getElem? (i := 22) rfl) rfl
theorem m_23 : Jvm.Cond.initialized "java/util/NoSuchElementException" ∈ lw_all := lw_c1 (List.mem_of_getElem? (i := 23) rfl) rfl
theorem m_24 : Jvm.Cond.initialized "java/lang/ArithmeticException" ∈ lw_all := lw_c1 (List.mem_of_getElem? (i := 24) rfl) rfl
theorem m_25 : Jvm.Cond.classLink "SilkloftLaw" 8 "Silkloft" ∈ lw_all := lw_c1 (List.mem_of_getElem? (i := 25) rfl) rfl
theorem m_26 : Jvm.Cond.instantiable "Silkloft" 3 ∈ lw_all := lw_c1 (List.mem_of_getElem? (i := 26) rfl) rfl
theorem m_27 : Jvm.Cond.methodLink "SilkloftLaw" 127 yX9_init ∈ lw_all := lw_c1 (List.mem_of_getElem? (i := 27) rfl) rfl
theorem m_28 : Jvm.Cond.instanceMethod yX9_init ∈ lw_all := lw_c1 (List.mem_of_getElem? (i := 28) rfl) rfl
theorem m_29 : Jvm.Cond.code yX9_init prog_1_method_1_code 1 (Option.none : Option Jvm.ClassFile.FieldType) ∈ lw_all := lw_c1 (List.mem_of_getElem? (i := 29) rfl) rfl
theorem m_30 : Jvm.Cond.methodLink "Silkloft" 1 ⟨"java/lang/Object", "<init>", "()V"⟩ ∈ lw_all := lw_c1 (List.mem_of_getElem? (i := 30) rfl) rfl
theorem m_31 : Jvm.Cond.instanceMethod ⟨"java/lang/Object", "<init>", "()V"⟩ ∈ lw_all := lw_c1 (List.mem_of_getElem? (i := 31) rfl) rfl
theorem m_32 : Jvm.Cond.code ⟨"java/lang/Object", "<init>", "()V"⟩ object_method_1_code 1 (Option.none : Option Jvm.ClassFile.FieldType) ∈ lw_all := lw_c1 (List.mem_of_getElem? (i := 32) rfl) rfl
theorem m_33 : Jvm.Cond.classLink "Silkloft" 7 "Silkloft$Loft" ∈ lw_all := lw_c1 (List.mem_of_getElem? (i := 33) rfl) rfl
theorem m_34 : Jvm.Cond.instantiable "Silkloft$Loft" 13 ∈ lw_all := lw_c1 (List.mem_of_getElem? (i := 34) rfl) rfl
theorem m_35 : Jvm.Cond.methodLink "Silkloft" 9 yX5_init ∈ lw_all := lw_c1 (List.mem_of_getElem? (i := 35) rfl) rfl
theorem m_36 : Jvm.Cond.instanceMethod yX5_init ∈ lw_all := lw_c1 (List.mem_of_getElem? (i := 36) rfl) rfl
theorem m_37 : Jvm.Cond.code yX5_init prog_7_method_1_code 2 (Option.none : Option Jvm.ClassFile.FieldType) ∈ lw_all := lw_c1 (List.mem_of_getElem? (i := 37) rfl) rfl
theorem m_38 : Jvm.Cond.methodLink "Silkloft$Loft" 3 ⟨"java/lang/Object", "<init>", "()V"⟩ ∈ lw_all := lw_c1 (List.mem_of_getElem? (i := 38) rfl) rfl
theorem m_39 : Jvm.Cond.classLink "Silkloft$Loft" 9 "Silkloft$Rigger" ∈ lw_all := lw_c1 (List.mem_of_getElem? (i := 39) rfl) rfl
theorem m_41 : Jvm.Cond.classLink "Silkloft$Loft" 17 "Silkloft$Canopy" ∈ lw_all := lw_c1 (List.mem_of_getElem? (i := 41) rfl) rfl
theorem m_43 : Jvm.Cond.classLink "Silkloft$Loft" 23 "Silkloft$Load" ∈ lw_all := lw_c1 (List.mem_of_getElem? (i := 43) rfl) rfl
theorem m_45 : Jvm.Cond.classLink "Silkloft$Loft" 29 "Silkloft$Finding" ∈ lw_all := lw_c1 (List.mem_of_getElem? (i := 45) rfl) rfl
theorem m_47 : Jvm.Cond.classLink "Silkloft$Loft" 35 "Silkloft$Book" ∈ lw_all := lw_c1 (List.mem_of_getElem? (i := 47) rfl) rfl
theorem m_48 : Jvm.Cond.instantiable "Silkloft$Book" 5 ∈ lw_all := lw_c1 (List.mem_of_getElem? (i := 48) rfl) rfl
theorem m_50 : Jvm.Cond.instanceMethod yX0_init ∈ lw_all := lw_c1 (List.mem_of_getElem? (i := 50) rfl) rfl
theorem m_51 : Jvm.Cond.code yX0_init prog_2_method_1_code 1 (Option.none : Option Jvm.ClassFile.FieldType) ∈ lw_all := lw_c1 (List.mem_of_getElem? (i := 51) rfl) rfl
theorem m_52 : Jvm.Cond.methodLink "Silkloft$Book" 3 ⟨"java/lang/Object", "<init>", "()V"⟩ ∈ lw_all := lw_c1 (List.mem_of_getElem? (i := 52) rfl) rfl
theorem m_53 : Jvm.Cond.fieldLink "Silkloft$Book" 24 "Silkloft$Book" "count" "I" ∈ lw_all := lw_c1 (List.mem_of_getElem? (i := 53) rfl) rfl
theorem m_54 : Jvm.Cond.fieldLink "Silkloft$Loft" 62 "Silkloft$Book" "count" "I" ∈ lw_all := lw_c1 (List.mem_of_getElem? (i := 54) rfl) rfl
theorem m_55 : Jvm.Cond.fieldLink "Silkloft$Book" 9 "Silkloft$Book" "owners" "[I" ∈ lw_all := lw_c1 (List.mem_of_getElem? (i := 55) rfl) rfl
theorem m_56 : Jvm.Cond.fieldLink "Silkloft$Book" 15 "Silkloft$Book" "hooks" "[I" ∈ lw_all := lw_c1 (List.mem_of_getElem? (i := 56) rfl) rfl
theorem m_57 : Jvm.Cond.fieldLink "Silkloft$Loft" 304 "Silkloft$Book" "hooks" "[I" ∈ lw_all := lw_c1 (List.mem_of_getElem? (i := 57) rfl) rfl
theorem m_58 : Jvm.Cond.fieldLink "Silkloft$Book" 18 "Silkloft$Book" "days" "[I" ∈ lw_all := lw_c1 (List.mem_of_getElem? (i := 58) rfl) rfl
theorem m_59 : Jvm.Cond.fieldLink "Silkloft$Loft" 281 "Silkloft$Book" "days" "[I" ∈ lw_all := lw_c1 (List.mem_of_getElem? (i := 59) rfl) rfl
theorem m_60 : Jvm.Cond.fieldLink "Silkloft$Book" 21 "Silkloft$Book" "riggers" "[I" ∈ lw_all := lw_c1 (List.mem_of_getElem? (i := 60) rfl) rfl
theorem m_61 : Jvm.Cond.lays "Silkloft$Book" "Silkloft$Book" "count" "I" ∈ lw_all := lw_c1 (List.mem_of_getElem? (i := 61) rfl) rfl
theorem m_63 : Jvm.Cond.laysFinal "Silkloft$Book" "Silkloft$Book" "owners" "[I" ∈ lw_all := lw_c1 (List.mem_of_getElem? (i := 63) rfl) rfl
theorem m_65 : Jvm.Cond.laysFinal "Silkloft$Book" "Silkloft$Book" "hooks" "[I" ∈ lw_all := lw_c1 (List.mem_of_getElem? (i := 65) rfl) rfl
theorem m_67 : Jvm.Cond.laysFinal "Silkloft$Book" "Silkloft$Book" "days" "[I" ∈ lw_all := lw_c1 (List.mem_of_getElem? (i := 67) rfl) rfl
theorem m_69 : Jvm.Cond.laysFinal "Silkloft$Book" "Silkloft$Book" "riggers" "[I" ∈ lw_all := lw_c1 (List.mem_of_getElem? (i := 69) rfl) rfl
theorem m_72 : Jvm.Cond.arrayClass Jvm.ClassFile.FieldType.int ∈ lw_all := lw_c1 (List.mem_of_getElem? (i := 72) rfl) rfl
theorem m_73 : Jvm.Cond.instantiable "Silkloft$Rigger" 2 ∈ lw_all := lw_c1 (List.mem_of_getElem? (i := 73) rfl) rfl
theorem m_75 : Jvm.Cond.instanceMethod yX7_init ∈ lw_all := lw_c1 (List.mem_of_getElem? (i := 75) rfl) rfl
theorem m_76 : Jvm.Cond.code yX7_init prog_9_method_1_code 1 (Option.none : Option Jvm.ClassFile.FieldType) ∈ lw_all := lw_c1 (List.mem_of_getElem? (i := 76) rfl) rfl
theorem m_77 : Jvm.Cond.methodLink "Silkloft$Rigger" 1 ⟨"java/lang/Object", "<init>", "()V"⟩ ∈ lw_all := lw_c1 (List.mem_of_getElem? (i := 77) rfl) rfl
theorem m_78 : Jvm.Cond.fieldLink "Silkloft$Rigger" 7 "Silkloft$Rigger" "licences" "I" ∈ lw_all := lw_c1 (List.mem_of_getElem? (i := 78) rfl) rfl
theorem m_79 : Jvm.Cond.fieldLink "Silkloft$Loft" 153 "Silkloft$Rigger" "licences" "I" ∈ lw_all := lw_c1 (List.mem_of_getElem? (i := 79) rfl) rfl
theorem m_80 : Jvm.Cond.fieldLink "Silkloft$Rigger" 13 "Silkloft$Rigger" "until" "I" ∈ lw_all := lw_c1 (List.mem_of_getElem? (i := 80) rfl) rfl
theorem m_81 : Jvm.Cond.lays "Silkloft$Rigger" "Silkloft$Rigger" "licences" "I" ∈ lw_all := lw_c1 (List.mem_of_getElem? (i := 81) rfl) rfl
theorem m_83 : Jvm.Cond.lays "Silkloft$Rigger" "Silkloft$Rigger" "until" "I" ∈ lw_all := lw_c1 (List.mem_of_getElem? (i := 83) rfl) rfl
theorem m_86 : Jvm.Cond.instantiable "Silkloft$Canopy" 20 ∈ lw_all := lw_c1 (List.mem_of_getElem? (i := 86) rfl) rfl
theorem m_88 : Jvm.Cond.instanceMethod yX1_init ∈ lw_all := lw_c1 (List.mem_of_getElem? (i := 88) rfl) rfl
theorem m_89 : Jvm.Cond.code yX1_init prog_3_method_1_code 1 (Option.none : Option Jvm.ClassFile.FieldType) ∈ lw_all := lw_c1 (List.mem_of_getElem? (i := 89) rfl) rfl
theorem m_90 : Jvm.Cond.methodLink "Silkloft$Canopy" 3 ⟨"java/lang/Object", "<init>", "()V"⟩ ∈ lw_all := lw_c1 (List.mem_of_getElem? (i := 90) rfl) rfl
theorem m_91 : Jvm.Cond.fieldLink "Silkloft$Canopy" 15 "Silkloft$Canopy" "kind" "C" ∈ lw_all := lw_c1 (List.mem_of_getElem? (i := 91) rfl) rfl
theorem m_92 : Jvm.Cond.fieldLink "Silkloft$Rules" 144 "Silkloft$Canopy" "kind" "C" ∈ lw_all := lw_c1 (List.mem_of_getElem? (i := 92) rfl) rfl
theorem m_93 : Jvm.Cond.fieldLink "Silkloft$Loft" 275 "Silkloft$Canopy" "kind" "C" ∈ lw_all := lw_c1 (List.mem_of_getElem? (i := 93) rfl) rfl
theorem m_94 : Jvm.Cond.fieldLink "Silkloft$Canopy" 19 "Silkloft$Canopy" "cloth" "I" ∈ lw_all := lw_c1 (List.mem_of_getElem? (i := 94) rfl) rfl
theorem m_95 : Jvm.Cond.fieldLink "Silkloft$Loft" 298 "Silkloft$Canopy" "cloth" "I" ∈ lw_all := lw_c1 (List.mem_of_getElem? (i := 95) rfl) rfl
theorem m_96 : Jvm.Cond.fieldLink "Silkloft$Canopy" 23 "Silkloft$Canopy" "lines" "I" ∈ lw_all := lw_c1 (List.mem_of_getElem? (i := 96) rfl) rfl
theorem m_97 : Jvm.Cond.fieldLink "Silkloft$Loft" 295 "Silkloft$Canopy" "lines" "I" ∈ lw_all := lw_c1 (List.mem_of_getElem? (i := 97) rfl) rfl
theorem m_98 : Jvm.Cond.fieldLink "Silkloft$Canopy" 26 "Silkloft$Canopy" "life" "I" ∈ lw_all := lw_c1 (List.mem_of_getElem? (i := 98) rfl) rfl
theorem m_99 : Jvm.Cond.fieldLink "Silkloft$Loft" 272 "Silkloft$Canopy" "life" "I" ∈ lw_all := lw_c1 (List.mem_of_getElem? (i := 99) rfl) rfl
theorem m_100 : Jvm.Cond.fieldLink "Silkloft$Canopy" 29 "Silkloft$Canopy" "added" "I" ∈ lw_all := lw_c1 (List.mem_of_getElem? (i := 100) rfl) rfl
theorem m_101 : Jvm.Cond.fieldLink "Silkloft$Loft" 269 "Silkloft$Canopy" "added" "I" ∈ lw_all := lw_c1 (List.mem_of_getElem? (i := 101) rfl) rfl
theorem m_102 : Jvm.Cond.fieldLink "Silkloft$Canopy" 32 "Silkloft$Canopy" "state" "C" ∈ lw_all := lw_c1 (List.mem_of_getElem? (i := 102) rfl) rfl
theorem m_103 : Jvm.Cond.fieldLink "Silkloft$Rules" 113 "Silkloft$Canopy" "state" "C" ∈ lw_all := lw_c1 (List.mem_of_getElem? (i := 103) rfl) rfl
theorem m_104 : Jvm.Cond.fieldLink "Silkloft$Loft" 160 "Silkloft$Canopy" "state" "C" ∈ lw_all := lw_c1 (List.mem_of_getElem? (i := 104) rfl) rfl
theorem m_105 : Jvm.Cond.fieldLink "Silkloft" 49 "Silkloft$Canopy" "state" "C" ∈ lw_all := lw_c1 (List.mem_of_getElem? (i := 105) rfl) rfl
theorem m_106 : Jvm.Cond.fieldLink "Silkloft$Canopy" 35 "Silkloft$Canopy" "hook" "I" ∈ lw_all := lw_c1 (List.mem_of_getElem? (i := 106) rfl) rfl
theorem m_107 : Jvm.Cond.fieldLink "Silkloft$Loft" 164 "Silkloft$Canopy" "hook" "I" ∈ lw_all := lw_c1 (List.mem_of_getElem? (i := 107) rfl) rfl
theorem m_108 : Jvm.Cond.fieldLink "Silkloft$Canopy" 38 "Silkloft$Canopy" "stepsDone" "I" ∈ lw_all := lw_c1 (List.mem_of_getElem? (i := 108) rfl) rfl
theorem m_109 : Jvm.Cond.fieldLink "Silkloft$Rules" 125 "Silkloft$Canopy" "stepsDone" "I" ∈ lw_all := lw_c1 (List.mem_of_getElem? (i := 109) rfl) rfl
theorem m_110 : Jvm.Cond.fieldLink "Silkloft$Loft" 167 "Silkloft$Canopy" "stepsDone" "I" ∈ lw_all := lw_c1 (List.mem_of_getElem? (i := 110) rfl) rfl
theorem m_111 : Jvm.Cond.fieldLink "Silkloft$Canopy" 9 "Silkloft$Canopy" "stepRiggers" "[I" ∈ lw_all := lw_c1 (List.mem_of_getElem? (i := 111) rfl) rfl
theorem m_112 : Jvm.Cond.fieldLink "Silkloft$Rules" 137 "Silkloft$Canopy" "stepRiggers" "[I" ∈ lw_all := lw_c1 (List.mem_of_getElem? (i := 112) rfl) rfl
theorem m_113 : Jvm.Cond.fieldLink "Silkloft$Loft" 170 "Silkloft$Canopy" "stepRiggers" "[I" ∈ lw_all := lw_c1 (List.mem_of_getElem? (i := 113) rfl) rfl
theorem m_114 : Jvm.Cond.fieldLink "Silkloft$Canopy" 41 "Silkloft$Canopy" "packingCount" "I" ∈ lw_all := lw_c1 (List.mem_of_getElem? (i := 114) rfl) rfl
theorem m_115 : Jvm.Cond.fieldLink "Silkloft$Loft" 189 "Silkloft$Canopy" "packingCount" "I" ∈ lw_all := lw_c1 (List.mem_of_getElem? (i := 115) rfl) rfl
theorem m_116 : Jvm.Cond.fieldLink "Silkloft" 62 "Silkloft$Canopy" "packingCount" "I" ∈ lw_all := lw_c1 (List.mem_of_getElem? (i := 116) rfl) rfl
theorem m_117 : Jvm.Cond.fieldLink "Silkloft$Canopy" 44 "Silkloft$Canopy" "latestPacking" "I" ∈ lw_all := lw_c1 (List.mem_of_getElem? (i := 117) rfl) rfl
theorem m_118 : Jvm.Cond.fieldLink "Silkloft$Loft" 186 "Silkloft$Canopy" "latestPacking" "I" ∈ lw_all := lw_c1 (List.mem_of_getElem? (i := 118) rfl) rfl
theorem m_119 : Jvm.Cond.fieldLink "Silkloft$Canopy" 47 "Silkloft$Canopy" "hooksEver" "I" ∈ lw_all := lw_c1 (List.mem_of_getElem? (i := 119) rfl) rfl
theorem m_120 : Jvm.Cond.fieldLink "Silkloft$Loft" 192 "Silkloft$Canopy" "hooksEver" "I" ∈ lw_all := lw_c1 (List.mem_of_getElem? (i := 120) rfl) rfl
theorem m_121 : Jvm.Cond.fieldLink "Silkloft$Canopy" 50 "Silkloft$Canopy" "handsEver" "J" ∈ lw_all := lw_c1 (List.mem_of_getElem? (i := 121) rfl) rfl
theorem m_122 : Jvm.Cond.fieldLink "Silkloft$Loft" 195 "Silkloft$Canopy" "handsEver" "J" ∈ lw_all := lw_c1 (List.mem_of_getElem? (i := 122) rfl) rfl
theorem m_123 : Jvm.Cond.fieldLink "Silkloft$Canopy" 54 "Silkloft$Canopy" "jumpCount" "I" ∈ lw_all := lw_c1 (List.mem_of_getElem? (i := 123) rfl) rfl
theorem m_124 : Jvm.Cond.fieldLink "Silkloft" 83 "Silkloft$Canopy" "jumpCount" "I" ∈ lw_all := lw_c1 (List.mem_of_getElem? (i := 124) rfl) rfl
theorem m_125 : Jvm.Cond.fieldLink "Silkloft$Canopy" 57 "Silkloft$Canopy" "repairCount" "I" ∈ lw_all := lw_c1 (List.mem_of_getElem? (i := 125) rfl) rfl
theorem m_126 : Jvm.Cond.fieldLink "Silkloft$Loft" 238 "Silkloft$Canopy" "repairCount" "I" ∈ lw_all := lw_c1 (List.mem_of_getElem? (i := 126) rfl) rfl
theorem m_127 : Jvm.Cond.fieldLink "Silkloft$Canopy" 60 "Silkloft$Canopy" "goodDrops" "I" ∈ lw_all := lw_c1 (List.mem_of_getElem? (i := 127) rfl) rfl
theorem m_128 : Jvm.Cond.fieldLink "Silkloft$Loft" 248 "Silkloft$Canopy" "goodDrops" "I" ∈ lw_all := lw_c1 (List.mem_of_getElem? (i := 128) rfl) rfl
theorem m_129 : Jvm.Cond.fieldLink "Silkloft$Canopy" 63 "Silkloft$Canopy" "lastGoodDrop" "I" ∈ lw_all := lw_c1 (List.mem_of_getElem? (i := 129) rfl) rfl
theorem m_130 : Jvm.Cond.fieldLink "Silkloft$Canopy" 66 "Silkloft$Canopy" "goodDropBefore" "I" ∈ lw_all := lw_c1 (List.mem_of_getElem? (i := 130) rfl) rfl
theorem m_131 : Jvm.Cond.fieldLink "Silkloft$Loft" 310 "Silkloft$Canopy" "goodDropBefore" "I" ∈ lw_all := lw_c1 (List.mem_of_getElem? (i := 131) rfl) rfl
theorem m_132 : Jvm.Cond.fieldLink "Silkloft$Canopy" 69 "Silkloft$Canopy" "dueBack" "I" ∈ lw_all := lw_c1 (List.mem_of_getElem? (i := 132) rfl) rfl
theorem m_133 : Jvm.Cond.fieldLink "Silkloft$Loft" 251 "Silkloft$Canopy" "dueBack" "I" ∈ lw_all := lw_c1 (List.mem_of_getElem? (i := 133) rfl) rfl
theorem m_134 : Jvm.Cond.fieldLink "Silkloft$Canopy" 72 "Silkloft$Canopy" "deposit" "I" ∈ lw_all := lw_c1 (List.mem_of_getElem? (i := 134) rfl) rfl
theorem m_135 : Jvm.Cond.fieldLink "Silkloft$Loft" 254 "Silkloft$Canopy" "deposit" "I" ∈ lw_all := lw_c1 (List.mem_of_getElem? (i := 135) rfl) rfl
theorem m_136 : Jvm.Cond.lays "Silkloft$Canopy" "Silkloft$Canopy" "kind" "C" ∈ lw_all := lw_c1 (List.mem_of_getElem? (i := 136) rfl) rfl
theorem m_138 : Jvm.Cond.lays "Silkloft$Canopy" "Silkloft$Canopy" "cloth" "I" ∈ lw_all := lw_c1 (List.mem_of_getElem? (i := 138) rfl) rfl
theorem m_140 : Jvm.Cond.lays "Silkloft$Canopy" "Silkloft$Canopy" "lines" "I" ∈ lw_all := lw_c1 (List.mem_of_getElem? (i := 140) rfl) rfl
theorem m_142 : Jvm.Cond.lays "Silkloft$Canopy" "Silkloft$Canopy" "life" "I" ∈ lw_all := lw_c1 (List.mem_of_getElem? (i := 142) rfl) rfl
theorem m_144 : Jvm.Cond.lays "Silkloft$Canopy" "Silkloft$Canopy" "added" "I" ∈ lw_all := lw_c1 (List.mem_of_getElem? (i := 144) rfl) rfl
theorem m_146 : Jvm.Cond.lays "Silkloft$Canopy" "Silkloft$Canopy" "state" "C" ∈ lw_all := lw_c1 (List.mem_of_getElem? (i := 146) rfl) rfl
theorem m_148 : Jvm.Cond.lays "Silkloft$Canopy" "Silkloft$Canopy" "hook" "I" ∈ lw_all := lw_c1 (List.mem_of_getElem? (i := 148) rfl) rfl
theorem m_150 : Jvm.Cond.lays "Silkloft$Canopy" "Silkloft$Canopy" "stepsDone" "I" ∈ lw_all := lw_c1 (List.mem_of_getElem? (i := 150) rfl) rfl
theorem m_152 : Jvm.Cond.laysFinal "Silkloft$Canopy" "Silkloft$Canopy" "stepRiggers" "[I" ∈ lw_all := lw_c1 (List.mem_of_getElem? (i := 152) rfl) rfl
theorem m_154 : Jvm.Cond.lays "Silkloft$Canopy" "Silkloft$Canopy" "packingCount" "I" ∈ lw_all := lw_c1 (List.mem_of_getElem? (i := 154) rfl) rfl
theorem m_156 : Jvm.Cond.lays "Silkloft$Canopy" "Silkloft$Canopy" "latestPacking" "I" ∈ lw_all := lw_c1 (List.mem_of_getElem? (i := 156) rfl) rfl
theorem m_158 : Jvm.Cond.lays "Silkloft$Canopy" "Silkloft$Canopy" "hooksEver" "I" ∈ lw_all := lw_c1 (List.mem_of_getElem? (i := 158) rfl) rfl
theorem m_160 : Jvm.Cond.lays "Silkloft$Canopy" "Silkloft$Canopy" "handsEver" "J" ∈ lw_all := lw_c1 (List.mem_of_getElem? (i := 160) rfl) rfl
theorem m_162 : Jvm.Cond.lays "Silkloft$Canopy" "Silkloft$Canopy" "jumpCount" "I" ∈ lw_all := lw_c1 (List.mem_of_getElem? (i := 162) rfl) rfl
theorem m_164 : Jvm.Cond.lays "Silkloft$Canopy" "Silkloft$Canopy" "repairCount" "I" ∈ lw_all := lw_c1 (List.mem_of_getElem? (i := 164) rfl) rfl
theorem m_166 : Jvm.Cond.lays "Silkloft$Canopy" "Silkloft$Canopy" "goodDrops" "I" ∈ lw_all := lw_c1 (List.mem_of_getElem? (i := 166) rfl) rfl
theorem m_168 : Jvm.Cond.lays "Silkloft$Canopy" "Silkloft$Canopy" "lastGoodDrop" "I" ∈ lw_all := lw_c1 (List.mem_of_getElem? (i := 168) rfl) rfl
theorem m_170 : Jvm.Cond.lays "Silkloft$Canopy" "Silkloft$Canopy" "goodDropBefore" "I" ∈ lw_all := lw_c1 (List.mem_of_getElem? (i := 170) rfl) rfl
theorem m_172 : Jvm.Cond.lays "Silkloft$Canopy" "Silkloft$Canopy" "dueBack" "I" ∈ lw_all := lw_c1 (List.mem_of_getElem? (i := 172) rfl) rfl
theorem m_174 : Jvm.Cond.lays "Silkloft$Canopy" "Silkloft$Canopy" "deposit" "I" ∈ lw_all := lw_c1 (List.mem_of_getElem? (i := 174) rfl) rfl
theorem m_177 : Jvm.Cond.instantiable "Silkloft$Load" 4 ∈ lw_all := lw_c1 (List.mem_of_getElem? (i := 177) rfl) rfl
theorem m_179 : Jvm.Cond.instanceMethod yX4_init ∈ lw_all := lw_c1 (List.mem_of_getElem? (i := 179) rfl) rfl
theorem m_180 : Jvm.Cond.code yX4_init prog_6_method_1_code 1 (Option.none : Option Jvm.ClassFile.FieldType) ∈ lw_all := lw_c1 (List.mem_of_getElem? (i := 180) rfl) rfl
theorem m_181 : Jvm.Cond.methodLink "Silkloft$Load" 3 ⟨"java/lang/Object", "<init>", "()V"⟩ ∈ lw_all := lw_c1 (List.mem_of_getElem? (i := 181) rfl) rfl
theorem m_182 : Jvm.Cond.fieldLink "Silkloft$Load" 18 "Silkloft$Load" "aboard" "I" ∈ lw_all := lw_c1 (List.mem_of_getElem? (i := 182) rfl) rfl
theorem m_183 : Jvm.Cond.fieldLink "Silkloft$Rules" 160 "Silkloft$Load" "aboard" "I" ∈ lw_all := lw_c1 (List.mem_of_getElem? (i := 183) rfl) rfl
theorem m_184 : Jvm.Cond.fieldLink "Silkloft$Loft" 207 "Silkloft$Load" "aboard" "I" ∈ lw_all := lw_c1 (List.mem_of_getElem? (i := 184) rfl) rfl
theorem m_185 : Jvm.Cond.fieldLink "Silkloft$Load" 22 "Silkloft$Load" "hasJumped" "Z" ∈ lw_all := lw_c1 (List.mem_of_getElem? (i := 185) rfl) rfl
theorem m_186 : Jvm.Cond.fieldLink "Silkloft$Rules" 151 "Silkloft$Load" "hasJumped" "Z" ∈ lw_all := lw_c1 (List.mem_of_getElem? (i := 186) rfl) rfl
theorem m_187 : Jvm.Cond.fieldLink "Silkloft$Loft" 216 "Silkloft$Load" "hasJumped" "Z" ∈ lw_all := lw_c1 (List.mem_of_getElem? (i := 187) rfl) rfl
theorem m_188 : Jvm.Cond.fieldLink "Silkloft$Load" 9 "Silkloft$Load" "mains" "[I" ∈ lw_all := lw_c1 (List.mem_of_getElem? (i := 188) rfl) rfl
theorem m_189 : Jvm.Cond.fieldLink "Silkloft$Rules" 163 "Silkloft$Load" "mains" "[I" ∈ lw_all := lw_c1 (List.mem_of_getElem? (i := 189) rfl) rfl
theorem m_190 : Jvm.Cond.fieldLink "Silkloft$Loft" 204 "Silkloft$Load" "mains" "[I" ∈ lw_all := lw_c1 (List.mem_of_getElem? (i := 190) rfl) rfl
theorem m_191 : Jvm.Cond.fieldLink "Silkloft$Load" 15 "Silkloft$Load" "reserves" "[I" ∈ lw_all := lw_c1 (List.mem_of_getElem? (i := 191) rfl) rfl
theorem m_192 : Jvm.Cond.fieldLink "Silkloft$Rules" 166 "Silkloft$Load" "reserves" "[I" ∈ lw_all := lw_c1 (List.mem_of_getElem? (i := 192) rfl) rfl
theorem m_193 : Jvm.Cond.fieldLink "Silkloft$Loft" 210 "Silkloft$Load" "reserves" "[I" ∈ lw_all := lw_c1 (List.mem_of_getElem? (i := 193) rfl) rfl
theorem m_194 : Jvm.Cond.lays "Silkloft$Load" "Silkloft$Load" "aboard" "I" ∈ lw_all := lw_c1 (List.mem_of_getElem? (i := 194) rfl) rfl
theorem m_196 : Jvm.Cond.lays "Silkloft$Load" "Silkloft$Load" "hasJumped" "Z" ∈ lw_all := lw_c1 (List.mem_of_getElem? (i := 196) rfl) rfl
theorem m_198 : Jvm.Cond.laysFinal "Silkloft$Load" "Silkloft$Load" "mains" "[I" ∈ lw_all := lw_c1 (List.mem_of_getElem? (i := 198) rfl) rfl
theorem m_200 : Jvm.Cond.laysFinal "Silkloft$Load" "Silkloft$Load" "reserves" "[I" ∈ lw_all := lw_c1 (List.mem_of_getElem? (i := 200) rfl) rfl
theorem m_203 : Jvm.Cond.instantiable "Silkloft$Finding" 7 ∈ lw_all := lw_c1 (List.mem_of_getElem? (i := 203) rfl) rfl
theorem m_205 : Jvm.Cond.instanceMethod yX3_init ∈ lw_all := lw_c1 (List.mem_of_getElem? (i := 205) rfl) rfl
theorem m_206 : Jvm.Cond.code yX3_init prog_5_method_1_code 1 (Option.none : Option Jvm.ClassFile.FieldType) ∈ lw_all := lw_c1 (List.mem_of_getElem? (i := 206) rfl) rfl
theorem m_207 : Jvm.Cond.methodLink "Silkloft$Finding" 3 ⟨"java/lang/Object", "<init>", "()V"⟩ ∈ lw_all := lw_c1 (List.mem_of_getElem? (i := 207) rfl) rfl
theorem m_208 : Jvm.Cond.fieldLink "Silkloft$Finding" 9 "Silkloft$Finding" "canopy" "I" ∈ lw_all := lw_c1 (List.mem_of_getElem? (i := 208) rfl) rfl
theorem m_209 : Jvm.Cond.fieldLink "Silkloft$Loft" 232 "Silkloft$Finding" "canopy" "I" ∈ lw_all := lw_c1 (List.mem_of_getElem? (i := 209) rfl) rfl
theorem m_210 : Jvm.Cond.fieldLink "Silkloft$Finding" 15 "Silkloft$Finding" "packing" "I" ∈ lw_all := lw_c1 (List.mem_of_getElem? (i := 210) rfl) rfl
theorem m_211 : Jvm.Cond.fieldLink "Silkloft$Rules" 187 "Silkloft$Finding" "packing" "I" ∈ lw_all := lw_c1 (List.mem_of_getElem? (i := 211) rfl) rfl
theorem m_212 : Jvm.Cond.fieldLink "Silkloft$Loft" 301 "Silkloft$Finding" "packing" "I" ∈ lw_all := lw_c1 (List.mem_of_getElem? (i := 212) rfl) rfl
theorem m_213 : Jvm.Cond.fieldLink "Silkloft$Finding" 18 "Silkloft$Finding" "level" "I" ∈ lw_all := lw_c1 (List.mem_of_getElem? (i := 213) rfl) rfl
theorem m_214 : Jvm.Cond.fieldLink "Silkloft$Rules" 184 "Silkloft$Finding" "level" "I" ∈ lw_all := lw_c1 (List.mem_of_getElem? (i := 214) rfl) rfl
theorem m_215 : Jvm.Cond.fieldLink "Silkloft$Loft" 223 "Silkloft$Finding" "level" "I" ∈ lw_all := lw_c1 (List.mem_of_getElem? (i := 215) rfl) rfl
theorem m_216 : Jvm.Cond.fieldLink "Silkloft$Finding" 21 "Silkloft$Finding" "cause" "C" ∈ lw_all := lw_c1 (List.mem_of_getElem? (i := 216) rfl) rfl
theorem m_217 : Jvm.Cond.fieldLink "Silkloft$Rules" 181 "Silkloft$Finding" "cause" "C" ∈ lw_all := lw_c1 (List.mem_of_getElem? (i := 217) rfl) rfl
theorem m_218 : Jvm.Cond.fieldLink "Silkloft$Loft" 226 "Silkloft$Finding" "cause" "C" ∈ lw_all := lw_c1 (List.mem_of_getElem? (i := 218) rfl) rfl
theorem m_219 : Jvm.Cond.fieldLink "Silkloft$Finding" 25 "Silkloft$Finding" "isClosed" "Z" ∈ lw_all := lw_c1 (List.mem_of_getElem? (i := 219) rfl) rfl
theorem m_220 : Jvm.Cond.fieldLink "Silkloft$Rules" 176 "Silkloft$Finding" "isClosed" "Z" ∈ lw_all := lw_c1 (List.mem_of_getElem? (i := 220) rfl) rfl
theorem m_221 : Jvm.Cond.fieldLink "Silkloft$Loft" 229 "Silkloft$Finding" "isClosed" "Z" ∈ lw_all := lw_c1 (List.mem_of_getElem? (i := 221) rfl) rfl
theorem m_222 : Jvm.Cond.fieldLink "Silkloft$Finding" 29 "Silkloft$Finding" "madeBy" "I" ∈ lw_all := lw_c1 (List.mem_of_getElem? (i := 222) rfl) rfl
theorem m_223 : Jvm.Cond.fieldLink "Silkloft$Loft" 307 "Silkloft$Finding" "madeBy" "I" ∈ lw_all := lw_c1 (List.mem_of_getElem? (i := 223) rfl) rfl
theorem m_224 : Jvm.Cond.fieldLink "Silkloft$Finding" 32 "Silkloft$Finding" "repairedBy" "I" ∈ lw_all := lw_c1 (List.mem_of_getElem? (i := 224) rfl) rfl
theorem m_225 : Jvm.Cond.fieldLink "Silkloft$Loft" 235 "Silkloft$Finding" "repairedBy" "I" ∈ lw_all := lw_c1 (List.mem_of_getElem? (i := 225) rfl) rfl
theorem m_226 : Jvm.Cond.lays "Silkloft$Finding" "Silkloft$Finding" "canopy" "I" ∈ lw_all := lw_c1 (List.mem_of_getElem? (i := 226) rfl) rfl
theorem m_228 : Jvm.Cond.lays "Silkloft$Finding" "Silkloft$Finding" "packing" "I" ∈ lw_all := lw_c1 (List.mem_of_getElem? (i := 228) rfl) rfl
theorem m_230 : Jvm.Cond.lays "Silkloft$Finding" "Silkloft$Finding" "level" "I" ∈ lw_all := lw_c1 (List.mem_of_getElem? (i := 230) rfl) rfl
theorem m_232 : Jvm.Cond.lays "Silkloft$Finding" "Silkloft$Finding" "cause" "C" ∈ lw_all := lw_c1 (List.mem_of_getElem? (i := 232) rfl) rfl
theorem m_234 : Jvm.Cond.lays "Silkloft$Finding" "Silkloft$Finding" "isClosed" "Z" ∈ lw_all := lw_c1 (List.mem_of_getElem? (i := 234) rfl) rfl
theorem m_236 : Jvm.Cond.lays "Silkloft$Finding" "Silkloft$Finding" "madeBy" "I" ∈ lw_all := lw_c1 (List.mem_of_getElem? (i := 236) rfl) rfl
theorem m_238 : Jvm.Cond.lays "Silkloft$Finding" "Silkloft$Finding" "repairedBy" "I" ∈ lw_all := lw_c1 (List.mem_of_getElem? (i := 238) rfl) rfl
theorem m_241 : Jvm.Cond.fieldLink "Silkloft$Loft" 11 "Silkloft$Loft" "riggers" "[LSilkloft$Rigger;" ∈ lw_all := lw_c2 (List.mem_of_getElem? (i := 1) rfl) rfl
theorem m_242 : Jvm.Cond.fieldLink "Silkloft$Rules" 128 "Silkloft$Loft" "riggers" "[LSilkloft$Rigger;" ∈ lw_all := lw_c2 (List.mem_of_getElem? (i := 2) rfl) rfl
theorem m_243 : Jvm.Cond.fieldLink "Silkloft$Loft" 19 "Silkloft$Loft" "canopies" "[LSilkloft$Canopy;" ∈ lw_all := lw_c2 (List.mem_of_getElem? (i := 3) rfl) rfl
theorem m_244 : Jvm.Cond.fieldLink "Silkloft$Rules" 109 "Silkloft$Loft" "canopies" "[LSilkloft$Canopy;" ∈ lw_all := lw_c2 (List.mem_of_getElem? (i := 4) rfl) rfl
theorem m_245 : Jvm.Cond.fieldLink "Silkloft" 139 "Silkloft$Loft" "canopies" "[LSilkloft$Canopy;" ∈ lw_all := lw_c2 (List.mem_of_getElem? (i := 5) rfl) rfl
theorem m_246 : Jvm.Cond.fieldLink "Silkloft$Loft" 25 "Silkloft$Loft" "loads" "[LSilkloft$Load;" ∈ lw_all := lw_c2 (List.mem_of_getElem? (i := 6) rfl) rfl
theorem m_247 : Jvm.Cond.fieldLink "Silkloft$Rules" 147 "Silkloft$Loft" "loads" "[LSilkloft$Load;" ∈ lw_all := lw_c2 (List.mem_of_getElem? (i := 7) rfl) rfl
theorem m_248 : Jvm.Cond.fieldLink "Silkloft$Loft" 31 "Silkloft$Loft" "findings" "[LSilkloft$Finding;" ∈ lw_all := lw_c2 (List.mem_of_getElem? (i := 8) rfl) rfl
theorem m_249 : Jvm.Cond.fieldLink "Silkloft$Rules" 172 "Silkloft$Loft" "findings" "[LSilkloft$Finding;" ∈ lw_all := lw_c2 (List.mem_of_getElem? (i := 9) rfl) rfl
theorem m_250 : Jvm.Cond.fieldLink "Silkloft$Loft" 38 "Silkloft$Loft" "book" "LSilkloft$Book;" ∈ lw_all := lw_c2 (List.mem_of_getElem? (i := 10) rfl) rfl
theorem m_251 : Jvm.Cond.fieldLink "Silkloft" 73 "Silkloft$Loft" "book" "LSilkloft$Book;" ∈ lw_all := lw_c2 (List.mem_of_getElem? (i := 11) rfl) rfl
theorem m_252 : Jvm.Cond.fieldLink "Silkloft$Loft" 50 "Silkloft$Loft" "riggerCount" "I" ∈ lw_all := lw_c2 (List.mem_of_getElem? (i := 12) rfl) rfl
theorem m_253 : Jvm.Cond.fieldLink "Silkloft$Rules" 94 "Silkloft$Loft" "riggerCount" "I" ∈ lw_all := lw_c2 (List.mem_of_getElem? (i := 13) rfl) rfl
theorem m_254 : Jvm.Cond.fieldLink "Silkloft$Loft" 53 "Silkloft$Loft" "canopyCount" "I" ∈ lw_all := lw_c2 (List.mem_of_getElem? (i := 14) rfl) rfl
theorem m_255 : Jvm.Cond.fieldLink "Silkloft$Rules" 100 "Silkloft$Loft" "canopyCount" "I" ∈ lw_all := lw_c2 (List.mem_of_getElem? (i := 15) rfl) rfl
theorem m_256 : Jvm.Cond.fieldLink "Silkloft" 106 "Silkloft$Loft" "canopyCount" "I" ∈ lw_all := lw_c2 (List.mem_of_getElem? (i := 16) rfl) rfl
theorem m_257 : Jvm.Cond.fieldLink "Silkloft$Loft" 56 "Silkloft$Loft" "loadCount" "I" ∈ lw_all := lw_c2 (List.mem_of_getElem? (i := 17) rfl) rfl
theorem m_258 : Jvm.Cond.fieldLink "Silkloft$Rules" 50 "Silkloft$Loft" "loadCount" "I" ∈ lw_all := lw_c2 (List.mem_of_getElem? (i := 18) rfl) rfl
theorem m_259 : Jvm.Cond.fieldLink "Silkloft$Loft" 59 "Silkloft$Loft" "findingCount" "I" ∈ lw_all := lw_c2 (List.mem_of_getElem? (i := 19) rfl) rfl
theorem m_260 : Jvm.Cond.fieldLink "Silkloft$Rules" 169 "Silkloft$Loft" "findingCount" "I" ∈ lw_all := lw_c2 (List.mem_of_getElem? (i := 20) rfl) rfl
theorem m_261 : Jvm.Cond.fieldLink "Silkloft$Loft" 65 "Silkloft$Loft" "day" "I" ∈ lw_all := lw_c2 (List.mem_of_getElem? (i := 21) rfl) rfl
theorem m_262 : Jvm.Cond.fieldLink "Silkloft$Rules" 103 "Silkloft$Loft" "day" "I" ∈ lw_all := lw_c2 (List.mem_of_getElem? (i := 22) rfl) rfl
theorem m_263 : Jvm.Cond.fieldLink "Silkloft$Loft" 46 "Silkloft$Loft" "period" "I" ∈ lw_all := lw_c2 (List.mem_of_getElem? (i := 23) rfl) rfl
theorem m_264 : Jvm.Cond.fieldLink "Silkloft$Loft" 68 "Silkloft$Loft" "keptSum" "J" ∈ lw_all := lw_c2 (List.mem_of_getElem? (i := 24) rfl) rfl
theorem m_265 : Jvm.Cond.fieldLink "Silkloft" 102 "Silkloft$Loft" "keptSum" "J" ∈ lw_all := lw_c2 (List.mem_of_getElem? (i := 25) rfl) rfl
theorem m_266 : Jvm.Cond.fieldLink "Silkloft$Loft" 72 "Silkloft$Loft" "actCount" "I" ∈ lw_all := lw_c2 (List.mem_of_getElem? (i := 26) rfl) rfl
theorem m_267 : Jvm.Cond.laysFinal "Silkloft$Loft" "Silkloft$Loft" "riggers" "[LSilkloft$Rigger;" ∈ lw_all := lw_c2 (List.mem_of_getElem? (i := 27) rfl) rfl
theorem m_269 : Jvm.Cond.laysFinal "Silkloft$Loft" "Silkloft$Loft" "canopies" "[LSilkloft$Canopy;" ∈ lw_all := lw_c2 (List.mem_of_getElem? (i := 29) rfl) rfl
theorem m_271 : Jvm.Cond.laysFinal "Silkloft$Loft" "Silkloft$Loft" "loads" "[LSilkloft$Load;" ∈ lw_all := lw_c2 (List.mem_of_getElem? (i := 31) rfl) rfl
theorem m_273 : Jvm.Cond.laysFinal "Silkloft$Loft" "Silkloft$Loft" "findings" "[LSilkloft$Finding;" ∈ lw_all := lw_c2 (List.mem_of_getElem? (i := 33) rfl) rfl
theorem m_275 : Jvm.Cond.laysFinal "Silkloft$Loft" "Silkloft$Loft" "book" "LSilkloft$Book;" ∈ lw_all := lw_c2 (List.mem_of_getElem? (i := 35) rfl) rfl
theorem m_277 : Jvm.Cond.lays "Silkloft$Loft" "Silkloft$Loft" "riggerCount" "I" ∈ lw_all := lw_c2 (List.mem_of_getElem? (i := 37) rfl) rfl
theorem m_279 : Jvm.Cond.lays "Silkloft$Loft" "Silkloft$Loft" "canopyCount" "I" ∈ lw_all := lw_c2 (List.mem_of_getElem? (i := 39) rfl) rfl
theorem m_281 : Jvm.Cond.lays "Silkloft$Loft" "Silkloft$Loft" "loadCount" "I" ∈ lw_all := lw_c2 (List.mem_of_getElem? (i := 41) rfl) rfl
theorem m_283 : Jvm.Cond.lays "Silkloft$Loft" "Silkloft$Loft" "findingCount" "I" ∈ lw_all := lw_c2 (List.mem_of_getElem? (i := 43) rfl) rfl
theorem m_285 : Jvm.Cond.lays "Silkloft$Loft" "Silkloft$Loft" "day" "I" ∈ lw_all := lw_c2 (List.mem_of_getElem? (i := 45) rfl) rfl
theorem m_287 : Jvm.Cond.lays "Silkloft$Loft" "Silkloft$Loft" "period" "I" ∈ lw_all := lw_c2 (List.mem_of_getElem? (i := 47) rfl) rfl
theorem m_289 : Jvm.Cond.lays "Silkloft$Loft" "Silkloft$Loft" "keptSum" "J" ∈ lw_all := lw_c2 (List.mem_of_getElem? (i := 49) rfl) rfl
theorem m_291 : Jvm.Cond.lays "Silkloft$Loft" "Silkloft$Loft" "actCount" "I" ∈ lw_all := lw_c2 (List.mem_of_getElem? (i := 51) rfl) rfl
theorem m_294 : Jvm.Cond.classLink "Silkloft" 19 "Silkloft$Diary" ∈ lw_all := lw_c2 (List.mem_of_getElem? (i := 54) rfl) rfl
theorem m_295 : Jvm.Cond.instantiable "Silkloft$Diary" 2 ∈ lw_all := lw_c2 (List.mem_of_getElem? (i := 55) rfl) rfl
theorem m_297 : Jvm.Cond.instanceMethod yX2_init ∈ lw_all := lw_c2 (List.mem_of_getElem? (i := 57) rfl) rfl
theorem m_298 : Jvm.Cond.code yX2_init prog_4_method_1_code 1 (Option.none : Option Jvm.ClassFile.FieldType) ∈ lw_all := lw_c2 (List.mem_of_getElem? (i := 58) rfl) rfl
theorem m_299 : Jvm.Cond.methodLink "Silkloft$Diary" 3 ⟨"java/lang/Object", "<init>", "()V"⟩ ∈ lw_all := lw_c2 (List.mem_of_getElem? (i := 59) rfl) rfl
theorem m_300 : Jvm.Cond.fieldLink "Silkloft$Diary" 15 "Silkloft$Diary" "count" "I" ∈ lw_all := lw_c2 (List.mem_of_getElem? (i := 60) rfl) rfl
theorem m_301 : Jvm.Cond.fieldLink "Silkloft" 123 "Silkloft$Diary" "count" "I" ∈ lw_all := lw_c2 (List.mem_of_getElem? (i := 61) rfl) rfl
theorem m_302 : Jvm.Cond.fieldLink "Silkloft$Diary" 11 "Silkloft$Diary" "rows" "[I" ∈ lw_all := lw_c2 (List.mem_of_getElem? (i := 62) rfl) rfl
theorem m_303 : Jvm.Cond.lays "Silkloft$Diary" "Silkloft$Diary" "count" "I" ∈ lw_all := lw_c2 (List.mem_of_getElem? (i := 63) rfl) rfl
theorem m_305 : Jvm.Cond.laysFinal "Silkloft$Diary" "Silkloft$Diary" "rows" "[I" ∈ lw_all := lw_c2 (List.mem_of_getElem? (i := 65) rfl) rfl
theorem m_308 : Jvm.Cond.fieldLink "Silkloft" 10 "Silkloft" "loft" "LSilkloft$Loft;" ∈ lw_all := lw_c2 (List.mem_of_getElem? (i := 68) rfl) rfl
theorem m_309 : Jvm.Cond.fieldLink "Silkloft" 16 "Silkloft" "again" "LSilkloft$Loft;" ∈ lw_all := lw_c2 (List.mem_of_getElem? (i := 69) rfl) rfl
theorem m_310 : Jvm.Cond.fieldLink "Silkloft" 22 "Silkloft" "diary" "LSilkloft$Diary;" ∈ lw_all := lw_c2 (List.mem_of_getElem? (i := 70) rfl) rfl
theorem m_311 : Jvm.Cond.laysFinal "Silkloft" "Silkloft" "loft" "LSilkloft$Loft;" ∈ lw_all := lw_c2 (List.mem_of_getElem? (i := 71) rfl) rfl
theorem m_313 : Jvm.Cond.laysFinal "Silkloft" "Silkloft" "again" "LSilkloft$Loft;" ∈ lw_all := lw_c2 (List.mem_of_getElem? (i := 73) rfl) rfl
theorem m_315 : Jvm.Cond.laysFinal "Silkloft" "Silkloft" "diary" "LSilkloft$Diary;" ∈ lw_all := lw_c2 (List.mem_of_getElem? (i := 75) rfl) rfl
theorem m_318 : Jvm.Cond.methodLink "SilkloftLaw" 232 yX9_held ∈ lw_all := lw_c2 (List.mem_of_getElem? (i := 78) rfl) rfl
theorem m_319 : Jvm.Cond.instanceMethod yX9_held ∈ lw_all := lw_c2 (List.mem_of_getElem? (i := 79) rfl) rfl
theorem m_320 : Jvm.Cond.selects "Silkloft" yX9_held yX9_held ∈ lw_all := lw_c2 (List.mem_of_getElem? (i := 80) rfl) rfl
theorem m_321 : Jvm.Cond.code yX9_held prog_1_method_31_code 1 (Option.some Jvm.ClassFile.FieldType.long) ∈ lw_all := lw_c2 (List.mem_of_getElem? (i := 81) rfl) rfl
theorem m_322 : Jvm.Cond.methodLink "Silkloft" 98 yX5_sumOfDeposits ∈ lw_all := lw_c2 (List.mem_of_getElem? (i := 82) rfl) rfl
theorem m_323 : Jvm.Cond.instanceMethod yX5_sumOfDeposits ∈ lw_all := lw_c2 (List.mem_of_getElem? (i := 83) rfl) rfl
theorem m_324 : Jvm.Cond.selects "Silkloft$Loft" yX5_sumOfDeposits yX5_sumOfDeposits ∈ lw_all := lw_c2 (List.mem_of_getElem? (i := 84) rfl) rfl
theorem m_325 : Jvm.Cond.code yX5_sumOfDeposits prog_7_method_40_code 4 (Option.some Jvm.ClassFile.FieldType.long) ∈ lw_all := lw_c2 (List.mem_of_getElem? (i := 85) rfl) rfl
theorem m_326 : Jvm.Cond.methodLink "SilkloftLaw" 237 yX9_kept ∈ lw_all := lw_c2 (List.mem_of_getElem? (i := 86) rfl) rfl
theorem m_327 : Jvm.Cond.instanceMethod yX9_kept ∈ lw_all := lw_c2 (List.mem_of_getElem? (i := 87) rfl) rfl
theorem m_328 : Jvm.Cond.selects "Silkloft" yX9_kept yX9_kept ∈ lw_all := lw_c2 (List.mem_of_getElem? (i := 88) rfl) rfl
theorem m_329 : Jvm.Cond.code yX9_kept prog_1_method_32_code 1 (Option.some Jvm.ClassFile.FieldType.long) ∈ lw_all := lw_c2 (List.mem_of_getElem? (i := 89) rfl) rfl
theorem m_330 : Jvm.Cond.methodLink "SilkloftLaw" 248 yX9_isSound ∈ lw_all := lw_c2 (List.mem_of_getElem? (i := 90) rfl) rfl
theorem m_331 : Jvm.Cond.instanceMethod yX9_isSound ∈ lw_all := lw_c2 (List.mem_of_getElem? (i := 91) rfl) rfl
theorem m_332 : Jvm.Cond.selects "Silkloft" yX9_isSound yX9_isSound ∈ lw_all := lw_c2 (List.mem_of_getElem? (i := 92) rfl) rfl
theorem m_333 : Jvm.Cond.code yX9_isSound prog_1_method_35_code 2 (Option.some Jvm.ClassFile.FieldType.boolean) ∈ lw_all := lw_c2 (List.mem_of_getElem? (i := 93) rfl) rfl
theorem m_334 : Jvm.Cond.methodLink "Silkloft" 120 yX5_clear ∈ lw_all := lw_c2 (List.mem_of_getElem? (i := 94) rfl) rfl
theorem m_335 : Jvm.Cond.instanceMethod yX5_clear ∈ lw_all := lw_c2 (List.mem_of_getElem? (i := 95) rfl) rfl
theorem m_336 : Jvm.Cond.selects "Silkloft$Loft" yX5_clear yX5_clear ∈ lw_all := lw_c2 (List.mem_of_getElem? (i := 96) rfl) rfl
theorem m_337 : Jvm.Cond.code yX5_clear prog_7_method_2_code 1 (Option.none : Option Jvm.ClassFile.FieldType) ∈ lw_all := lw_c2 (List.mem_of_getElem? (i := 97) rfl) rfl
theorem m_338 : Jvm.Cond.methodLink "Silkloft" 126 yX2_repeat ∈ lw_all := lw_c2 (List.mem_of_getElem? (i := 98) rfl) rfl
theorem m_339 : Jvm.Cond.instanceMethod yX2_repeat ∈ lw_all := lw_c2 (List.mem_of_getElem? (i := 99) rfl) rfl
theorem m_340 : Jvm.Cond.selects "Silkloft$Diary" yX2_repeat yX2_repeat ∈ lw_all := lw_c2 (List.mem_of_getElem? (i := 100) rfl) rfl
theorem m_341 : Jvm.Cond.code yX2_repeat prog_4_method_4_code 9 (Option.some Jvm.ClassFile.FieldType.boolean) ∈ lw_all := lw_c2 (List.mem_of_getElem? (i := 101) rfl) rfl
theorem m_342 : Jvm.Cond.methodLink "Silkloft$Diary" 23 yX8_refusalOf ∈ lw_all := lw_c2 (List.mem_of_getElem? (i := 102) rfl) rfl
theorem m_343 : Jvm.Cond.static yX8_refusalOf ∈ lw_all := lw_c2 (List.mem_of_getElem? (i := 103) rfl) rfl
theorem m_344 : Jvm.Cond.code yX8_refusalOf prog_10_method_2_code 6 (Option.some (Jvm.ClassFile.FieldType.object "Silkloft$Refusal")) ∈ lw_all := lw_c2 (List.mem_of_getElem? (i := 104) rfl) rfl
theorem m_345 : Jvm.Cond.methodLink "Silkloft$Rules" 9 yX8_ofAddRigger ∈ lw_all := lw_c2 (List.mem_of_getElem? (i := 105) rfl) rfl
theorem m_346 : Jvm.Cond.static yX8_ofAddRigger ∈ lw_all := lw_c2 (List.mem_of_getElem? (i := 106) rfl) rfl
theorem m_347 : Jvm.Cond.code yX8_ofAddRigger prog_10_method_5_code 3 (Option.some (Jvm.ClassFile.FieldType.object "Silkloft$Refusal")) ∈ lw_all := lw_c2 (List.mem_of_getElem? (i := 107) rfl) rfl
theorem m_348 : Jvm.Cond.methodLink "Silkloft$Rules" 90 yX8_areLicences ∈ lw_all := lw_c2 (List.mem_of_getElem? (i := 108) rfl) rfl
theorem m_349 : Jvm.Cond.static yX8_areLicences ∈ lw_all := lw_c2 (List.mem_of_getElem? (i := 109) rfl) rfl
theorem m_350 : Jvm.Cond.code yX8_areLicences prog_10_method_4_code 2 (Option.some Jvm.ClassFile.FieldType.boolean) ∈ lw_all := lw_c2 (List.mem_of_getElem? (i := 110) rfl) rfl
theorem m_351 : Jvm.Cond.methodLink "Silkloft$Rules" 23 yX8_isIn ∈ lw_all := lw_c2 (List.mem_of_getElem? (i := 111) rfl) rfl
theorem m_352 : Jvm.Cond.static yX8_isIn ∈ lw_all := lw_c2 (List.mem_of_getElem? (i := 112) rfl) rfl
theorem m_353 : Jvm.Cond.code yX8_isIn prog_10_method_3_code 3 (Option.some Jvm.ClassFile.FieldType.boolean) ∈ lw_all := lw_c2 (List.mem_of_getElem? (i := 113) rfl) rfl
theorem m_354 : Jvm.Cond.fieldLink "Silkloft$Rules" 33 "Silkloft$Refusal" "ARGUMENT" "LSilkloft$Refusal;" ∈ lw_all := lw_c2 (List.mem_of_getElem? (i := 114) rfl) rfl
theorem m_356 : Jvm.Cond.fieldLink "Silkloft$Rules" 27 "Silkloft$Refusal" "NONE" "LSilkloft$Refusal;" ∈ lw_all := lw_c2 (List.mem_of_getElem? (i := 116) rfl) rfl
theorem m_358 : Jvm.Cond.fieldLink "Silkloft$Rules" 56 "Silkloft$Refusal" "STATE" "LSilkloft$Refusal;" ∈ lw_all := lw_c2 (List.mem_of_getElem? (i := 118) rfl) rfl
theorem m_360 : Jvm.Cond.methodLink "Silkloft$Rules" 15 yX8_ofSetLicences ∈ lw_all := lw_c2 (List.mem_of_getElem? (i := 120) rfl) rfl
theorem m_361 : Jvm.Cond.static yX8_ofSetLicences ∈ lw_all := lw_c2 (List.mem_of_getElem? (i := 121) rfl) rfl
theorem m_362 : Jvm.Cond.code yX8_ofSetLicences prog_10_method_6_code 4 (Option.some (Jvm.ClassFile.FieldType.object "Silkloft$Refusal")) ∈ lw_all := lw_c2 (List.mem_of_getElem? (i := 122) rfl) rfl
theorem m_363 : Jvm.Cond.methodLink "Silkloft$Rules" 97 yX5_hasRigger ∈ lw_all := lw_c2 (List.mem_of_getElem? (i := 123) rfl) rfl
theorem m_364 : Jvm.Cond.instanceMethod yX5_hasRigger ∈ lw_all := lw_c2 (List.mem_of_getElem? (i := 124) rfl) rfl
theorem m_365 : Jvm.Cond.selects "Silkloft$Loft" yX5_hasRigger yX5_hasRigger ∈ lw_all := lw_c2 (List.mem_of_getElem? (i := 125) rfl) rfl
theorem m_366 : Jvm.Cond.code yX5_hasRigger prog_7_method_3_code 2 (Option.some Jvm.ClassFile.FieldType.boolean) ∈ lw_all := lw_c2 (List.mem_of_getElem? (i := 126) rfl) rfl
theorem m_367 : Jvm.Cond.fieldLink "Silkloft$Rules" 81 "Silkloft$Refusal" "INDEX" "LSilkloft$Refusal;" ∈ lw_all := lw_c2 (List.mem_of_getElem? (i := 127) rfl) rfl
theorem m_369 : Jvm.Cond.methodLink "Silkloft$Rules" 19 yX8_ofAddCanopy ∈ lw_all := lw_c2 (List.mem_of_getElem? (i := 129) rfl) rfl
theorem m_370 : Jvm.Cond.static yX8_ofAddCanopy ∈ lw_all := lw_c2 (List.mem_of_getElem? (i := 130) rfl) rfl
theorem m_371 : Jvm.Cond.code yX8_ofAddCanopy prog_10_method_7_code 5 (Option.some (Jvm.ClassFile.FieldType.object "Silkloft$Refusal")) ∈ lw_all := lw_c2 (List.mem_of_getElem? (i := 131) rfl) rfl
theorem m_372 : Jvm.Cond.methodLink "Silkloft$Rules" 36 yX8_ofGoOn ∈ lw_all := lw_c2 (List.mem_of_getElem? (i := 132) rfl) rfl
theorem m_373 : Jvm.Cond.static yX8_ofGoOn ∈ lw_all := lw_c2 (List.mem_of_getElem? (i := 133) rfl) rfl
theorem m_374 : Jvm.Cond.code yX8_ofGoOn prog_10_method_8_code 2 (Option.some (Jvm.ClassFile.FieldType.object "Silkloft$Refusal")) ∈ lw_all := lw_c2 (List.mem_of_getElem? (i := 134) rfl) rfl
theorem m_375 : Jvm.Cond.methodLink "Silkloft$Rules" 40 yX8_ofHang ∈ lw_all := lw_c2 (List.mem_of_getElem? (i := 135) rfl) rfl
theorem m_376 : Jvm.Cond.static yX8_ofHang ∈ lw_all := lw_c2 (List.mem_of_getElem? (i := 136) rfl) rfl
theorem m_377 : Jvm.Cond.code yX8_ofHang prog_10_method_10_code 3 (Option.some (Jvm.ClassFile.FieldType.object "Silkloft$Refusal")) ∈ lw_all := lw_c2 (List.mem_of_getElem? (i := 137) rfl) rfl
theorem m_378 : Jvm.Cond.methodLink "Silkloft$Rules" 106 yX5_hasCanopy ∈ lw_all := lw_c2 (List.mem_of_getElem? (i := 138) rfl) rfl
theorem m_379 : Jvm.Cond.instanceMethod yX5_hasCanopy ∈ lw_all := lw_c2 (List.mem_of_getElem? (i := 139) rfl) rfl
theorem m_380 : Jvm.Cond.selects "Silkloft$Loft" yX5_hasCanopy yX5_hasCanopy ∈ lw_all := lw_c2 (List.mem_of_getElem? (i := 140) rfl) rfl
theorem m_381 : Jvm.Cond.code yX5_hasCanopy prog_7_method_4_code 2 (Option.some Jvm.ClassFile.FieldType.boolean) ∈ lw_all := lw_c2 (List.mem_of_getElem? (i := 141) rfl) rfl
theorem m_382 : Jvm.Cond.fieldLink "Silkloft$Rules" 119 "Silkloft$Refusal" "UNSUPPORTED" "LSilkloft$Refusal;" ∈ lw_all := lw_c2 (List.mem_of_getElem? (i := 142) rfl) rfl
theorem m_384 : Jvm.Cond.methodLink "Silkloft$Rules" 122 yX5_isHookFree ∈ lw_all := lw_c2 (List.mem_of_getElem? (i := 144) rfl) rfl
theorem m_385 : Jvm.Cond.instanceMethod yX5_isHookFree ∈ lw_all := lw_c2 (List.mem_of_getElem? (i := 145) rfl) rfl
theorem m_386 : Jvm.Cond.selects "Silkloft$Loft" yX5_isHookFree yX5_isHookFree ∈ lw_all := lw_c2 (List.mem_of_getElem? (i := 146) rfl) rfl
theorem m_387 : Jvm.Cond.code yX5_isHookFree prog_7_method_14_code 3 (Option.some Jvm.ClassFile.FieldType.boolean) ∈ lw_all := lw_c2 (List.mem_of_getElem? (i := 147) rfl) rfl
theorem m_388 : Jvm.Cond.methodLink "Silkloft$Rules" 43 yX8_ofStep ∈ lw_all := lw_c2 (List.mem_of_getElem? (i := 148) rfl) rfl
theorem m_389 : Jvm.Cond.static yX8_ofStep ∈ lw_all := lw_c2 (List.mem_of_getElem? (i := 149) rfl) rfl
theorem m_390 : Jvm.Cond.code yX8_ofStep prog_10_method_11_code 6 (Option.some (Jvm.ClassFile.FieldType.object "Silkloft$Refusal")) ∈ lw_all := lw_c2 (List.mem_of_getElem? (i := 150) rfl) rfl
theorem m_391 : Jvm.Cond.methodLink "Silkloft$Rules" 132 yX7_may ∈ lw_all := lw_c2 (List.mem_of_getElem? (i := 151) rfl) rfl
theorem m_392 : Jvm.Cond.instanceMethod yX7_may ∈ lw_all := lw_c2 (List.mem_of_getElem? (i := 152) rfl) rfl
theorem m_393 : Jvm.Cond.selects "Silkloft$Rigger" yX7_may yX7_may ∈ lw_all := lw_c2 (List.mem_of_getElem? (i := 153) rfl) rfl
theorem m_394 : Jvm.Cond.code yX7_may prog_9_method_3_code 3 (Option.some Jvm.ClassFile.FieldType.boolean) ∈ lw_all := lw_c2 (List.mem_of_getElem? (i := 154) rfl) rfl
theorem m_395 : Jvm.Cond.methodLink "Silkloft$Rules" 46 yX8_ofCanopyIn ∈ lw_all := lw_c2 (List.mem_of_getElem? (i := 155) rfl) rfl
theorem m_396 : Jvm.Cond.static yX8_ofCanopyIn ∈ lw_all := lw_c2 (List.mem_of_getElem? (i := 156) rfl) rfl
theorem m_397 : Jvm.Cond.code yX8_ofCanopyIn prog_10_method_9_code 3 (Option.some (Jvm.ClassFile.FieldType.object "Silkloft$Refusal")) ∈ lw_all := lw_c2 (List.mem_of_getElem? (i := 157) rfl) rfl
theorem m_398 : Jvm.Cond.methodLink "Silkloft$Rules" 59 yX8_ofBoard ∈ lw_all := lw_c2 (List.mem_of_getElem? (i := 158) rfl) rfl
theorem m_399 : Jvm.Cond.static yX8_ofBoard ∈ lw_all := lw_c2 (List.mem_of_getElem? (i := 159) rfl) rfl
theorem m_400 : Jvm.Cond.code yX8_ofBoard prog_10_method_12_code 6 (Option.some (Jvm.ClassFile.FieldType.object "Silkloft$Refusal")) ∈ lw_all := lw_c2 (List.mem_of_getElem? (i := 160) rfl) rfl
theorem m_401 : Jvm.Cond.methodLink "Silkloft$Rules" 141 yX5_hasLoad ∈ lw_all := lw_c2 (List.mem_of_getElem? (i := 161) rfl) rfl
theorem m_402 : Jvm.Cond.instanceMethod yX5_hasLoad ∈ lw_all := lw_c2 (List.mem_of_getElem? (i := 162) rfl) rfl
theorem m_403 : Jvm.Cond.selects "Silkloft$Loft" yX5_hasLoad yX5_hasLoad ∈ lw_all := lw_c2 (List.mem_of_getElem? (i := 163) rfl) rfl
theorem m_404 : Jvm.Cond.code yX5_hasLoad prog_7_method_5_code 2 (Option.some Jvm.ClassFile.FieldType.boolean) ∈ lw_all := lw_c2 (List.mem_of_getElem? (i := 164) rfl) rfl
theorem m_405 : Jvm.Cond.methodLink "Silkloft$Rules" 157 yX5_isFitToJump ∈ lw_all := lw_c2 (List.mem_of_getElem? (i := 165) rfl) rfl
theorem m_406 : Jvm.Cond.instanceMethod yX5_isFitToJump ∈ lw_all := lw_c2 (List.mem_of_getElem? (i := 166) rfl) rfl
theorem m_407 : Jvm.Cond.selects "Silkloft$Loft" yX5_isFitToJump yX5_isFitToJump ∈ lw_all := lw_c2 (List.mem_of_getElem? (i := 167) rfl) rfl
theorem m_408 : Jvm.Cond.code yX5_isFitToJump prog_7_method_31_code 2 (Option.some Jvm.ClassFile.FieldType.boolean) ∈ lw_all := lw_c2 (List.mem_of_getElem? (i := 168) rfl) rfl
theorem m_409 : Jvm.Cond.methodLink "Silkloft$Loft" 262 yX5_isTooOld ∈ lw_all := lw_c2 (List.mem_of_getElem? (i := 169) rfl) rfl
theorem m_410 : Jvm.Cond.instanceMethod yX5_isTooOld ∈ lw_all := lw_c2 (List.mem_of_getElem? (i := 170) rfl) rfl
theorem m_411 : Jvm.Cond.selects "Silkloft$Loft" yX5_isTooOld yX5_isTooOld ∈ lw_all := lw_c2 (List.mem_of_getElem? (i := 171) rfl) rfl
theorem m_412 : Jvm.Cond.code yX5_isTooOld prog_7_method_32_code 3 (Option.some Jvm.ClassFile.FieldType.boolean) ∈ lw_all := lw_c2 (List.mem_of_getElem? (i := 172) rfl) rfl
theorem m_413 : Jvm.Cond.methodLink "Silkloft$Loft" 278 yX5_daysLeft ∈ lw_all := lw_c2 (List.mem_of_getElem? (i := 173) rfl) rfl
theorem m_415 : Jvm.Cond.instanceMethod yX5_daysLeft ∈ lw_all := lw_c2 (List.mem_of_getElem? (i := 175) rfl) rfl
theorem m_416 : Jvm.Cond.code yX5_daysLeft prog_7_method_33_code 2 (Option.some Jvm.ClassFile.FieldType.int) ∈ lw_all := lw_c2 (List.mem_of_getElem? (i := 176) rfl) rfl
theorem m_417 : Jvm.Cond.methodLink "Silkloft$Loft" 182 yX0_has ∈ lw_all := lw_c2 (List.mem_of_getElem? (i := 177) rfl) rfl
theorem m_418 : Jvm.Cond.instanceMethod yX0_has ∈ lw_all := lw_c2 (List.mem_of_getElem? (i := 178) rfl) rfl
theorem m_419 : Jvm.Cond.selects "Silkloft$Book" yX0_has yX0_has ∈ lw_all := lw_c2 (List.mem_of_getElem? (i := 179) rfl) rfl
theorem m_420 : Jvm.Cond.code yX0_has prog_2_method_3_code 2 (Option.some Jvm.ClassFile.FieldType.boolean) ∈ lw_all := lw_c2 (List.mem_of_getElem? (i := 180) rfl) rfl
theorem m_421 : Jvm.Cond.methodLink "Silkloft$Loft" 266 yX5_isOnGround ∈ lw_all := lw_c2 (List.mem_of_getElem? (i := 181) rfl) rfl
theorem m_422 : Jvm.Cond.instanceMethod yX5_isOnGround ∈ lw_all := lw_c2 (List.mem_of_getElem? (i := 182) rfl) rfl
theorem m_423 : Jvm.Cond.selects "Silkloft$Loft" yX5_isOnGround yX5_isOnGround ∈ lw_all := lw_c2 (List.mem_of_getElem? (i := 183) rfl) rfl
theorem m_424 : Jvm.Cond.code yX5_isOnGround prog_7_method_34_code 3 (Option.some Jvm.ClassFile.FieldType.boolean) ∈ lw_all := lw_c2 (List.mem_of_getElem? (i := 184) rfl) rfl
theorem m_425 : Jvm.Cond.methodLink "Silkloft$Loft" 284 yX5_isReachedBy ∈ lw_all := lw_c2 (List.mem_of_getElem? (i := 185) rfl) rfl
theorem m_427 : Jvm.Cond.instanceMethod yX5_isReachedBy ∈ lw_all := lw_c2 (List.mem_of_getElem? (i := 187) rfl) rfl
theorem m_428 : Jvm.Cond.code yX5_isReachedBy prog_7_method_36_code 6 (Option.some Jvm.ClassFile.FieldType.boolean) ∈ lw_all := lw_c2 (List.mem_of_getElem? (i := 188) rfl) rfl
theorem m_429 : Jvm.Cond.methodLink "Silkloft$Loft" 291 yX3_goesBy ∈ lw_all := lw_c2 (List.mem_of_getElem? (i := 189) rfl) rfl
theorem m_430 : Jvm.Cond.instanceMethod yX3_goesBy ∈ lw_all := lw_c2 (List.mem_of_getElem? (i := 190) rfl) rfl
theorem m_431 : Jvm.Cond.selects "Silkloft$Finding" yX3_goesBy yX3_goesBy ∈ lw_all := lw_c2 (List.mem_of_getElem? (i := 191) rfl) rfl
theorem m_432 : Jvm.Cond.code yX3_goesBy prog_5_method_3_code 3 (Option.some Jvm.ClassFile.FieldType.boolean) ∈ lw_all := lw_c2 (List.mem_of_getElem? (i := 192) rfl) rfl
theorem m_433 : Jvm.Cond.methodLink "Silkloft$Loft" 198 yX0_handsOf ∈ lw_all := lw_c2 (List.mem_of_getElem? (i := 193) rfl) rfl
theorem m_434 : Jvm.Cond.instanceMethod yX0_handsOf ∈ lw_all := lw_c2 (List.mem_of_getElem? (i := 194) rfl) rfl
theorem m_435 : Jvm.Cond.selects "Silkloft$Book" yX0_handsOf yX0_handsOf ∈ lw_all := lw_c2 (List.mem_of_getElem? (i := 195) rfl) rfl
theorem m_436 : Jvm.Cond.code yX0_handsOf prog_2_method_4_code 5 (Option.some Jvm.ClassFile.FieldType.long) ∈ lw_all := lw_c2 (List.mem_of_getElem? (i := 196) rfl) rfl
theorem m_437 : Jvm.Cond.methodLink "Silkloft$Loft" 288 yX5_isFreeOf ∈ lw_all := lw_c2 (List.mem_of_getElem? (i := 197) rfl) rfl
theorem m_439 : Jvm.Cond.instanceMethod yX5_isFreeOf ∈ lw_all := lw_c2 (List.mem_of_getElem? (i := 199) rfl) rfl
theorem m_440 : Jvm.Cond.code yX5_isFreeOf prog_7_method_37_code 4 (Option.some Jvm.ClassFile.FieldType.boolean) ∈ lw_all := lw_c2 (List.mem_of_getElem? (i := 200) rfl) rfl
theorem m_441 : Jvm.Cond.methodLink "Silkloft$Rules" 62 yX8_ofLeave ∈ lw_all := lw_c2 (List.mem_of_getElem? (i := 201) rfl) rfl
theorem m_442 : Jvm.Cond.static yX8_ofLeave ∈ lw_all := lw_c2 (List.mem_of_getElem? (i := 202) rfl) rfl
theorem m_443 : Jvm.Cond.code yX8_ofLeave prog_10_method_13_code 2 (Option.some (Jvm.ClassFile.FieldType.object "Silkloft$Refusal")) ∈ lw_all := lw_c2 (List.mem_of_getElem? (i := 203) rfl) rfl
theorem m_444 : Jvm.Cond.methodLink "Silkloft$Rules" 65 yX8_ofJump ∈ lw_all := lw_c2 (List.mem_of_getElem? (i := 204) rfl) rfl
theorem m_445 : Jvm.Cond.static yX8_ofJump ∈ lw_all := lw_c2 (List.mem_of_getElem? (i := 205) rfl) rfl
theorem m_446 : Jvm.Cond.code yX8_ofJump prog_10_method_14_code 5 (Option.some (Jvm.ClassFile.FieldType.object "Silkloft$Refusal")) ∈ lw_all := lw_c2 (List.mem_of_getElem? (i := 206) rfl) rfl
theorem m_447 : Jvm.Cond.methodLink "Silkloft$Rules" 68 yX8_ofFind ∈ lw_all := lw_c2 (List.mem_of_getElem? (i := 207) rfl) rfl
theorem m_448 : Jvm.Cond.static yX8_ofFind ∈ lw_all := lw_c2 (List.mem_of_getElem? (i := 208) rfl) rfl
theorem m_449 : Jvm.Cond.code yX8_ofFind prog_10_method_15_code 2 (Option.some (Jvm.ClassFile.FieldType.object "Silkloft$Refusal")) ∈ lw_all := lw_c2 (List.mem_of_getElem? (i := 209) rfl) rfl
theorem m_450 : Jvm.Cond.methodLink "Silkloft$Rules" 71 yX8_ofWiden ∈ lw_all := lw_c2 (List.mem_of_getElem? (i := 210) rfl) rfl
theorem m_451 : Jvm.Cond.static yX8_ofWiden ∈ lw_all := lw_c2 (List.mem_of_getElem? (i := 211) rfl) rfl
theorem m_452 : Jvm.Cond.code yX8_ofWiden prog_10_method_16_code 4 (Option.some (Jvm.ClassFile.FieldType.object "Silkloft$Refusal")) ∈ lw_all := lw_c2 (List.mem_of_getElem? (i := 212) rfl) rfl
theorem m_453 : Jvm.Cond.methodLink "Silkloft$Rules" 77 yX5_hasFinding ∈ lw_all := lw_c2 (List.mem_of_getElem? (i := 213) rfl) rfl
theorem m_454 : Jvm.Cond.instanceMethod yX5_hasFinding ∈ lw_all := lw_c2 (List.mem_of_getElem? (i := 214) rfl) rfl
theorem m_455 : Jvm.Cond.selects "Silkloft$Loft" yX5_hasFinding yX5_hasFinding ∈ lw_all := lw_c2 (List.mem_of_getElem? (i := 215) rfl) rfl
theorem m_456 : Jvm.Cond.code yX5_hasFinding prog_7_method_6_code 2 (Option.some Jvm.ClassFile.FieldType.boolean) ∈ lw_all := lw_c2 (List.mem_of_getElem? (i := 216) rfl) rfl
theorem m_457 : Jvm.Cond.methodLink "Silkloft$Rules" 74 yX8_ofTellCause ∈ lw_all := lw_c2 (List.mem_of_getElem? (i := 217) rfl) rfl
theorem m_458 : Jvm.Cond.static yX8_ofTellCause ∈ lw_all := lw_c2 (List.mem_of_getElem? (i := 218) rfl) rfl
theorem m_459 : Jvm.Cond.code yX8_ofTellCause prog_10_method_17_code 5 (Option.some (Jvm.ClassFile.FieldType.object "Silkloft$Refusal")) ∈ lw_all := lw_c2 (List.mem_of_getElem? (i := 219) rfl) rfl
theorem m_460 : Jvm.Cond.methodLink "Silkloft$Rules" 84 yX8_ofRepair ∈ lw_all := lw_c2 (List.mem_of_getElem? (i := 220) rfl) rfl
theorem m_461 : Jvm.Cond.static yX8_ofRepair ∈ lw_all := lw_c2 (List.mem_of_getElem? (i := 221) rfl) rfl
theorem m_462 : Jvm.Cond.code yX8_ofRepair prog_10_method_18_code 3 (Option.some (Jvm.ClassFile.FieldType.object "Silkloft$Refusal")) ∈ lw_all := lw_c2 (List.mem_of_getElem? (i := 222) rfl) rfl
theorem m_463 : Jvm.Cond.methodLink "Silkloft$Rules" 87 yX8_ofHire ∈ lw_all := lw_c2 (List.mem_of_getElem? (i := 223) rfl) rfl
theorem m_464 : Jvm.Cond.static yX8_ofHire ∈ lw_all := lw_c2 (List.mem_of_getElem? (i := 224) rfl) rfl
theorem m_465 : Jvm.Cond.code yX8_ofHire prog_10_method_19_code 5 (Option.some (Jvm.ClassFile.FieldType.object "Silkloft$Refusal")) ∈ lw_all := lw_c2 (List.mem_of_getElem? (i := 225) rfl) rfl
theorem m_466 : Jvm.Cond.fieldLink "Silkloft$Diary" 29 "Silkloft$Refusal" "NONE" "LSilkloft$Refusal;" ∈ lw_all := lw_c2 (List.mem_of_getElem? (i := 226) rfl) rfl
theorem m_467 : Jvm.Cond.methodLink "Silkloft$Diary" 35 yX5_perform ∈ lw_all := lw_c2 (List.mem_of_getElem? (i := 227) rfl) rfl
theorem m_468 : Jvm.Cond.instanceMethod yX5_perform ∈ lw_all := lw_c2 (List.mem_of_getElem? (i := 228) rfl) rfl
theorem m_469 : Jvm.Cond.selects "Silkloft$Loft" yX5_perform yX5_perform ∈ lw_all := lw_c2 (List.mem_of_getElem? (i := 229) rfl) rfl
theorem m_470 : Jvm.Cond.code yX5_perform prog_7_method_7_code 6 (Option.some Jvm.ClassFile.FieldType.int) ∈ lw_all := lw_c2 (List.mem_of_getElem? (i := 230) rfl) rfl
theorem m_471 : Jvm.Cond.methodLink "Silkloft$Loft" 75 yX5_enrol ∈ lw_all := lw_c2 (List.mem_of_getElem? (i := 231) rfl) rfl
theorem m_473 : Jvm.Cond.instanceMethod yX5_enrol ∈ lw_all := lw_c2 (List.mem_of_getElem? (i := 233) rfl) rfl
theorem m_474 : Jvm.Cond.code yX5_enrol prog_7_method_8_code 3 (Option.some Jvm.ClassFile.FieldType.int) ∈ lw_all := lw_c2 (List.mem_of_getElem? (i := 234) rfl) rfl
theorem m_475 : Jvm.Cond.methodLink "Silkloft$Loft" 149 yX7_set ∈ lw_all := lw_c2 (List.mem_of_getElem? (i := 235) rfl) rfl
theorem m_476 : Jvm.Cond.instanceMethod yX7_set ∈ lw_all := lw_c2 (List.mem_of_getElem? (i := 236) rfl) rfl
theorem m_477 : Jvm.Cond.selects "Silkloft$Rigger" yX7_set yX7_set ∈ lw_all := lw_c2 (List.mem_of_getElem? (i := 237) rfl) rfl
theorem m_478 : Jvm.Cond.code yX7_set prog_9_method_2_code 3 (Option.none : Option Jvm.ClassFile.FieldType) ∈ lw_all := lw_c2 (List.mem_of_getElem? (i := 238) rfl) rfl
theorem m_479 : Jvm.Cond.methodLink "Silkloft$Loft" 79 yX5_relicense ∈ lw_all := lw_c2 (List.mem_of_getElem? (i := 239) rfl) rfl
theorem m_481 : Jvm.Cond.instanceMethod yX5_relicense ∈ lw_all := lw_c3 (List.mem_of_getElem? (i := 1) rfl) rfl
theorem m_482 : Jvm.Cond.code yX5_relicense prog_7_method_9_code 5 (Option.some Jvm.ClassFile.FieldType.int) ∈ lw_all := lw_c3 (List.mem_of_getElem? (i := 2) rfl) rfl
theorem m_483 : Jvm.Cond.methodLink "Silkloft$Loft" 83 yX5_enter ∈ lw_all := lw_c3 (List.mem_of_getElem? (i := 3) rfl) rfl
theorem m_485 : Jvm.Cond.instanceMethod yX5_enter ∈ lw_all := lw_c3 (List.mem_of_getElem? (i := 5) rfl) rfl
theorem m_486 : Jvm.Cond.code yX5_enter prog_7_method_10_code 5 (Option.some Jvm.ClassFile.FieldType.int) ∈ lw_all := lw_c3 (List.mem_of_getElem? (i := 6) rfl) rfl
theorem m_487 : Jvm.Cond.methodLink "Silkloft$Loft" 156 yX1_begin ∈ lw_all := lw_c3 (List.mem_of_getElem? (i := 7) rfl) rfl
theorem m_488 : Jvm.Cond.instanceMethod yX1_begin ∈ lw_all := lw_c3 (List.mem_of_getElem? (i := 8) rfl) rfl
theorem m_489 : Jvm.Cond.selects "Silkloft$Canopy" yX1_begin yX1_begin ∈ lw_all := lw_c3 (List.mem_of_getElem? (i := 9) rfl) rfl
theorem m_490 : Jvm.Cond.code yX1_begin prog_3_method_2_code 6 (Option.none : Option Jvm.ClassFile.FieldType) ∈ lw_all := lw_c3 (List.mem_of_getElem? (i := 10) rfl) rfl
theorem m_491 : Jvm.Cond.methodLink "Silkloft$Loft" 87 yX5_changePeriod ∈ lw_all := lw_c3 (List.mem_of_getElem? (i := 11) rfl) rfl
theorem m_493 : Jvm.Cond.instanceMethod yX5_changePeriod ∈ lw_all := lw_c3 (List.mem_of_getElem? (i := 13) rfl) rfl
theorem m_494 : Jvm.Cond.code yX5_changePeriod prog_7_method_11_code 3 (Option.some Jvm.ClassFile.FieldType.int) ∈ lw_all := lw_c3 (List.mem_of_getElem? (i := 14) rfl) rfl
theorem m_495 : Jvm.Cond.methodLink "Silkloft$Loft" 91 yX5_letDaysPass ∈ lw_all := lw_c3 (List.mem_of_getElem? (i := 15) rfl) rfl
theorem m_497 : Jvm.Cond.instanceMethod yX5_letDaysPass ∈ lw_all := lw_c3 (List.mem_of_getElem? (i := 17) rfl) rfl
theorem m_498 : Jvm.Cond.code yX5_letDaysPass prog_7_method_12_code 2 (Option.some Jvm.ClassFile.FieldType.int) ∈ lw_all := lw_c3 (List.mem_of_getElem? (i := 18) rfl) rfl
theorem m_499 : Jvm.Cond.methodLink "Silkloft$Loft" 94 yX5_putOnHook ∈ lw_all := lw_c3 (List.mem_of_getElem? (i := 19) rfl) rfl
theorem m_501 : Jvm.Cond.instanceMethod yX5_putOnHook ∈ lw_all := lw_c3 (List.mem_of_getElem? (i := 21) rfl) rfl
theorem m_502 : Jvm.Cond.code yX5_putOnHook prog_7_method_13_code 6 (Option.some Jvm.ClassFile.FieldType.int) ∈ lw_all := lw_c3 (List.mem_of_getElem? (i := 22) rfl) rfl
theorem m_503 : Jvm.Cond.methodLink "Silkloft$Loft" 97 yX5_doStep ∈ lw_all := lw_c3 (List.mem_of_getElem? (i := 23) rfl) rfl
theorem m_505 : Jvm.Cond.instanceMethod yX5_doStep ∈ lw_all := lw_c3 (List.mem_of_getElem? (i := 25) rfl) rfl
theorem m_506 : Jvm.Cond.code yX5_doStep prog_7_method_15_code 5 (Option.some Jvm.ClassFile.FieldType.int) ∈ lw_all := lw_c3 (List.mem_of_getElem? (i := 26) rfl) rfl
theorem m_507 : Jvm.Cond.methodLink "Silkloft$Loft" 174 yX5_endPacking ∈ lw_all := lw_c3 (List.mem_of_getElem? (i := 27) rfl) rfl
theorem m_509 : Jvm.Cond.instanceMethod yX5_endPacking ∈ lw_all := lw_c3 (List.mem_of_getElem? (i := 29) rfl) rfl
theorem m_510 : Jvm.Cond.code yX5_endPacking prog_7_method_16_code 4 (Option.none : Option Jvm.ClassFile.FieldType) ∈ lw_all := lw_c3 (List.mem_of_getElem? (i := 30) rfl) rfl
theorem m_511 : Jvm.Cond.methodLink "Silkloft$Loft" 178 yX0_write ∈ lw_all := lw_c3 (List.mem_of_getElem? (i := 31) rfl) rfl
theorem m_512 : Jvm.Cond.instanceMethod yX0_write ∈ lw_all := lw_c3 (List.mem_of_getElem? (i := 32) rfl) rfl
theorem m_513 : Jvm.Cond.selects "Silkloft$Book" yX0_write yX0_write ∈ lw_all := lw_c3 (List.mem_of_getElem? (i := 33) rfl) rfl
theorem m_514 : Jvm.Cond.code yX0_write prog_2_method_2_code 6 (Option.some Jvm.ClassFile.FieldType.int) ∈ lw_all := lw_c3 (List.mem_of_getElem? (i := 34) rfl) rfl
theorem m_515 : Jvm.Cond.methodLink "Silkloft$Loft" 100 yX5_takeOffHook ∈ lw_all := lw_c3 (List.mem_of_getElem? (i := 35) rfl) rfl
theorem m_517 : Jvm.Cond.instanceMethod yX5_takeOffHook ∈ lw_all := lw_c3 (List.mem_of_getElem? (i := 37) rfl) rfl
theorem m_518 : Jvm.Cond.code yX5_takeOffHook prog_7_method_17_code 3 (Option.some Jvm.ClassFile.FieldType.int) ∈ lw_all := lw_c3 (List.mem_of_getElem? (i := 38) rfl) rfl
theorem m_519 : Jvm.Cond.methodLink "Silkloft$Loft" 104 yX5_beginLoad ∈ lw_all := lw_c3 (List.mem_of_getElem? (i := 39) rfl) rfl
theorem m_521 : Jvm.Cond.instanceMethod yX5_beginLoad ∈ lw_all := lw_c3 (List.mem_of_getElem? (i := 41) rfl) rfl
theorem m_522 : Jvm.Cond.code yX5_beginLoad prog_7_method_18_code 1 (Option.some Jvm.ClassFile.FieldType.int) ∈ lw_all := lw_c3 (List.mem_of_getElem? (i := 42) rfl) rfl
theorem m_523 : Jvm.Cond.methodLink "Silkloft$Loft" 202 yX4_begin ∈ lw_all := lw_c3 (List.mem_of_getElem? (i := 43) rfl) rfl
theorem m_524 : Jvm.Cond.instanceMethod yX4_begin ∈ lw_all := lw_c3 (List.mem_of_getElem? (i := 44) rfl) rfl
theorem m_525 : Jvm.Cond.selects "Silkloft$Load" yX4_begin yX4_begin ∈ lw_all := lw_c3 (List.mem_of_getElem? (i := 45) rfl) rfl
theorem m_526 : Jvm.Cond.code yX4_begin prog_6_method_2_code 1 (Option.none : Option Jvm.ClassFile.FieldType) ∈ lw_all := lw_c3 (List.mem_of_getElem? (i := 46) rfl) rfl
theorem m_527 : Jvm.Cond.methodLink "Silkloft$Loft" 108 yX5_putAboard ∈ lw_all := lw_c3 (List.mem_of_getElem? (i := 47) rfl) rfl
theorem m_529 : Jvm.Cond.instanceMethod yX5_putAboard ∈ lw_all := lw_c3 (List.mem_of_getElem? (i := 49) rfl) rfl
theorem m_530 : Jvm.Cond.code yX5_putAboard prog_7_method_19_code 4 (Option.some Jvm.ClassFile.FieldType.int) ∈ lw_all := lw_c3 (List.mem_of_getElem? (i := 50) rfl) rfl
theorem m_531 : Jvm.Cond.methodLink "Silkloft$Loft" 112 yX5_takeLastOff ∈ lw_all := lw_c3 (List.mem_of_getElem? (i := 51) rfl) rfl
theorem m_533 : Jvm.Cond.instanceMethod yX5_takeLastOff ∈ lw_all := lw_c3 (List.mem_of_getElem? (i := 53) rfl) rfl
theorem m_534 : Jvm.Cond.code yX5_takeLastOff prog_7_method_20_code 2 (Option.some Jvm.ClassFile.FieldType.int) ∈ lw_all := lw_c3 (List.mem_of_getElem? (i := 54) rfl) rfl
theorem m_535 : Jvm.Cond.methodLink "Silkloft$Loft" 116 yX5_letJump ∈ lw_all := lw_c3 (List.mem_of_getElem? (i := 55) rfl) rfl
theorem m_537 : Jvm.Cond.instanceMethod yX5_letJump ∈ lw_all := lw_c3 (List.mem_of_getElem? (i := 57) rfl) rfl
theorem m_538 : Jvm.Cond.code yX5_letJump prog_7_method_21_code 5 (Option.some Jvm.ClassFile.FieldType.int) ∈ lw_all := lw_c3 (List.mem_of_getElem? (i := 58) rfl) rfl
theorem m_539 : Jvm.Cond.methodLink "Silkloft$Loft" 213 yX1_land ∈ lw_all := lw_c3 (List.mem_of_getElem? (i := 59) rfl) rfl
theorem m_540 : Jvm.Cond.instanceMethod yX1_land ∈ lw_all := lw_c3 (List.mem_of_getElem? (i := 60) rfl) rfl
theorem m_541 : Jvm.Cond.selects "Silkloft$Canopy" yX1_land yX1_land ∈ lw_all := lw_c3 (List.mem_of_getElem? (i := 61) rfl) rfl
theorem m_542 : Jvm.Cond.code yX1_land prog_3_method_4_code 1 (Option.none : Option Jvm.ClassFile.FieldType) ∈ lw_all := lw_c3 (List.mem_of_getElem? (i := 62) rfl) rfl
theorem m_543 : Jvm.Cond.methodLink "Silkloft$Loft" 120 yX5_noteFinding ∈ lw_all := lw_c3 (List.mem_of_getElem? (i := 63) rfl) rfl
theorem m_545 : Jvm.Cond.instanceMethod yX5_noteFinding ∈ lw_all := lw_c3 (List.mem_of_getElem? (i := 65) rfl) rfl
theorem m_546 : Jvm.Cond.code yX5_noteFinding prog_7_method_22_code 2 (Option.some Jvm.ClassFile.FieldType.int) ∈ lw_all := lw_c3 (List.mem_of_getElem? (i := 66) rfl) rfl
theorem m_547 : Jvm.Cond.methodLink "Silkloft$Loft" 220 yX3_begin ∈ lw_all := lw_c3 (List.mem_of_getElem? (i := 67) rfl) rfl
theorem m_548 : Jvm.Cond.instanceMethod yX3_begin ∈ lw_all := lw_c3 (List.mem_of_getElem? (i := 68) rfl) rfl
theorem m_549 : Jvm.Cond.selects "Silkloft$Finding" yX3_begin yX3_begin ∈ lw_all := lw_c3 (List.mem_of_getElem? (i := 69) rfl) rfl
theorem m_550 : Jvm.Cond.code yX3_begin prog_5_method_2_code 4 (Option.none : Option Jvm.ClassFile.FieldType) ∈ lw_all := lw_c3 (List.mem_of_getElem? (i := 70) rfl) rfl
theorem m_551 : Jvm.Cond.methodLink "Silkloft$Loft" 123 yX5_raiseLevel ∈ lw_all := lw_c3 (List.mem_of_getElem? (i := 71) rfl) rfl
theorem m_553 : Jvm.Cond.instanceMethod yX5_raiseLevel ∈ lw_all := lw_c3 (List.mem_of_getElem? (i := 73) rfl) rfl
theorem m_554 : Jvm.Cond.code yX5_raiseLevel prog_7_method_24_code 2 (Option.some Jvm.ClassFile.FieldType.int) ∈ lw_all := lw_c3 (List.mem_of_getElem? (i := 74) rfl) rfl
theorem m_555 : Jvm.Cond.methodLink "Silkloft$Loft" 127 yX5_noteCause ∈ lw_all := lw_c3 (List.mem_of_getElem? (i := 75) rfl) rfl
theorem m_557 : Jvm.Cond.instanceMethod yX5_noteCause ∈ lw_all := lw_c3 (List.mem_of_getElem? (i := 77) rfl) rfl
theorem m_558 : Jvm.Cond.code yX5_noteCause prog_7_method_25_code 4 (Option.some Jvm.ClassFile.FieldType.int) ∈ lw_all := lw_c3 (List.mem_of_getElem? (i := 78) rfl) rfl
theorem m_559 : Jvm.Cond.methodLink "Silkloft$Loft" 131 yX5_shut ∈ lw_all := lw_c3 (List.mem_of_getElem? (i := 79) rfl) rfl
theorem m_561 : Jvm.Cond.instanceMethod yX5_shut ∈ lw_all := lw_c3 (List.mem_of_getElem? (i := 81) rfl) rfl
theorem m_562 : Jvm.Cond.code yX5_shut prog_7_method_26_code 3 (Option.some Jvm.ClassFile.FieldType.int) ∈ lw_all := lw_c3 (List.mem_of_getElem? (i := 82) rfl) rfl
theorem m_563 : Jvm.Cond.methodLink "Silkloft$Loft" 134 yX5_mend ∈ lw_all := lw_c3 (List.mem_of_getElem? (i := 83) rfl) rfl
theorem m_565 : Jvm.Cond.instanceMethod yX5_mend ∈ lw_all := lw_c3 (List.mem_of_getElem? (i := 85) rfl) rfl
theorem m_566 : Jvm.Cond.code yX5_mend prog_7_method_27_code 3 (Option.some Jvm.ClassFile.FieldType.int) ∈ lw_all := lw_c3 (List.mem_of_getElem? (i := 86) rfl) rfl
theorem m_567 : Jvm.Cond.methodLink "Silkloft$Loft" 137 yX5_tryOut ∈ lw_all := lw_c3 (List.mem_of_getElem? (i := 87) rfl) rfl
theorem m_569 : Jvm.Cond.instanceMethod yX5_tryOut ∈ lw_all := lw_c3 (List.mem_of_getElem? (i := 89) rfl) rfl
theorem m_570 : Jvm.Cond.code yX5_tryOut prog_7_method_28_code 4 (Option.some Jvm.ClassFile.FieldType.int) ∈ lw_all := lw_c3 (List.mem_of_getElem? (i := 90) rfl) rfl
theorem m_571 : Jvm.Cond.methodLink "Silkloft$Loft" 241 yX1_noteDrop ∈ lw_all := lw_c3 (List.mem_of_getElem? (i := 91) rfl) rfl
theorem m_572 : Jvm.Cond.instanceMethod yX1_noteDrop ∈ lw_all := lw_c3 (List.mem_of_getElem? (i := 92) rfl) rfl
theorem m_573 : Jvm.Cond.selects "Silkloft$Canopy" yX1_noteDrop yX1_noteDrop ∈ lw_all := lw_c3 (List.mem_of_getElem? (i := 93) rfl) rfl
theorem m_574 : Jvm.Cond.code yX1_noteDrop prog_3_method_3_code 3 (Option.none : Option Jvm.ClassFile.FieldType) ∈ lw_all := lw_c3 (List.mem_of_getElem? (i := 94) rfl) rfl
theorem m_575 : Jvm.Cond.methodLink "Silkloft$Loft" 245 yX5_noteFindingIfRoom ∈ lw_all := lw_c3 (List.mem_of_getElem? (i := 95) rfl) rfl
theorem m_577 : Jvm.Cond.instanceMethod yX5_noteFindingIfRoom ∈ lw_all := lw_c3 (List.mem_of_getElem? (i := 97) rfl) rfl
theorem m_578 : Jvm.Cond.code yX5_noteFindingIfRoom prog_7_method_23_code 2 (Option.none : Option Jvm.ClassFile.FieldType) ∈ lw_all := lw_c3 (List.mem_of_getElem? (i := 98) rfl) rfl
theorem m_579 : Jvm.Cond.methodLink "Silkloft$Loft" 141 yX5_handOut ∈ lw_all := lw_c3 (List.mem_of_getElem? (i := 99) rfl) rfl
theorem m_581 : Jvm.Cond.instanceMethod yX5_handOut ∈ lw_all := lw_c3 (List.mem_of_getElem? (i := 101) rfl) rfl
theorem m_582 : Jvm.Cond.code yX5_handOut prog_7_method_29_code 4 (Option.some Jvm.ClassFile.FieldType.int) ∈ lw_all := lw_c3 (List.mem_of_getElem? (i := 102) rfl) rfl
theorem m_583 : Jvm.Cond.methodLink "Silkloft$Loft" 145 yX5_takeIn ∈ lw_all := lw_c3 (List.mem_of_getElem? (i := 103) rfl) rfl
theorem m_585 : Jvm.Cond.instanceMethod yX5_takeIn ∈ lw_all := lw_c3 (List.mem_of_getElem? (i := 105) rfl) rfl
theorem m_586 : Jvm.Cond.code yX5_takeIn prog_7_method_30_code 8 (Option.some Jvm.ClassFile.FieldType.int) ∈ lw_all := lw_c3 (List.mem_of_getElem? (i := 106) rfl) rfl
theorem m_587 : Jvm.Cond.methodLink "Silkloft$Loft" 257 yJ9_max_7cf53 ∈ lw_all := lw_c3 (List.mem_of_getElem? (i := 107) rfl) rfl
theorem m_588 : Jvm.Cond.static yJ9_max_7cf53 ∈ lw_all := lw_c3 (List.mem_of_getElem? (i := 108) rfl) rfl
theorem m_589 : Jvm.Cond.code yJ9_max_7cf53 prog_21_method_65_code 2 (Option.some Jvm.ClassFile.FieldType.int) ∈ lw_all := lw_c3 (List.mem_of_getElem? (i := 109) rfl) rfl
theorem m_590 : Jvm.Cond.methodLink "Silkloft" 130 yX5_isLike ∈ lw_all := lw_c3 (List.mem_of_getElem? (i := 110) rfl) rfl
theorem m_591 : Jvm.Cond.instanceMethod yX5_isLike ∈ lw_all := lw_c3 (List.mem_of_getElem? (i := 111) rfl) rfl
theorem m_592 : Jvm.Cond.selects "Silkloft$Loft" yX5_isLike yX5_isLike ∈ lw_all := lw_c3 (List.mem_of_getElem? (i := 112) rfl) rfl
theorem m_593 : Jvm.Cond.code yX5_isLike prog_7_method_43_code 2 (Option.some Jvm.ClassFile.FieldType.boolean) ∈ lw_all := lw_c3 (List.mem_of_getElem? (i := 113) rfl) rfl
theorem m_594 : Jvm.Cond.methodLink "Silkloft$Loft" 313 yX5_hasRiggersLike ∈ lw_all := lw_c3 (List.mem_of_getElem? (i := 114) rfl) rfl
theorem m_596 : Jvm.Cond.instanceMethod yX5_hasRiggersLike ∈ lw_all := lw_c3 (List.mem_of_getElem? (i := 116) rfl) rfl
theorem m_597 : Jvm.Cond.code yX5_hasRiggersLike prog_7_method_44_code 3 (Option.some Jvm.ClassFile.FieldType.boolean) ∈ lw_all := lw_c3 (List.mem_of_getElem? (i := 117) rfl) rfl
theorem m_598 : Jvm.Cond.methodLink "Silkloft$Loft" 330 yX7_isLike ∈ lw_all := lw_c3 (List.mem_of_getElem? (i := 118) rfl) rfl
theorem m_599 : Jvm.Cond.instanceMethod yX7_isLike ∈ lw_all := lw_c3 (List.mem_of_getElem? (i := 119) rfl) rfl
theorem m_600 : Jvm.Cond.selects "Silkloft$Rigger" yX7_isLike yX7_isLike ∈ lw_all := lw_c3 (List.mem_of_getElem? (i := 120) rfl) rfl
theorem m_601 : Jvm.Cond.code yX7_isLike prog_9_method_4_code 2 (Option.some Jvm.ClassFile.FieldType.boolean) ∈ lw_all := lw_c3 (List.mem_of_getElem? (i := 121) rfl) rfl
theorem m_602 : Jvm.Cond.methodLink "Silkloft$Loft" 317 yX5_hasCanopiesLike ∈ lw_all := lw_c3 (List.mem_of_getElem? (i := 122) rfl) rfl
theorem m_604 : Jvm.Cond.instanceMethod yX5_hasCanopiesLike ∈ lw_all := lw_c3 (List.mem_of_getElem? (i := 124) rfl) rfl
theorem m_605 : Jvm.Cond.code yX5_hasCanopiesLike prog_7_method_45_code 3 (Option.some Jvm.ClassFile.FieldType.boolean) ∈ lw_all := lw_c3 (List.mem_of_getElem? (i := 125) rfl) rfl
theorem m_606 : Jvm.Cond.methodLink "Silkloft$Loft" 333 yX1_isLike ∈ lw_all := lw_c3 (List.mem_of_getElem? (i := 126) rfl) rfl
theorem m_607 : Jvm.Cond.instanceMethod yX1_isLike ∈ lw_all := lw_c3 (List.mem_of_getElem? (i := 127) rfl) rfl
theorem m_608 : Jvm.Cond.selects "Silkloft$Canopy" yX1_isLike yX1_isLike ∈ lw_all := lw_c3 (List.mem_of_getElem? (i := 128) rfl) rfl
theorem m_609 : Jvm.Cond.code yX1_isLike prog_3_method_5_code 2 (Option.some Jvm.ClassFile.FieldType.boolean) ∈ lw_all := lw_c3 (List.mem_of_getElem? (i := 129) rfl) rfl
theorem m_610 : Jvm.Cond.methodLink "Silkloft$Canopy" 75 yX1_isMadeLike ∈ lw_all := lw_c3 (List.mem_of_getElem? (i := 130) rfl) rfl
theorem m_612 : Jvm.Cond.instanceMethod yX1_isMadeLike ∈ lw_all := lw_c3 (List.mem_of_getElem? (i := 132) rfl) rfl
theorem m_613 : Jvm.Cond.code yX1_isMadeLike prog_3_method_6_code 2 (Option.some Jvm.ClassFile.FieldType.boolean) ∈ lw_all := lw_c3 (List.mem_of_getElem? (i := 133) rfl) rfl
theorem m_614 : Jvm.Cond.methodLink "Silkloft$Canopy" 79 yX1_isPackedLike ∈ lw_all := lw_c3 (List.mem_of_getElem? (i := 134) rfl) rfl
theorem m_616 : Jvm.Cond.instanceMethod yX1_isPackedLike ∈ lw_all := lw_c3 (List.mem_of_getElem? (i := 136) rfl) rfl
theorem m_617 : Jvm.Cond.code yX1_isPackedLike prog_3_method_7_code 3 (Option.some Jvm.ClassFile.FieldType.boolean) ∈ lw_all := lw_c3 (List.mem_of_getElem? (i := 137) rfl) rfl
theorem m_618 : Jvm.Cond.methodLink "Silkloft$Canopy" 82 yX1_isTriedLike ∈ lw_all := lw_c3 (List.mem_of_getElem? (i := 138) rfl) rfl
theorem m_620 : Jvm.Cond.instanceMethod yX1_isTriedLike ∈ lw_all := lw_c3 (List.mem_of_getElem? (i := 140) rfl) rfl
theorem m_621 : Jvm.Cond.code yX1_isTriedLike prog_3_method_8_code 2 (Option.some Jvm.ClassFile.FieldType.boolean) ∈ lw_all := lw_c3 (List.mem_of_getElem? (i := 141) rfl) rfl
theorem m_622 : Jvm.Cond.methodLink "Silkloft$Loft" 320 yX5_hasLoadsLike ∈ lw_all := lw_c3 (List.mem_of_getElem? (i := 142) rfl) rfl
theorem m_624 : Jvm.Cond.instanceMethod yX5_hasLoadsLike ∈ lw_all := lw_c3 (List.mem_of_getElem? (i := 144) rfl) rfl
theorem m_625 : Jvm.Cond.code yX5_hasLoadsLike prog_7_method_46_code 3 (Option.some Jvm.ClassFile.FieldType.boolean) ∈ lw_all := lw_c3 (List.mem_of_getElem? (i := 145) rfl) rfl
theorem m_626 : Jvm.Cond.methodLink "Silkloft$Loft" 335 yX4_isLike ∈ lw_all := lw_c3 (List.mem_of_getElem? (i := 146) rfl) rfl
theorem m_627 : Jvm.Cond.instanceMethod yX4_isLike ∈ lw_all := lw_c3 (List.mem_of_getElem? (i := 147) rfl) rfl
theorem m_628 : Jvm.Cond.selects "Silkloft$Load" yX4_isLike yX4_isLike ∈ lw_all := lw_c3 (List.mem_of_getElem? (i := 148) rfl) rfl
theorem m_629 : Jvm.Cond.code yX4_isLike prog_6_method_3_code 3 (Option.some Jvm.ClassFile.FieldType.boolean) ∈ lw_all := lw_c3 (List.mem_of_getElem? (i := 149) rfl) rfl
theorem m_630 : Jvm.Cond.methodLink "Silkloft$Loft" 323 yX5_hasFindingsLike ∈ lw_all := lw_c3 (List.mem_of_getElem? (i := 150) rfl) rfl
theorem m_632 : Jvm.Cond.instanceMethod yX5_hasFindingsLike ∈ lw_all := lw_c3 (List.mem_of_getElem? (i := 152) rfl) rfl
theorem m_633 : Jvm.Cond.code yX5_hasFindingsLike prog_7_method_47_code 3 (Option.some Jvm.ClassFile.FieldType.boolean) ∈ lw_all := lw_c3 (List.mem_of_getElem? (i := 153) rfl) rfl
theorem m_634 : Jvm.Cond.methodLink "Silkloft$Loft" 338 yX3_isLike ∈ lw_all := lw_c3 (List.mem_of_getElem? (i := 154) rfl) rfl
theorem m_635 : Jvm.Cond.instanceMethod yX3_isLike ∈ lw_all := lw_c3 (List.mem_of_getElem? (i := 155) rfl) rfl
theorem m_636 : Jvm.Cond.selects "Silkloft$Finding" yX3_isLike yX3_isLike ∈ lw_all := lw_c3 (List.mem_of_getElem? (i := 156) rfl) rfl
theorem m_637 : Jvm.Cond.code yX3_isLike prog_5_method_4_code 2 (Option.some Jvm.ClassFile.FieldType.boolean) ∈ lw_all := lw_c3 (List.mem_of_getElem? (i := 157) rfl) rfl
theorem m_638 : Jvm.Cond.methodLink "Silkloft$Loft" 326 yX0_isLike ∈ lw_all := lw_c3 (List.mem_of_getElem? (i := 158) rfl) rfl
theorem m_639 : Jvm.Cond.instanceMethod yX0_isLike ∈ lw_all := lw_c3 (List.mem_of_getElem? (i := 159) rfl) rfl
theorem m_640 : Jvm.Cond.selects "Silkloft$Book" yX0_isLike yX0_isLike ∈ lw_all := lw_c3 (List.mem_of_getElem? (i := 160) rfl) rfl
theorem m_641 : Jvm.Cond.code yX0_isLike prog_2_method_7_code 3 (Option.some Jvm.ClassFile.FieldType.boolean) ∈ lw_all := lw_c3 (List.mem_of_getElem? (i := 161) rfl) rfl
theorem m_642 : Jvm.Cond.methodLink "SilkloftLaw" 131 yL_addRigger ∈ lw_all := lw_c3 (List.mem_of_getElem? (i := 162) rfl) rfl
theorem m_643 : Jvm.Cond.static yL_addRigger ∈ lw_all := lw_c3 (List.mem_of_getElem? (i := 163) rfl) rfl
theorem m_644 : Jvm.Cond.codeWith yL_addRigger method_3_code 5 (Option.some Jvm.ClassFile.FieldType.int) [(0, 10, 13, 13), (0, 10, 17, 15)] ∈ lw_all := lw_c3 (List.mem_of_getElem? (i := 164) rfl) rfl
theorem m_645 : Jvm.Cond.classLink "SilkloftLaw" 13 "java/lang/IllegalArgumentException" ∈ lw_all := lw_c3 (List.mem_of_getElem? (i := 165) rfl) rfl
theorem m_646 : Jvm.Cond.classLink "SilkloftLaw" 15 "java/lang/IllegalStateException" ∈ lw_all := lw_c3 (List.mem_of_getElem? (i := 166) rfl) rfl
theorem m_647 : Jvm.Cond.methodLink "SilkloftLaw" 7 yX9_addRigger ∈ lw_all := lw_c3 (List.mem_of_getElem? (i := 167) rfl) rfl
theorem m_648 : Jvm.Cond.instanceMethod yX9_addRigger ∈ lw_all := lw_c3 (List.mem_of_getElem? (i := 168) rfl) rfl
theorem m_649 : Jvm.Cond.selects "Silkloft" yX9_addRigger yX9_addRigger ∈ lw_all := lw_c3 (List.mem_of_getElem? (i := 169) rfl) rfl
theorem m_650 : Jvm.Cond.code yX9_addRigger prog_1_method_2_code 3 (Option.some Jvm.ClassFile.FieldType.int) ∈ lw_all := lw_c3 (List.mem_of_getElem? (i := 170) rfl) rfl
theorem m_651 : Jvm.Cond.methodLink "Silkloft" 26 yX9_act ∈ lw_all := lw_c3 (List.mem_of_getElem? (i := 171) rfl) rfl
theorem m_653 : Jvm.Cond.instanceMethod yX9_act ∈ lw_all := lw_c3 (List.mem_of_getElem? (i := 173) rfl) rfl
theorem m_654 : Jvm.Cond.code yX9_act prog_1_method_37_code 6 (Option.some Jvm.ClassFile.FieldType.int) ∈ lw_all := lw_c3 (List.mem_of_getElem? (i := 174) rfl) rfl
theorem m_655 : Jvm.Cond.methodLink "Silkloft" 143 yX8_refusalOf ∈ lw_all := lw_c3 (List.mem_of_getElem? (i := 175) rfl) rfl
theorem m_656 : Jvm.Cond.methodLink "Silkloft" 149 yX9_throwFor ∈ lw_all := lw_c3 (List.mem_of_getElem? (i := 176) rfl) rfl
theorem m_657 : Jvm.Cond.static yX9_throwFor ∈ lw_all := lw_c3 (List.mem_of_getElem? (i := 177) rfl) rfl
theorem m_658 : Jvm.Cond.code yX9_throwFor prog_1_method_38_code 1 (Option.none : Option Jvm.ClassFile.FieldType) ∈ lw_all := lw_c3 (List.mem_of_getElem? (i := 178) rfl) rfl
theorem m_659 : Jvm.Cond.fieldLink "Silkloft" 164 "Silkloft$Refusal" "INDEX" "LSilkloft$Refusal;" ∈ lw_all := lw_c3 (List.mem_of_getElem? (i := 179) rfl) rfl
theorem m_660 : Jvm.Cond.classLink "Silkloft" 34 "java/lang/IndexOutOfBoundsException" ∈ lw_all := lw_c3 (List.mem_of_getElem? (i := 180) rfl) rfl
theorem m_661 : Jvm.Cond.instantiable "java/lang/IndexOutOfBoundsException" 6 ∈ lw_all := lw_c3 (List.mem_of_getElem? (i := 181) rfl) rfl
theorem m_669 : Jvm.Cond.selects "java/lang/IndexOutOfBoundsException" ⟨"java/lang/Throwable", "fillInStackTrace", "(I)Ljava/lang/Throwable;"⟩ ⟨"java/lang/Throwable", "fillInStackTrace", "(I)Ljava/lang/Throwable;"⟩ ∈ lw_all := lw_c3 (List.mem_of_getElem? (i := 189) rfl) rfl
theorem m_670 : Jvm.Cond.selects "java/lang/IndexOutOfBoundsException" ⟨"java/lang/Throwable", "fillInStackTrace", "()Ljava/lang/Throwable;"⟩ ⟨"java/lang/Throwable", "fillInStackTrace", "()Ljava/lang/Throwable;"⟩ ∈ lw_all := lw_c3 (List.mem_of_getElem? (i := 190) rfl) rfl
theorem m_671 : Jvm.Cond.lays "java/lang/IndexOutOfBoundsException" "java/lang/Throwable" "cause" "Ljava/lang/Throwable;" ∈ lw_all := lw_c3 (List.mem_of_getElem? (i := 191) rfl) rfl
theorem m_672 : Jvm.Cond.lays "java/lang/Throwable" "java/lang/Throwable" "cause" "Ljava/lang/Throwable;" ∈ lw_all := lw_c3 (List.mem_of_getElem? (i := 192) rfl) rfl
theorem m_673 : Jvm.Cond.lays "java/lang/IndexOutOfBoundsException" "java/lang/Throwable" "stackTrace" "[Ljava/lang/StackTraceElement;" ∈ lw_all := lw_c3 (List.mem_of_getElem? (i := 193) rfl) rfl
theorem m_674 : Jvm.Cond.lays "java/lang/Throwable" "java/lang/Throwable" "stackTrace" "[Ljava/lang/StackTraceElement;" ∈ lw_all := lw_c3 (List.mem_of_getElem? (i := 194) rfl) rfl
theorem m_675 : Jvm.Cond.lays "java/lang/IndexOutOfBoundsException" "java/lang/Throwable" "suppressedExceptions" "Ljava/util/List;" ∈ lw_all := lw_c3 (List.mem_of_getElem? (i := 195) rfl) rfl
theorem m_676 : Jvm.Cond.lays "java/lang/Throwable" "java/lang/Throwable" "suppressedExceptions" "Ljava/util/List;" ∈ lw_all := lw_c3 (List.mem_of_getElem? (i := 196) rfl) rfl
theorem m_677 : Jvm.Cond.lays "java/lang/IndexOutOfBoundsException" "java/lang/Throwable" "detailMessage" "Ljava/lang/String;" ∈ lw_all := lw_c3 (List.mem_of_getElem? (i := 197) rfl) rfl
theorem m_678 : Jvm.Cond.lays "java/lang/Throwable" "java/lang/Throwable" "detailMessage" "Ljava/lang/String;" ∈ lw_all := lw_c3 (List.mem_of_getElem? (i := 198) rfl) rfl
theorem m_679 : Jvm.Cond.lays "java/lang/IndexOutOfBoundsException" "java/lang/Throwable" "backtrace" "Ljava/lang/Object;" ∈ lw_all := lw_c3 (List.mem_of_getElem? (i := 199) rfl) rfl
theorem m_680 : Jvm.Cond.lays "java/lang/Throwable" "java/lang/Throwable" "backtrace" "Ljava/lang/Object;" ∈ lw_all := lw_c3 (List.mem_of_getElem? (i := 200) rfl) rfl
theorem m_681 : Jvm.Cond.fieldLink "java/lang/Throwable" 198 "java/lang/Throwable" "backtrace" "Ljava/lang/Object;" ∈ lw_all := lw_c3 (List.mem_of_getElem? (i := 201) rfl) rfl
theorem m_683 : Jvm.Cond.instanceMethod ⟨"java/lang/Throwable", "<init>", "()V"⟩ ∈ lw_all := lw_c3 (List.mem_of_getElem? (i := 203) rfl) rfl
theorem m_684 : Jvm.Cond.code ⟨"java/lang/Throwable", "<init>", "()V"⟩ prog_24_method_1_code 1 (Option.none : Option Jvm.ClassFile.FieldType) ∈ lw_all := lw_c3 (List.mem_of_getElem? (i := 204) rfl) rfl
theorem m_685 : Jvm.Cond.methodLink "java/lang/Throwable" 1 ⟨"java/lang/Object", "<init>", "()V"⟩ ∈ lw_all := lw_c3 (List.mem_of_getElem? (i := 205) rfl) rfl
theorem m_686 : Jvm.Cond.fieldLink "java/lang/Throwable" 13 "java/lang/Throwable" "UNASSIGNED_STACK" "[Ljava/lang/StackTraceElement;" ∈ lw_all := lw_c3 (List.mem_of_getElem? (i := 206) rfl) rfl
theorem m_688 : Jvm.Cond.fieldLink "java/lang/Throwable" 20 "java/lang/Throwable" "SUPPRESSED_SENTINEL" "Ljava/util/List;" ∈ lw_all := lw_c3 (List.mem_of_getElem? (i := 208) rfl) rfl
theorem m_690 : Jvm.Cond.methodLink "java/lang/Throwable" 27 ⟨"java/lang/Throwable", "fillInStackTrace", "()Ljava/lang/Throwable;"⟩ ∈ lw_all := lw_c3 (List.mem_of_getElem? (i := 210) rfl) rfl
theorem m_691 : Jvm.Cond.instanceMethod ⟨"java/lang/Throwable", "fillInStackTrace", "()Ljava/lang/Throwable;"⟩ ∈ lw_all := lw_c3 (List.mem_of_getElem? (i := 211) rfl) rfl
theorem m_693 : Jvm.Cond.selects "java/lang/ArithmeticException" ⟨"java/lang/Throwable", "fillInStackTrace", "()Ljava/lang/Throwable;"⟩ ⟨"java/lang/Throwable", "fillInStackTrace", "()Ljava/lang/Throwable;"⟩ ∈ lw_all := lw_c3 (List.mem_of_getElem? (i := 213) rfl) rfl
theorem m_694 : Jvm.Cond.selects "java/lang/ArrayIndexOutOfBoundsException" ⟨"java/lang/Throwable", "fillInStackTrace", "()Ljava/lang/Throwable;"⟩ ⟨"java/lang/Throwable", "fillInStackTrace", "()Ljava/lang/Throwable;"⟩ ∈ lw_all := lw_c3 (List.mem_of_getElem? (i := 214) rfl) rfl
theorem m_695 : Jvm.Cond.selects "java/lang/IllegalArgumentException" ⟨"java/lang/Throwable", "fillInStackTrace", "()Ljava/lang/Throwable;"⟩ ⟨"java/lang/Throwable", "fillInStackTrace", "()Ljava/lang/Throwable;"⟩ ∈ lw_all := lw_c3 (List.mem_of_getElem? (i := 215) rfl) rfl
theorem m_696 : Jvm.Cond.selects "java/lang/IllegalStateException" ⟨"java/lang/Throwable", "fillInStackTrace", "()Ljava/lang/Throwable;"⟩ ⟨"java/lang/Throwable", "fillInStackTrace", "()Ljava/lang/Throwable;"⟩ ∈ lw_all := lw_c3 (List.mem_of_getElem? (i := 216) rfl) rfl
theorem m_697 : Jvm.Cond.selects "java/lang/UnsupportedOperationException" ⟨"java/lang/Throwable", "fillInStackTrace", "()Ljava/lang/Throwable;"⟩ ⟨"java/lang/Throwable", "fillInStackTrace", "()Ljava/lang/Throwable;"⟩ ∈ lw_all := lw_c3 (List.mem_of_getElem? (i := 217) rfl) rfl
theorem m_698 : Jvm.Cond.selects "java/util/NoSuchElementException" ⟨"java/lang/Throwable", "fillInStackTrace", "()Ljava/lang/Throwable;"⟩ ⟨"java/lang/Throwable", "fillInStackTrace", "()Ljava/lang/Throwable;"⟩ ∈ lw_all := lw_c3 (List.mem_of_getElem? (i := 218) rfl) rfl
theorem m_700 : Jvm.Cond.methodLink "java/lang/Throwable" 202 ⟨"java/lang/Throwable", "fillInStackTrace", "(I)Ljava/lang/Throwable;"⟩ ∈ lw_all := lw_c3 (List.mem_of_getElem? (i := 220) rfl) rfl
theorem m_702 : Jvm.Cond.instanceMethod ⟨"java/lang/Throwable", "fillInStackTrace", "(I)Ljava/lang/Throwable;"⟩ ∈ lw_all := lw_c3 (List.mem_of_getElem? (i := 222) rfl) rfl
theorem m_703 : Jvm.Cond.instantiable "java/lang/Throwable" 6 ∈ lw_all := lw_c3 (List.mem_of_getElem? (i := 223) rfl) rfl
theorem m_706 : Jvm.Cond.methodLink "Silkloft" 38 ⟨"java/lang/IndexOutOfBoundsException", "<init>", "(Ljava/lang/String;)V"⟩ ∈ lw_all := lw_c3 (List.mem_of_getElem? (i := 226) rfl) rfl
theorem m_707 : Jvm.Cond.instanceMethod ⟨"java/lang/IndexOutOfBoundsException", "<init>", "(Ljava/lang/String;)V"⟩ ∈ lw_all := lw_c3 (List.mem_of_getElem? (i := 227) rfl) rfl
theorem m_708 : Jvm.Cond.code ⟨"java/lang/IndexOutOfBoundsException", "<init>", "(Ljava/lang/String;)V"⟩ prog_20_method_2_code 2 (Option.none : Option Jvm.ClassFile.FieldType) ∈ lw_all := lw_c3 (List.mem_of_getElem? (i := 228) rfl) rfl
theorem m_709 : Jvm.Cond.methodLink "java/lang/IndexOutOfBoundsException" 7 ⟨"java/lang/RuntimeException", "<init>", "(Ljava/lang/String;)V"⟩ ∈ lw_all := lw_c3 (List.mem_of_getElem? (i := 229) rfl) rfl
theorem m_710 : Jvm.Cond.instanceMethod ⟨"java/lang/RuntimeException", "<init>", "(Ljava/lang/String;)V"⟩ ∈ lw_all := lw_c3 (List.mem_of_getElem? (i := 230) rfl) rfl
theorem m_711 : Jvm.Cond.code ⟨"java/lang/RuntimeException", "<init>", "(Ljava/lang/String;)V"⟩ prog_22_method_2_code 2 (Option.none : Option Jvm.ClassFile.FieldType) ∈ lw_all := lw_c3 (List.mem_of_getElem? (i := 231) rfl) rfl
theorem m_712 : Jvm.Cond.methodLink "java/lang/RuntimeException" 7 ⟨"java/lang/Exception", "<init>", "(Ljava/lang/String;)V"⟩ ∈ lw_all := lw_c3 (List.mem_of_getElem? (i := 232) rfl) rfl
theorem m_713 : Jvm.Cond.instanceMethod ⟨"java/lang/Exception", "<init>", "(Ljava/lang/String;)V"⟩ ∈ lw_all := lw_c3 (List.mem_of_getElem? (i := 233) rfl) rfl
theorem m_714 : Jvm.Cond.code ⟨"java/lang/Exception", "<init>", "(Ljava/lang/String;)V"⟩ prog_17_method_2_code 2 (Option.none : Option Jvm.ClassFile.FieldType) ∈ lw_all := lw_c3 (List.mem_of_getElem? (i := 234) rfl) rfl
theorem m_715 : Jvm.Cond.methodLink "java/lang/Exception" 7 ⟨"java/lang/Throwable", "<init>", "(Ljava/lang/String;)V"⟩ ∈ lw_all := lw_c3 (List.mem_of_getElem? (i := 235) rfl) rfl
theorem m_716 : Jvm.Cond.instanceMethod ⟨"java/lang/Throwable", "<init>", "(Ljava/lang/String;)V"⟩ ∈ lw_all := lw_c3 (List.mem_of_getElem? (i := 236) rfl) rfl
theorem m_717 : Jvm.Cond.code ⟨"java/lang/Throwable", "<init>", "(Ljava/lang/String;)V"⟩ prog_24_method_2_code 2 (Option.none : Option Jvm.ClassFile.FieldType) ∈ lw_all := lw_c3 (List.mem_of_getElem? (i := 237) rfl) rfl
theorem m_718 : Jvm.Cond.fieldLink "java/lang/Throwable" 198 "java/lang/Throwable" "backtrace" "Ljava/lang/Object;" ∈ lw_all := lw_c3 (List.mem_of_getElem? (i := 238) rfl) rfl
theorem m_719 : Jvm.Cond.fieldLink "java/lang/Throwable" 31 "java/lang/Throwable" "detailMessage" "Ljava/lang/String;" ∈ lw_all := lw_c3 (List.mem_of_getElem? (i := 239) rfl) rfl
theorem m_720 : Jvm.Cond.fieldLink "java/lang/Throwable" 7 "java/lang/Throwable" "cause" "Ljava/lang/Throwable;" ∈ lw_all := lw_c4 (List.mem_of_getElem? (i := 0) rfl) rfl
theorem m_721 : Jvm.Cond.fieldLink "java/lang/Throwable" 17 "java/lang/Throwable" "stackTrace" "[Ljava/lang/StackTraceElement;" ∈ lw_all := lw_c4 (List.mem_of_getElem? (i := 1) rfl) rfl
theorem m_722 : Jvm.Cond.fieldLink "java/lang/Throwable" 24 "java/lang/Throwable" "suppressedExceptions" "Ljava/util/List;" ∈ lw_all := lw_c4 (List.mem_of_getElem? (i := 2) rfl) rfl
theorem m_727 : Jvm.Cond.lays "java/lang/IndexOutOfBoundsException" "java/lang/Throwable" "depth" "I" ∈ lw_all := lw_c4 (List.mem_of_getElem? (i := 7) rfl) rfl
theorem m_731 : Jvm.Cond.arrayClass Jvm.ClassFile.FieldType.byte ∈ lw_all := lw_c4 (List.mem_of_getElem? (i := 11) rfl) rfl
theorem m_732 : Jvm.Cond.fieldLink "Silkloft" 172 "Silkloft$Refusal" "ARGUMENT" "LSilkloft$Refusal;" ∈ lw_all := lw_c4 (List.mem_of_getElem? (i := 12) rfl) rfl
theorem m_733 : Jvm.Cond.classLink "Silkloft" 68 "java/lang/IllegalArgumentException" ∈ lw_all := lw_c4 (List.mem_of_getElem? (i := 13) rfl) rfl
theorem m_734 : Jvm.Cond.instantiable "java/lang/IllegalArgumentException" 6 ∈ lw_all := lw_c4 (List.mem_of_getElem? (i := 14) rfl) rfl
theorem m_736 : Jvm.Cond.selects "java/lang/IllegalArgumentException" ⟨"java/lang/Throwable", "fillInStackTrace", "(I)Ljava/lang/Throwable;"⟩ ⟨"java/lang/Throwable", "fillInStackTrace", "(I)Ljava/lang/Throwable;"⟩ ∈ lw_all := lw_c4 (List.mem_of_getElem? (i := 16) rfl) rfl
theorem m_737 : Jvm.Cond.lays "java/lang/IllegalArgumentException" "java/lang/Throwable" "cause" "Ljava/lang/Throwable;" ∈ lw_all := lw_c4 (List.mem_of_getElem? (i := 17) rfl) rfl
theorem m_738 : Jvm.Cond.lays "java/lang/IllegalArgumentException" "java/lang/Throwable" "stackTrace" "[Ljava/lang/StackTraceElement;" ∈ lw_all := lw_c4 (List.mem_of_getElem? (i := 18) rfl) rfl
theorem m_739 : Jvm.Cond.lays "java/lang/IllegalArgumentException" "java/lang/Throwable" "suppressedExceptions" "Ljava/util/List;" ∈ lw_all := lw_c4 (List.mem_of_getElem? (i := 19) rfl) rfl
theorem m_740 : Jvm.Cond.lays "java/lang/IllegalArgumentException" "java/lang/Throwable" "detailMessage" "Ljava/lang/String;" ∈ lw_all := lw_c4 (List.mem_of_getElem? (i := 20) rfl) rfl
theorem m_741 : Jvm.Cond.lays "java/lang/IllegalArgumentException" "java/lang/Throwable" "backtrace" "Ljava/lang/Object;" ∈ lw_all := lw_c4 (List.mem_of_getElem? (i := 21) rfl) rfl
theorem m_743 : Jvm.Cond.methodLink "Silkloft" 72 ⟨"java/lang/IllegalArgumentException", "<init>", "(Ljava/lang/String;)V"⟩ ∈ lw_all := lw_c4 (List.mem_of_getElem? (i := 23) rfl) rfl
theorem m_744 : Jvm.Cond.instanceMethod ⟨"java/lang/IllegalArgumentException", "<init>", "(Ljava/lang/String;)V"⟩ ∈ lw_all := lw_c4 (List.mem_of_getElem? (i := 24) rfl) rfl
theorem m_745 : Jvm.Cond.code ⟨"java/lang/IllegalArgumentException", "<init>", "(Ljava/lang/String;)V"⟩ prog_18_method_2_code 2 (Option.none : Option Jvm.ClassFile.FieldType) ∈ lw_all := lw_c4 (List.mem_of_getElem? (i := 25) rfl) rfl
theorem m_746 : Jvm.Cond.methodLink "java/lang/IllegalArgumentException" 7 ⟨"java/lang/RuntimeException", "<init>", "(Ljava/lang/String;)V"⟩ ∈ lw_all := lw_c4 (List.mem_of_getElem? (i := 26) rfl) rfl
theorem m_747 : Jvm.Cond.lays "java/lang/IllegalArgumentException" "java/lang/Throwable" "depth" "I" ∈ lw_all := lw_c4 (List.mem_of_getElem? (i := 27) rfl) rfl
theorem m_749 : Jvm.Cond.fieldLink "Silkloft" 177 "Silkloft$Refusal" "UNSUPPORTED" "LSilkloft$Refusal;" ∈ lw_all := lw_c4 (List.mem_of_getElem? (i := 29) rfl) rfl
theorem m_750 : Jvm.Cond.classLink "Silkloft" 180 "java/lang/UnsupportedOperationException" ∈ lw_all := lw_c4 (List.mem_of_getElem? (i := 30) rfl) rfl
theorem m_751 : Jvm.Cond.instantiable "java/lang/UnsupportedOperationException" 6 ∈ lw_all := lw_c4 (List.mem_of_getElem? (i := 31) rfl) rfl
theorem m_753 : Jvm.Cond.selects "java/lang/UnsupportedOperationException" ⟨"java/lang/Throwable", "fillInStackTrace", "(I)Ljava/lang/Throwable;"⟩ ⟨"java/lang/Throwable", "fillInStackTrace", "(I)Ljava/lang/Throwable;"⟩ ∈ lw_all := lw_c4 (List.mem_of_getElem? (i := 33) rfl) rfl
theorem m_754 : Jvm.Cond.lays "java/lang/UnsupportedOperationException" "java/lang/Throwable" "cause" "Ljava/lang/Throwable;" ∈ lw_all := lw_c4 (List.mem_of_getElem? (i := 34) rfl) rfl
theorem m_755 : Jvm.Cond.lays "java/lang/UnsupportedOperationException" "java/lang/Throwable" "stackTrace" "[Ljava/lang/StackTraceElement;" ∈ lw_all := lw_c4 (List.mem_of_getElem? (i := 35) rfl) rfl
theorem m_756 : Jvm.Cond.lays "java/lang/UnsupportedOperationException" "java/lang/Throwable" "suppressedExceptions" "Ljava/util/List;" ∈ lw_all := lw_c4 (List.mem_of_getElem? (i := 36) rfl) rfl
theorem m_757 : Jvm.Cond.lays "java/lang/UnsupportedOperationException" "java/lang/Throwable" "detailMessage" "Ljava/lang/String;" ∈ lw_all := lw_c4 (List.mem_of_getElem? (i := 37) rfl) rfl
theorem m_758 : Jvm.Cond.lays "java/lang/UnsupportedOperationException" "java/lang/Throwable" "backtrace" "Ljava/lang/Object;" ∈ lw_all := lw_c4 (List.mem_of_getElem? (i := 38) rfl) rfl
theorem m_760 : Jvm.Cond.methodLink "Silkloft" 184 ⟨"java/lang/UnsupportedOperationException", "<init>", "(Ljava/lang/String;)V"⟩ ∈ lw_all := lw_c4 (List.mem_of_getElem? (i := 40) rfl) rfl
theorem m_761 : Jvm.Cond.instanceMethod ⟨"java/lang/UnsupportedOperationException", "<init>", "(Ljava/lang/String;)V"⟩ ∈ lw_all := lw_c4 (List.mem_of_getElem? (i := 41) rfl) rfl
theorem m_762 : Jvm.Cond.code ⟨"java/lang/UnsupportedOperationException", "<init>", "(Ljava/lang/String;)V"⟩ prog_25_method_2_code 2 (Option.none : Option Jvm.ClassFile.FieldType) ∈ lw_all := lw_c4 (List.mem_of_getElem? (i := 42) rfl) rfl
theorem m_763 : Jvm.Cond.methodLink "java/lang/UnsupportedOperationException" 7 ⟨"java/lang/RuntimeException", "<init>", "(Ljava/lang/String;)V"⟩ ∈ lw_all := lw_c4 (List.mem_of_getElem? (i := 43) rfl) rfl
theorem m_764 : Jvm.Cond.lays "java/lang/UnsupportedOperationException" "java/lang/Throwable" "depth" "I" ∈ lw_all := lw_c4 (List.mem_of_getElem? (i := 44) rfl) rfl
theorem m_766 : Jvm.Cond.fieldLink "Silkloft" 185 "Silkloft$Refusal" "STATE" "LSilkloft$Refusal;" ∈ lw_all := lw_c4 (List.mem_of_getElem? (i := 46) rfl) rfl
theorem m_767 : Jvm.Cond.classLink "Silkloft" 188 "java/lang/IllegalStateException" ∈ lw_all := lw_c4 (List.mem_of_getElem? (i := 47) rfl) rfl
theorem m_768 : Jvm.Cond.instantiable "java/lang/IllegalStateException" 6 ∈ lw_all := lw_c4 (List.mem_of_getElem? (i := 48) rfl) rfl
theorem m_770 : Jvm.Cond.selects "java/lang/IllegalStateException" ⟨"java/lang/Throwable", "fillInStackTrace", "(I)Ljava/lang/Throwable;"⟩ ⟨"java/lang/Throwable", "fillInStackTrace", "(I)Ljava/lang/Throwable;"⟩ ∈ lw_all := lw_c4 (List.mem_of_getElem? (i := 50) rfl) rfl
theorem m_771 : Jvm.Cond.lays "java/lang/IllegalStateException" "java/lang/Throwable" "cause" "Ljava/lang/Throwable;" ∈ lw_all := lw_c4 (List.mem_of_getElem? (i := 51) rfl) rfl
theorem m_772 : Jvm.Cond.lays "java/lang/IllegalStateException" "java/lang/Throwable" "stackTrace" "[Ljava/lang/StackTraceElement;" ∈ lw_all := lw_c4 (List.mem_of_getElem? (i := 52) rfl) rfl
theorem m_773 : Jvm.Cond.lays "java/lang/IllegalStateException" "java/lang/Throwable" "suppressedExceptions" "Ljava/util/List;" ∈ lw_all := lw_c4 (List.mem_of_getElem? (i := 53) rfl) rfl
theorem m_774 : Jvm.Cond.lays "java/lang/IllegalStateException" "java/lang/Throwable" "detailMessage" "Ljava/lang/String;" ∈ lw_all := lw_c4 (List.mem_of_getElem? (i := 54) rfl) rfl
theorem m_775 : Jvm.Cond.lays "java/lang/IllegalStateException" "java/lang/Throwable" "backtrace" "Ljava/lang/Object;" ∈ lw_all := lw_c4 (List.mem_of_getElem? (i := 55) rfl) rfl
theorem m_777 : Jvm.Cond.methodLink "Silkloft" 192 ⟨"java/lang/IllegalStateException", "<init>", "(Ljava/lang/String;)V"⟩ ∈ lw_all := lw_c4 (List.mem_of_getElem? (i := 57) rfl) rfl
theorem m_778 : Jvm.Cond.instanceMethod ⟨"java/lang/IllegalStateException", "<init>", "(Ljava/lang/String;)V"⟩ ∈ lw_all := lw_c4 (List.mem_of_getElem? (i := 58) rfl) rfl
theorem m_779 : Jvm.Cond.code ⟨"java/lang/IllegalStateException", "<init>", "(Ljava/lang/String;)V"⟩ prog_19_method_2_code 2 (Option.none : Option Jvm.ClassFile.FieldType) ∈ lw_all := lw_c4 (List.mem_of_getElem? (i := 59) rfl) rfl
theorem m_780 : Jvm.Cond.methodLink "java/lang/IllegalStateException" 7 ⟨"java/lang/RuntimeException", "<init>", "(Ljava/lang/String;)V"⟩ ∈ lw_all := lw_c4 (List.mem_of_getElem? (i := 60) rfl) rfl
theorem m_781 : Jvm.Cond.lays "java/lang/IllegalStateException" "java/lang/Throwable" "depth" "I" ∈ lw_all := lw_c4 (List.mem_of_getElem? (i := 61) rfl) rfl
theorem m_783 : Jvm.Cond.methodLink "Silkloft" 153 yX2_isFull ∈ lw_all := lw_c4 (List.mem_of_getElem? (i := 63) rfl) rfl
theorem m_784 : Jvm.Cond.instanceMethod yX2_isFull ∈ lw_all := lw_c4 (List.mem_of_getElem? (i := 64) rfl) rfl
theorem m_785 : Jvm.Cond.selects "Silkloft$Diary" yX2_isFull yX2_isFull ∈ lw_all := lw_c4 (List.mem_of_getElem? (i := 65) rfl) rfl
theorem m_786 : Jvm.Cond.code yX2_isFull prog_4_method_2_code 1 (Option.some Jvm.ClassFile.FieldType.boolean) ∈ lw_all := lw_c4 (List.mem_of_getElem? (i := 66) rfl) rfl
theorem m_787 : Jvm.Cond.methodLink "Silkloft" 157 yX2_write ∈ lw_all := lw_c4 (List.mem_of_getElem? (i := 67) rfl) rfl
theorem m_788 : Jvm.Cond.instanceMethod yX2_write ∈ lw_all := lw_c4 (List.mem_of_getElem? (i := 68) rfl) rfl
theorem m_789 : Jvm.Cond.selects "Silkloft$Diary" yX2_write yX2_write ∈ lw_all := lw_c4 (List.mem_of_getElem? (i := 69) rfl) rfl
theorem m_790 : Jvm.Cond.code yX2_write prog_4_method_3_code 7 (Option.none : Option Jvm.ClassFile.FieldType) ∈ lw_all := lw_c4 (List.mem_of_getElem? (i := 70) rfl) rfl
theorem m_791 : Jvm.Cond.methodLink "Silkloft$Diary" 19 yX2_isFull ∈ lw_all := lw_c4 (List.mem_of_getElem? (i := 71) rfl) rfl
theorem m_792 : Jvm.Cond.methodLink "Silkloft" 161 yX5_perform ∈ lw_all := lw_c4 (List.mem_of_getElem? (i := 72) rfl) rfl
theorem m_793 : Jvm.Cond.methodLink "SilkloftLaw" 140 yL_setLicences ∈ lw_all := lw_c4 (List.mem_of_getElem? (i := 73) rfl) rfl
theorem m_794 : Jvm.Cond.static yL_setLicences ∈ lw_all := lw_c4 (List.mem_of_getElem? (i := 74) rfl) rfl
theorem m_795 : Jvm.Cond.codeWith yL_setLicences method_4_code 6 (Option.some Jvm.ClassFile.FieldType.int) [(0, 12, 15, 21), (0, 12, 19, 13)] ∈ lw_all := lw_c4 (List.mem_of_getElem? (i := 75) rfl) rfl
theorem m_796 : Jvm.Cond.classLink "SilkloftLaw" 21 "java/lang/IndexOutOfBoundsException" ∈ lw_all := lw_c4 (List.mem_of_getElem? (i := 76) rfl) rfl
theorem m_797 : Jvm.Cond.instantiable "java/lang/ArrayIndexOutOfBoundsException" 6 ∈ lw_all := lw_c4 (List.mem_of_getElem? (i := 77) rfl) rfl
theorem m_798 : Jvm.Cond.instanceMethod yJx00060_init_a7421 ∈ lw_all := lw_c4 (List.mem_of_getElem? (i := 78) rfl) rfl
theorem m_799 : Jvm.Cond.code yJx00060_init_a7421 prog_15_method_2_code 2 (Option.none : Option Jvm.ClassFile.FieldType) ∈ lw_all := lw_c4 (List.mem_of_getElem? (i := 79) rfl) rfl
theorem m_800 : Jvm.Cond.methodLink "java/lang/ArrayIndexOutOfBoundsException" 7 ⟨"java/lang/IndexOutOfBoundsException", "<init>", "(Ljava/lang/String;)V"⟩ ∈ lw_all := lw_c4 (List.mem_of_getElem? (i := 80) rfl) rfl
theorem m_801 : Jvm.Cond.lays "java/lang/ArrayIndexOutOfBoundsException" "java/lang/Throwable" "backtrace" "Ljava/lang/Object;" ∈ lw_all := lw_c4 (List.mem_of_getElem? (i := 81) rfl) rfl
theorem m_802 : Jvm.Cond.lays "java/lang/ArrayIndexOutOfBoundsException" "java/lang/Throwable" "detailMessage" "Ljava/lang/String;" ∈ lw_all := lw_c4 (List.mem_of_getElem? (i := 82) rfl) rfl
theorem m_803 : Jvm.Cond.lays "java/lang/ArrayIndexOutOfBoundsException" "java/lang/Throwable" "cause" "Ljava/lang/Throwable;" ∈ lw_all := lw_c4 (List.mem_of_getElem? (i := 83) rfl) rfl
theorem m_804 : Jvm.Cond.lays "java/lang/ArrayIndexOutOfBoundsException" "java/lang/Throwable" "stackTrace" "[Ljava/lang/StackTraceElement;" ∈ lw_all := lw_c4 (List.mem_of_getElem? (i := 84) rfl) rfl
theorem m_805 : Jvm.Cond.lays "java/lang/ArrayIndexOutOfBoundsException" "java/lang/Throwable" "depth" "I" ∈ lw_all := lw_c4 (List.mem_of_getElem? (i := 85) rfl) rfl
theorem m_806 : Jvm.Cond.lays "java/lang/ArrayIndexOutOfBoundsException" "java/lang/Throwable" "suppressedExceptions" "Ljava/util/List;" ∈ lw_all := lw_c4 (List.mem_of_getElem? (i := 86) rfl) rfl
theorem m_811 : Jvm.Cond.selects "java/lang/ArrayIndexOutOfBoundsException" ⟨"java/lang/Throwable", "fillInStackTrace", "(I)Ljava/lang/Throwable;"⟩ ⟨"java/lang/Throwable", "fillInStackTrace", "(I)Ljava/lang/Throwable;"⟩ ∈ lw_all := lw_c4 (List.mem_of_getElem? (i := 91) rfl) rfl
theorem m_812 : Jvm.Cond.instantiable "java/lang/String" 4 ∈ lw_all := lw_c4 (List.mem_of_getElem? (i := 92) rfl) rfl
theorem m_813 : Jvm.Cond.laysFinal "java/lang/String" "java/lang/String" "value" "[B" ∈ lw_all := lw_c4 (List.mem_of_getElem? (i := 93) rfl) rfl
theorem m_815 : Jvm.Cond.laysFinal "java/lang/String" "java/lang/String" "coder" "B" ∈ lw_all := lw_c4 (List.mem_of_getElem? (i := 95) rfl) rfl
theorem m_817 : Jvm.Cond.methodLink "SilkloftLaw" 17 yX9_setLicences ∈ lw_all := lw_c4 (List.mem_of_getElem? (i := 97) rfl) rfl
theorem m_818 : Jvm.Cond.instanceMethod yX9_setLicences ∈ lw_all := lw_c4 (List.mem_of_getElem? (i := 98) rfl) rfl
theorem m_819 : Jvm.Cond.selects "Silkloft" yX9_setLicences yX9_setLicences ∈ lw_all := lw_c4 (List.mem_of_getElem? (i := 99) rfl) rfl
theorem m_820 : Jvm.Cond.code yX9_setLicences prog_1_method_3_code 4 (Option.some Jvm.ClassFile.FieldType.int) ∈ lw_all := lw_c4 (List.mem_of_getElem? (i := 100) rfl) rfl
theorem m_821 : Jvm.Cond.methodLink "SilkloftLaw" 144 yL_addCanopy ∈ lw_all := lw_c4 (List.mem_of_getElem? (i := 101) rfl) rfl
theorem m_822 : Jvm.Cond.static yL_addCanopy ∈ lw_all := lw_c4 (List.mem_of_getElem? (i := 102) rfl) rfl
theorem m_823 : Jvm.Cond.codeWith yL_addCanopy method_5_code 7 (Option.some Jvm.ClassFile.FieldType.int) [(0, 14, 17, 13), (0, 14, 21, 15)] ∈ lw_all := lw_c4 (List.mem_of_getElem? (i := 103) rfl) rfl
theorem m_824 : Jvm.Cond.methodLink "SilkloftLaw" 23 yX9_addCanopy ∈ lw_all := lw_c4 (List.mem_of_getElem? (i := 104) rfl) rfl
theorem m_825 : Jvm.Cond.instanceMethod yX9_addCanopy ∈ lw_all := lw_c4 (List.mem_of_getElem? (i := 105) rfl) rfl
theorem m_826 : Jvm.Cond.selects "Silkloft" yX9_addCanopy yX9_addCanopy ∈ lw_all := lw_c4 (List.mem_of_getElem? (i := 106) rfl) rfl
theorem m_827 : Jvm.Cond.code yX9_addCanopy prog_1_method_4_code 5 (Option.some Jvm.ClassFile.FieldType.int) ∈ lw_all := lw_c4 (List.mem_of_getElem? (i := 107) rfl) rfl
theorem m_828 : Jvm.Cond.methodLink "SilkloftLaw" 148 yL_setPeriod ∈ lw_all := lw_c4 (List.mem_of_getElem? (i := 108) rfl) rfl
theorem m_829 : Jvm.Cond.static yL_setPeriod ∈ lw_all := lw_c4 (List.mem_of_getElem? (i := 109) rfl) rfl
theorem m_830 : Jvm.Cond.codeWith yL_setPeriod method_6_code 4 (Option.some Jvm.ClassFile.FieldType.int) [(0, 9, 12, 13)] ∈ lw_all := lw_c4 (List.mem_of_getElem? (i := 110) rfl) rfl
theorem m_831 : Jvm.Cond.methodLink "SilkloftLaw" 27 yX9_setPeriod ∈ lw_all := lw_c4 (List.mem_of_getElem? (i := 111) rfl) rfl
theorem m_832 : Jvm.Cond.instanceMethod yX9_setPeriod ∈ lw_all := lw_c4 (List.mem_of_getElem? (i := 112) rfl) rfl
theorem m_833 : Jvm.Cond.selects "Silkloft" yX9_setPeriod yX9_setPeriod ∈ lw_all := lw_c4 (List.mem_of_getElem? (i := 113) rfl) rfl
theorem m_834 : Jvm.Cond.code yX9_setPeriod prog_1_method_5_code 2 (Option.some Jvm.ClassFile.FieldType.int) ∈ lw_all := lw_c4 (List.mem_of_getElem? (i := 114) rfl) rfl
theorem m_835 : Jvm.Cond.methodLink "SilkloftLaw" 152 yL_goOn ∈ lw_all := lw_c4 (List.mem_of_getElem? (i := 115) rfl) rfl
theorem m_836 : Jvm.Cond.static yL_goOn ∈ lw_all := lw_c4 (List.mem_of_getElem? (i := 116) rfl) rfl
theorem m_837 : Jvm.Cond.codeWith yL_goOn method_7_code 4 (Option.some Jvm.ClassFile.FieldType.int) [(0, 9, 12, 13), (0, 9, 15, 15)] ∈ lw_all := lw_c4 (List.mem_of_getElem? (i := 117) rfl) rfl
theorem m_838 : Jvm.Cond.methodLink "SilkloftLaw" 31 yX9_goOn ∈ lw_all := lw_c4 (List.mem_of_getElem? (i := 118) rfl) rfl
theorem m_839 : Jvm.Cond.instanceMethod yX9_goOn ∈ lw_all := lw_c4 (List.mem_of_getElem? (i := 119) rfl) rfl
theorem m_840 : Jvm.Cond.selects "Silkloft" yX9_goOn yX9_goOn ∈ lw_all := lw_c4 (List.mem_of_getElem? (i := 120) rfl) rfl
theorem m_841 : Jvm.Cond.code yX9_goOn prog_1_method_6_code 2 (Option.some Jvm.ClassFile.FieldType.int) ∈ lw_all := lw_c4 (List.mem_of_getElem? (i := 121) rfl) rfl
theorem m_842 : Jvm.Cond.methodLink "SilkloftLaw" 155 yL_hang ∈ lw_all := lw_c4 (List.mem_of_getElem? (i := 122) rfl) rfl
theorem m_843 : Jvm.Cond.static yL_hang ∈ lw_all := lw_c4 (List.mem_of_getElem? (i := 123) rfl) rfl
theorem m_844 : Jvm.Cond.codeWith yL_hang method_8_code 5 (Option.some Jvm.ClassFile.FieldType.int) [(0, 10, 13, 21), (0, 10, 17, 13), (0, 10, 21, 37), (0, 10, 25, 15)] ∈ lw_all := lw_c4 (List.mem_of_getElem? (i := 124) rfl) rfl
theorem m_845 : Jvm.Cond.classLink "SilkloftLaw" 37 "java/lang/UnsupportedOperationException" ∈ lw_all := lw_c4 (List.mem_of_getElem? (i := 125) rfl) rfl
theorem m_846 : Jvm.Cond.methodLink "SilkloftLaw" 34 yX9_hang ∈ lw_all := lw_c4 (List.mem_of_getElem? (i := 126) rfl) rfl
theorem m_847 : Jvm.Cond.instanceMethod yX9_hang ∈ lw_all := lw_c4 (List.mem_of_getElem? (i := 127) rfl) rfl
theorem m_848 : Jvm.Cond.selects "Silkloft" yX9_hang yX9_hang ∈ lw_all := lw_c4 (List.mem_of_getElem? (i := 128) rfl) rfl
theorem m_849 : Jvm.Cond.code yX9_hang prog_1_method_7_code 3 (Option.some Jvm.ClassFile.FieldType.int) ∈ lw_all := lw_c4 (List.mem_of_getElem? (i := 129) rfl) rfl
theorem m_850 : Jvm.Cond.methodLink "SilkloftLaw" 158 yL_step ∈ lw_all := lw_c4 (List.mem_of_getElem? (i := 130) rfl) rfl
theorem m_851 : Jvm.Cond.static yL_step ∈ lw_all := lw_c4 (List.mem_of_getElem? (i := 131) rfl) rfl
theorem m_852 : Jvm.Cond.codeWith yL_step method_9_code 5 (Option.some Jvm.ClassFile.FieldType.int) [(0, 10, 13, 21), (0, 10, 17, 37), (0, 10, 21, 13)] ∈ lw_all := lw_c4 (List.mem_of_getElem? (i := 132) rfl) rfl
theorem m_853 : Jvm.Cond.methodLink "SilkloftLaw" 39 yX9_step ∈ lw_all := lw_c4 (List.mem_of_getElem? (i := 133) rfl) rfl
theorem m_854 : Jvm.Cond.instanceMethod yX9_step ∈ lw_all := lw_c4 (List.mem_of_getElem? (i := 134) rfl) rfl
theorem m_855 : Jvm.Cond.selects "Silkloft" yX9_step yX9_step ∈ lw_all := lw_c4 (List.mem_of_getElem? (i := 135) rfl) rfl
theorem m_856 : Jvm.Cond.code yX9_step prog_1_method_8_code 3 (Option.some Jvm.ClassFile.FieldType.int) ∈ lw_all := lw_c4 (List.mem_of_getElem? (i := 136) rfl) rfl
theorem m_857 : Jvm.Cond.methodLink "SilkloftLaw" 161 yL_breakOff ∈ lw_all := lw_c4 (List.mem_of_getElem? (i := 137) rfl) rfl
theorem m_858 : Jvm.Cond.static yL_breakOff ∈ lw_all := lw_c4 (List.mem_of_getElem? (i := 138) rfl) rfl
theorem m_859 : Jvm.Cond.codeWith yL_breakOff method_10_code 4 (Option.some Jvm.ClassFile.FieldType.int) [(0, 9, 12, 21), (0, 9, 15, 37)] ∈ lw_all := lw_c4 (List.mem_of_getElem? (i := 139) rfl) rfl
theorem m_860 : Jvm.Cond.methodLink "SilkloftLaw" 42 yX9_breakOff ∈ lw_all := lw_c4 (List.mem_of_getElem? (i := 140) rfl) rfl
theorem m_861 : Jvm.Cond.instanceMethod yX9_breakOff ∈ lw_all := lw_c4 (List.mem_of_getElem? (i := 141) rfl) rfl
theorem m_862 : Jvm.Cond.selects "Silkloft" yX9_breakOff yX9_breakOff ∈ lw_all := lw_c4 (List.mem_of_getElem? (i := 142) rfl) rfl
theorem m_863 : Jvm.Cond.code yX9_breakOff prog_1_method_9_code 2 (Option.some Jvm.ClassFile.FieldType.int) ∈ lw_all := lw_c4 (List.mem_of_getElem? (i := 143) rfl) rfl
theorem m_864 : Jvm.Cond.methodLink "SilkloftLaw" 164 yL_load ∈ lw_all := lw_c4 (List.mem_of_getElem? (i := 144) rfl) rfl
theorem m_865 : Jvm.Cond.static yL_load ∈ lw_all := lw_c4 (List.mem_of_getElem? (i := 145) rfl) rfl
theorem m_866 : Jvm.Cond.codeWith yL_load method_11_code 3 (Option.some Jvm.ClassFile.FieldType.int) [(0, 8, 11, 15)] ∈ lw_all := lw_c4 (List.mem_of_getElem? (i := 146) rfl) rfl
theorem m_867 : Jvm.Cond.methodLink "SilkloftLaw" 45 yX9_load ∈ lw_all := lw_c4 (List.mem_of_getElem? (i := 147) rfl) rfl
theorem m_868 : Jvm.Cond.instanceMethod yX9_load ∈ lw_all := lw_c4 (List.mem_of_getElem? (i := 148) rfl) rfl
theorem m_869 : Jvm.Cond.selects "Silkloft" yX9_load yX9_load ∈ lw_all := lw_c4 (List.mem_of_getElem? (i := 149) rfl) rfl
theorem m_870 : Jvm.Cond.code yX9_load prog_1_method_10_code 1 (Option.some Jvm.ClassFile.FieldType.int) ∈ lw_all := lw_c4 (List.mem_of_getElem? (i := 150) rfl) rfl
theorem m_871 : Jvm.Cond.methodLink "SilkloftLaw" 168 yL_board ∈ lw_all := lw_c4 (List.mem_of_getElem? (i := 151) rfl) rfl
theorem m_872 : Jvm.Cond.static yL_board ∈ lw_all := lw_c4 (List.mem_of_getElem? (i := 152) rfl) rfl
theorem m_873 : Jvm.Cond.codeWith yL_board method_12_code 6 (Option.some Jvm.ClassFile.FieldType.int) [(0, 12, 15, 21), (0, 12, 19, 13), (0, 12, 23, 37), (0, 12, 27, 15)] ∈ lw_all := lw_c4 (List.mem_of_getElem? (i := 153) rfl) rfl
theorem m_874 : Jvm.Cond.methodLink "SilkloftLaw" 49 yX9_board ∈ lw_all := lw_c4 (List.mem_of_getElem? (i := 154) rfl) rfl
theorem m_875 : Jvm.Cond.instanceMethod yX9_board ∈ lw_all := lw_c4 (List.mem_of_getElem? (i := 155) rfl) rfl
theorem m_876 : Jvm.Cond.selects "Silkloft" yX9_board yX9_board ∈ lw_all := lw_c4 (List.mem_of_getElem? (i := 156) rfl) rfl
theorem m_877 : Jvm.Cond.code yX9_board prog_1_method_11_code 4 (Option.some Jvm.ClassFile.FieldType.int) ∈ lw_all := lw_c4 (List.mem_of_getElem? (i := 157) rfl) rfl
theorem m_878 : Jvm.Cond.methodLink "SilkloftLaw" 171 yL_leave ∈ lw_all := lw_c4 (List.mem_of_getElem? (i := 158) rfl) rfl
theorem m_879 : Jvm.Cond.static yL_leave ∈ lw_all := lw_c4 (List.mem_of_getElem? (i := 159) rfl) rfl
theorem m_880 : Jvm.Cond.codeWith yL_leave method_13_code 4 (Option.some Jvm.ClassFile.FieldType.int) [(0, 9, 12, 21), (0, 9, 15, 37)] ∈ lw_all := lw_c4 (List.mem_of_getElem? (i := 160) rfl) rfl
theorem m_881 : Jvm.Cond.methodLink "SilkloftLaw" 52 yX9_leave ∈ lw_all := lw_c4 (List.mem_of_getElem? (i := 161) rfl) rfl
theorem m_882 : Jvm.Cond.instanceMethod yX9_leave ∈ lw_all := lw_c4 (List.mem_of_getElem? (i := 162) rfl) rfl
theorem m_883 : Jvm.Cond.selects "Silkloft" yX9_leave yX9_leave ∈ lw_all := lw_c4 (List.mem_of_getElem? (i := 163) rfl) rfl
theorem m_884 : Jvm.Cond.code yX9_leave prog_1_method_12_code 2 (Option.some Jvm.ClassFile.FieldType.int) ∈ lw_all := lw_c4 (List.mem_of_getElem? (i := 164) rfl) rfl
theorem m_885 : Jvm.Cond.methodLink "SilkloftLaw" 174 yL_jump ∈ lw_all := lw_c4 (List.mem_of_getElem? (i := 165) rfl) rfl
theorem m_886 : Jvm.Cond.static yL_jump ∈ lw_all := lw_c4 (List.mem_of_getElem? (i := 166) rfl) rfl
theorem m_887 : Jvm.Cond.codeWith yL_jump method_14_code 5 (Option.some Jvm.ClassFile.FieldType.int) [(0, 10, 13, 21), (0, 10, 17, 37)] ∈ lw_all := lw_c4 (List.mem_of_getElem? (i := 167) rfl) rfl
theorem m_888 : Jvm.Cond.methodLink "SilkloftLaw" 55 yX9_jump ∈ lw_all := lw_c4 (List.mem_of_getElem? (i := 168) rfl) rfl
theorem m_889 : Jvm.Cond.instanceMethod yX9_jump ∈ lw_all := lw_c4 (List.mem_of_getElem? (i := 169) rfl) rfl
theorem m_890 : Jvm.Cond.selects "Silkloft" yX9_jump yX9_jump ∈ lw_all := lw_c4 (List.mem_of_getElem? (i := 170) rfl) rfl
theorem m_891 : Jvm.Cond.code yX9_jump prog_1_method_13_code 3 (Option.some Jvm.ClassFile.FieldType.int) ∈ lw_all := lw_c4 (List.mem_of_getElem? (i := 171) rfl) rfl
theorem m_892 : Jvm.Cond.methodLink "SilkloftLaw" 177 yL_find ∈ lw_all := lw_c4 (List.mem_of_getElem? (i := 172) rfl) rfl
theorem m_893 : Jvm.Cond.static yL_find ∈ lw_all := lw_c4 (List.mem_of_getElem? (i := 173) rfl) rfl
theorem m_894 : Jvm.Cond.codeWith yL_find method_15_code 4 (Option.some Jvm.ClassFile.FieldType.int) [(0, 9, 12, 21), (0, 9, 15, 15)] ∈ lw_all := lw_c4 (List.mem_of_getElem? (i := 174) rfl) rfl
theorem m_895 : Jvm.Cond.methodLink "SilkloftLaw" 58 yX9_find ∈ lw_all := lw_c4 (List.mem_of_getElem? (i := 175) rfl) rfl
theorem m_896 : Jvm.Cond.instanceMethod yX9_find ∈ lw_all := lw_c4 (List.mem_of_getElem? (i := 176) rfl) rfl
theorem m_897 : Jvm.Cond.selects "Silkloft" yX9_find yX9_find ∈ lw_all := lw_c4 (List.mem_of_getElem? (i := 177) rfl) rfl
theorem m_898 : Jvm.Cond.code yX9_find prog_1_method_14_code 2 (Option.some Jvm.ClassFile.FieldType.int) ∈ lw_all := lw_c4 (List.mem_of_getElem? (i := 178) rfl) rfl
theorem m_899 : Jvm.Cond.methodLink "SilkloftLaw" 180 yL_widen ∈ lw_all := lw_c4 (List.mem_of_getElem? (i := 179) rfl) rfl
theorem m_900 : Jvm.Cond.static yL_widen ∈ lw_all := lw_c4 (List.mem_of_getElem? (i := 180) rfl) rfl
theorem m_901 : Jvm.Cond.codeWith yL_widen method_16_code 4 (Option.some Jvm.ClassFile.FieldType.int) [(0, 9, 12, 21), (0, 9, 15, 37)] ∈ lw_all := lw_c4 (List.mem_of_getElem? (i := 181) rfl) rfl
theorem m_902 : Jvm.Cond.methodLink "SilkloftLaw" 61 yX9_widen ∈ lw_all := lw_c4 (List.mem_of_getElem? (i := 182) rfl) rfl
theorem m_903 : Jvm.Cond.instanceMethod yX9_widen ∈ lw_all := lw_c4 (List.mem_of_getElem? (i := 183) rfl) rfl
theorem m_904 : Jvm.Cond.selects "Silkloft" yX9_widen yX9_widen ∈ lw_all := lw_c4 (List.mem_of_getElem? (i := 184) rfl) rfl
theorem m_905 : Jvm.Cond.code yX9_widen prog_1_method_15_code 2 (Option.some Jvm.ClassFile.FieldType.int) ∈ lw_all := lw_c4 (List.mem_of_getElem? (i := 185) rfl) rfl
theorem m_906 : Jvm.Cond.methodLink "SilkloftLaw" 183 yL_tellCause ∈ lw_all := lw_c4 (List.mem_of_getElem? (i := 186) rfl) rfl
theorem m_907 : Jvm.Cond.static yL_tellCause ∈ lw_all := lw_c4 (List.mem_of_getElem? (i := 187) rfl) rfl
theorem m_908 : Jvm.Cond.codeWith yL_tellCause method_17_code 5 (Option.some Jvm.ClassFile.FieldType.int) [(0, 10, 13, 21), (0, 10, 17, 13), (0, 10, 21, 37)] ∈ lw_all := lw_c4 (List.mem_of_getElem? (i := 188) rfl) rfl
theorem m_909 : Jvm.Cond.methodLink "SilkloftLaw" 64 yX9_tellCause ∈ lw_all := lw_c4 (List.mem_of_getElem? (i := 189) rfl) rfl
theorem m_910 : Jvm.Cond.instanceMethod yX9_tellCause ∈ lw_all := lw_c4 (List.mem_of_getElem? (i := 190) rfl) rfl
theorem m_911 : Jvm.Cond.selects "Silkloft" yX9_tellCause yX9_tellCause ∈ lw_all := lw_c4 (List.mem_of_getElem? (i := 191) rfl) rfl
theorem m_912 : Jvm.Cond.code yX9_tellCause prog_1_method_16_code 3 (Option.some Jvm.ClassFile.FieldType.char) ∈ lw_all := lw_c4 (List.mem_of_getElem? (i := 192) rfl) rfl
theorem m_913 : Jvm.Cond.methodLink "SilkloftLaw" 187 yL_close ∈ lw_all := lw_c4 (List.mem_of_getElem? (i := 193) rfl) rfl
theorem m_914 : Jvm.Cond.static yL_close ∈ lw_all := lw_c4 (List.mem_of_getElem? (i := 194) rfl) rfl
theorem m_915 : Jvm.Cond.codeWith yL_close method_18_code 4 (Option.some Jvm.ClassFile.FieldType.int) [(0, 16, 19, 21)] ∈ lw_all := lw_c4 (List.mem_of_getElem? (i := 195) rfl) rfl
theorem m_916 : Jvm.Cond.methodLink "SilkloftLaw" 68 yX9_close ∈ lw_all := lw_c4 (List.mem_of_getElem? (i := 196) rfl) rfl
theorem m_917 : Jvm.Cond.instanceMethod yX9_close ∈ lw_all := lw_c4 (List.mem_of_getElem? (i := 197) rfl) rfl
theorem m_918 : Jvm.Cond.selects "Silkloft" yX9_close yX9_close ∈ lw_all := lw_c4 (List.mem_of_getElem? (i := 198) rfl) rfl
theorem m_919 : Jvm.Cond.code yX9_close prog_1_method_17_code 2 (Option.some Jvm.ClassFile.FieldType.boolean) ∈ lw_all := lw_c4 (List.mem_of_getElem? (i := 199) rfl) rfl
theorem m_920 : Jvm.Cond.methodLink "SilkloftLaw" 190 yL_grounds ∈ lw_all := lw_c4 (List.mem_of_getElem? (i := 200) rfl) rfl
theorem m_921 : Jvm.Cond.static yL_grounds ∈ lw_all := lw_c4 (List.mem_of_getElem? (i := 201) rfl) rfl
theorem m_922 : Jvm.Cond.codeWith yL_grounds method_19_code 4 (Option.some Jvm.ClassFile.FieldType.int) [(0, 9, 12, 21)] ∈ lw_all := lw_c4 (List.mem_of_getElem? (i := 202) rfl) rfl
theorem m_923 : Jvm.Cond.methodLink "SilkloftLaw" 72 yX9_grounds ∈ lw_all := lw_c4 (List.mem_of_getElem? (i := 203) rfl) rfl
theorem m_924 : Jvm.Cond.instanceMethod yX9_grounds ∈ lw_all := lw_c4 (List.mem_of_getElem? (i := 204) rfl) rfl
theorem m_925 : Jvm.Cond.selects "Silkloft" yX9_grounds yX9_grounds ∈ lw_all := lw_c4 (List.mem_of_getElem? (i := 205) rfl) rfl
theorem m_926 : Jvm.Cond.code yX9_grounds prog_1_method_18_code 2 (Option.some Jvm.ClassFile.FieldType.int) ∈ lw_all := lw_c4 (List.mem_of_getElem? (i := 206) rfl) rfl
theorem m_927 : Jvm.Cond.methodLink "Silkloft" 30 yX5_hasFinding ∈ lw_all := lw_c4 (List.mem_of_getElem? (i := 207) rfl) rfl
theorem m_929 : Jvm.Cond.methodLink "Silkloft" 41 yX5_countGroundedBy ∈ lw_all := lw_c4 (List.mem_of_getElem? (i := 209) rfl) rfl
theorem m_930 : Jvm.Cond.instanceMethod yX5_countGroundedBy ∈ lw_all := lw_c4 (List.mem_of_getElem? (i := 210) rfl) rfl
theorem m_931 : Jvm.Cond.selects "Silkloft$Loft" yX5_countGroundedBy yX5_countGroundedBy ∈ lw_all := lw_c4 (List.mem_of_getElem? (i := 211) rfl) rfl
theorem m_932 : Jvm.Cond.code yX5_countGroundedBy prog_7_method_35_code 4 (Option.some Jvm.ClassFile.FieldType.int) ∈ lw_all := lw_c4 (List.mem_of_getElem? (i := 212) rfl) rfl
theorem m_933 : Jvm.Cond.methodLink "SilkloftLaw" 193 yL_repair ∈ lw_all := lw_c4 (List.mem_of_getElem? (i := 213) rfl) rfl
theorem m_934 : Jvm.Cond.static yL_repair ∈ lw_all := lw_c4 (List.mem_of_getElem? (i := 214) rfl) rfl
theorem m_935 : Jvm.Cond.codeWith yL_repair method_20_code 5 (Option.some Jvm.ClassFile.FieldType.int) [(0, 10, 13, 21), (0, 10, 17, 37), (0, 10, 21, 13)] ∈ lw_all := lw_c4 (List.mem_of_getElem? (i := 215) rfl) rfl
theorem m_936 : Jvm.Cond.methodLink "SilkloftLaw" 75 yX9_repair ∈ lw_all := lw_c4 (List.mem_of_getElem? (i := 216) rfl) rfl
theorem m_937 : Jvm.Cond.instanceMethod yX9_repair ∈ lw_all := lw_c4 (List.mem_of_getElem? (i := 217) rfl) rfl
theorem m_938 : Jvm.Cond.selects "Silkloft" yX9_repair yX9_repair ∈ lw_all := lw_c4 (List.mem_of_getElem? (i := 218) rfl) rfl
theorem m_939 : Jvm.Cond.code yX9_repair prog_1_method_19_code 3 (Option.some Jvm.ClassFile.FieldType.int) ∈ lw_all := lw_c4 (List.mem_of_getElem? (i := 219) rfl) rfl
theorem m_940 : Jvm.Cond.methodLink "SilkloftLaw" 196 yL_drop ∈ lw_all := lw_c4 (List.mem_of_getElem? (i := 220) rfl) rfl
theorem m_941 : Jvm.Cond.static yL_drop ∈ lw_all := lw_c4 (List.mem_of_getElem? (i := 221) rfl) rfl
theorem m_942 : Jvm.Cond.codeWith yL_drop method_21_code 5 (Option.some Jvm.ClassFile.FieldType.int) [(0, 10, 13, 21), (0, 10, 17, 37)] ∈ lw_all := lw_c4 (List.mem_of_getElem? (i := 222) rfl) rfl
theorem m_943 : Jvm.Cond.methodLink "SilkloftLaw" 78 yX9_drop ∈ lw_all := lw_c4 (List.mem_of_getElem? (i := 223) rfl) rfl
theorem m_944 : Jvm.Cond.instanceMethod yX9_drop ∈ lw_all := lw_c4 (List.mem_of_getElem? (i := 224) rfl) rfl
theorem m_945 : Jvm.Cond.selects "Silkloft" yX9_drop yX9_drop ∈ lw_all := lw_c4 (List.mem_of_getElem? (i := 225) rfl) rfl
theorem m_946 : Jvm.Cond.code yX9_drop prog_1_method_20_code 3 (Option.some Jvm.ClassFile.FieldType.int) ∈ lw_all := lw_c4 (List.mem_of_getElem? (i := 226) rfl) rfl
theorem m_947 : Jvm.Cond.methodLink "SilkloftLaw" 200 yL_hire ∈ lw_all := lw_c4 (List.mem_of_getElem? (i := 227) rfl) rfl
theorem m_948 : Jvm.Cond.static yL_hire ∈ lw_all := lw_c4 (List.mem_of_getElem? (i := 228) rfl) rfl
theorem m_949 : Jvm.Cond.codeWith yL_hire method_22_code 6 (Option.some Jvm.ClassFile.FieldType.int) [(0, 12, 15, 21), (0, 12, 19, 13), (0, 12, 23, 37)] ∈ lw_all := lw_c4 (List.mem_of_getElem? (i := 229) rfl) rfl
theorem m_950 : Jvm.Cond.methodLink "SilkloftLaw" 82 yX9_hire ∈ lw_all := lw_c4 (List.mem_of_getElem? (i := 230) rfl) rfl
theorem m_951 : Jvm.Cond.instanceMethod yX9_hire ∈ lw_all := lw_c4 (List.mem_of_getElem? (i := 231) rfl) rfl
theorem m_952 : Jvm.Cond.selects "Silkloft" yX9_hire yX9_hire ∈ lw_all := lw_c4 (List.mem_of_getElem? (i := 232) rfl) rfl
theorem m_953 : Jvm.Cond.code yX9_hire prog_1_method_21_code 4 (Option.some Jvm.ClassFile.FieldType.int) ∈ lw_all := lw_c4 (List.mem_of_getElem? (i := 233) rfl) rfl
theorem m_954 : Jvm.Cond.methodLink "SilkloftLaw" 203 yL_back ∈ lw_all := lw_c4 (List.mem_of_getElem? (i := 234) rfl) rfl
theorem m_955 : Jvm.Cond.static yL_back ∈ lw_all := lw_c4 (List.mem_of_getElem? (i := 235) rfl) rfl
theorem m_956 : Jvm.Cond.codeWith yL_back method_23_code 6 (Option.some Jvm.ClassFile.FieldType.int) [(0, 12, 15, 21), (0, 12, 19, 37)] ∈ lw_all := lw_c4 (List.mem_of_getElem? (i := 236) rfl) rfl
theorem m_957 : Jvm.Cond.methodLink "SilkloftLaw" 85 yX9_back ∈ lw_all := lw_c4 (List.mem_of_getElem? (i := 237) rfl) rfl
theorem m_958 : Jvm.Cond.instanceMethod yX9_back ∈ lw_all := lw_c4 (List.mem_of_getElem? (i := 238) rfl) rfl
theorem m_959 : Jvm.Cond.selects "Silkloft" yX9_back yX9_back ∈ lw_all := lw_c4 (List.mem_of_getElem? (i := 239) rfl) rfl
theorem m_960 : Jvm.Cond.code yX9_back prog_1_method_22_code 4 (Option.some Jvm.ClassFile.FieldType.int) ∈ lw_all := lw_c5 (List.mem_of_getElem? (i := 0) rfl) rfl
theorem m_961 : Jvm.Cond.methodLink "SilkloftLaw" 207 yL_stateOf ∈ lw_all := lw_c5 (List.mem_of_getElem? (i := 1) rfl) rfl
theorem m_962 : Jvm.Cond.static yL_stateOf ∈ lw_all := lw_c5 (List.mem_of_getElem? (i := 2) rfl) rfl
theorem m_963 : Jvm.Cond.codeWith yL_stateOf method_24_code 4 (Option.some Jvm.ClassFile.FieldType.int) [(0, 9, 12, 21)] ∈ lw_all := lw_c5 (List.mem_of_getElem? (i := 3) rfl) rfl
theorem m_964 : Jvm.Cond.methodLink "SilkloftLaw" 89 yX9_stateOf ∈ lw_all := lw_c5 (List.mem_of_getElem? (i := 4) rfl) rfl
theorem m_965 : Jvm.Cond.instanceMethod yX9_stateOf ∈ lw_all := lw_c5 (List.mem_of_getElem? (i := 5) rfl) rfl
theorem m_966 : Jvm.Cond.selects "Silkloft" yX9_stateOf yX9_stateOf ∈ lw_all := lw_c5 (List.mem_of_getElem? (i := 6) rfl) rfl
theorem m_967 : Jvm.Cond.code yX9_stateOf prog_1_method_23_code 2 (Option.some Jvm.ClassFile.FieldType.char) ∈ lw_all := lw_c5 (List.mem_of_getElem? (i := 7) rfl) rfl
theorem m_968 : Jvm.Cond.methodLink "Silkloft" 45 yX9_canopyAt ∈ lw_all := lw_c5 (List.mem_of_getElem? (i := 8) rfl) rfl
theorem m_970 : Jvm.Cond.instanceMethod yX9_canopyAt ∈ lw_all := lw_c5 (List.mem_of_getElem? (i := 10) rfl) rfl
theorem m_971 : Jvm.Cond.code yX9_canopyAt prog_1_method_36_code 2 (Option.some (Jvm.ClassFile.FieldType.object "Silkloft$Canopy")) ∈ lw_all := lw_c5 (List.mem_of_getElem? (i := 11) rfl) rfl
theorem m_972 : Jvm.Cond.methodLink "Silkloft" 134 yX5_hasCanopy ∈ lw_all := lw_c5 (List.mem_of_getElem? (i := 12) rfl) rfl
theorem m_974 : Jvm.Cond.methodLink "SilkloftLaw" 210 yL_isGrounded ∈ lw_all := lw_c5 (List.mem_of_getElem? (i := 14) rfl) rfl
theorem m_975 : Jvm.Cond.static yL_isGrounded ∈ lw_all := lw_c5 (List.mem_of_getElem? (i := 15) rfl) rfl
theorem m_976 : Jvm.Cond.codeWith yL_isGrounded method_25_code 4 (Option.some Jvm.ClassFile.FieldType.int) [(0, 16, 19, 21)] ∈ lw_all := lw_c5 (List.mem_of_getElem? (i := 16) rfl) rfl
theorem m_977 : Jvm.Cond.methodLink "SilkloftLaw" 93 yX9_isGrounded ∈ lw_all := lw_c5 (List.mem_of_getElem? (i := 17) rfl) rfl
theorem m_978 : Jvm.Cond.instanceMethod yX9_isGrounded ∈ lw_all := lw_c5 (List.mem_of_getElem? (i := 18) rfl) rfl
theorem m_979 : Jvm.Cond.selects "Silkloft" yX9_isGrounded yX9_isGrounded ∈ lw_all := lw_c5 (List.mem_of_getElem? (i := 19) rfl) rfl
theorem m_980 : Jvm.Cond.code yX9_isGrounded prog_1_method_24_code 2 (Option.some Jvm.ClassFile.FieldType.boolean) ∈ lw_all := lw_c5 (List.mem_of_getElem? (i := 20) rfl) rfl
theorem m_981 : Jvm.Cond.methodLink "Silkloft" 55 yX5_isOnGround ∈ lw_all := lw_c5 (List.mem_of_getElem? (i := 21) rfl) rfl
theorem m_982 : Jvm.Cond.methodLink "SilkloftLaw" 213 yL_isOut ∈ lw_all := lw_c5 (List.mem_of_getElem? (i := 22) rfl) rfl
theorem m_983 : Jvm.Cond.static yL_isOut ∈ lw_all := lw_c5 (List.mem_of_getElem? (i := 23) rfl) rfl
theorem m_984 : Jvm.Cond.codeWith yL_isOut method_26_code 4 (Option.some Jvm.ClassFile.FieldType.int) [(0, 16, 19, 21)] ∈ lw_all := lw_c5 (List.mem_of_getElem? (i := 24) rfl) rfl
theorem m_985 : Jvm.Cond.methodLink "SilkloftLaw" 96 yX9_isOut ∈ lw_all := lw_c5 (List.mem_of_getElem? (i := 25) rfl) rfl
theorem m_986 : Jvm.Cond.instanceMethod yX9_isOut ∈ lw_all := lw_c5 (List.mem_of_getElem? (i := 26) rfl) rfl
theorem m_987 : Jvm.Cond.selects "Silkloft" yX9_isOut yX9_isOut ∈ lw_all := lw_c5 (List.mem_of_getElem? (i := 27) rfl) rfl
theorem m_988 : Jvm.Cond.code yX9_isOut prog_1_method_25_code 2 (Option.some Jvm.ClassFile.FieldType.boolean) ∈ lw_all := lw_c5 (List.mem_of_getElem? (i := 28) rfl) rfl
theorem m_989 : Jvm.Cond.methodLink "Silkloft" 58 yX5_isTooOld ∈ lw_all := lw_c5 (List.mem_of_getElem? (i := 29) rfl) rfl
theorem m_990 : Jvm.Cond.methodLink "SilkloftLaw" 216 yL_packings ∈ lw_all := lw_c5 (List.mem_of_getElem? (i := 30) rfl) rfl
theorem m_991 : Jvm.Cond.static yL_packings ∈ lw_all := lw_c5 (List.mem_of_getElem? (i := 31) rfl) rfl
theorem m_992 : Jvm.Cond.codeWith yL_packings method_27_code 4 (Option.some Jvm.ClassFile.FieldType.int) [(0, 9, 12, 21)] ∈ lw_all := lw_c5 (List.mem_of_getElem? (i := 32) rfl) rfl
theorem m_993 : Jvm.Cond.methodLink "SilkloftLaw" 99 yX9_packings ∈ lw_all := lw_c5 (List.mem_of_getElem? (i := 33) rfl) rfl
theorem m_994 : Jvm.Cond.instanceMethod yX9_packings ∈ lw_all := lw_c5 (List.mem_of_getElem? (i := 34) rfl) rfl
theorem m_995 : Jvm.Cond.selects "Silkloft" yX9_packings yX9_packings ∈ lw_all := lw_c5 (List.mem_of_getElem? (i := 35) rfl) rfl
theorem m_996 : Jvm.Cond.code yX9_packings prog_1_method_26_code 2 (Option.some Jvm.ClassFile.FieldType.int) ∈ lw_all := lw_c5 (List.mem_of_getElem? (i := 36) rfl) rfl
theorem m_997 : Jvm.Cond.methodLink "SilkloftLaw" 219 yL_packingOf ∈ lw_all := lw_c5 (List.mem_of_getElem? (i := 37) rfl) rfl
theorem m_998 : Jvm.Cond.static yL_packingOf ∈ lw_all := lw_c5 (List.mem_of_getElem? (i := 38) rfl) rfl
theorem m_999 : Jvm.Cond.codeWith yL_packingOf method_28_code 6 (Option.some Jvm.ClassFile.FieldType.int) [(0, 12, 15, 21), (0, 12, 19, 13)] ∈ lw_all := lw_c5 (List.mem_of_getElem? (i := 39) rfl) rfl
theorem m_1000 : Jvm.Cond.methodLink "SilkloftLaw" 102 yX9_packingOf ∈ lw_all := lw_c5 (List.mem_of_getElem? (i := 40) rfl) rfl
theorem m_1001 : Jvm.Cond.instanceMethod yX9_packingOf ∈ lw_all := lw_c5 (List.mem_of_getElem? (i := 41) rfl) rfl
theorem m_1002 : Jvm.Cond.selects "Silkloft" yX9_packingOf yX9_packingOf ∈ lw_all := lw_c5 (List.mem_of_getElem? (i := 42) rfl) rfl
theorem m_1003 : Jvm.Cond.code yX9_packingOf prog_1_method_27_code 5 (Option.some Jvm.ClassFile.FieldType.int) ∈ lw_all := lw_c5 (List.mem_of_getElem? (i := 43) rfl) rfl
theorem m_1006 : Jvm.Cond.methodLink "Silkloft" 77 yX0_lookUp ∈ lw_all := lw_c5 (List.mem_of_getElem? (i := 46) rfl) rfl
theorem m_1007 : Jvm.Cond.instanceMethod yX0_lookUp ∈ lw_all := lw_c5 (List.mem_of_getElem? (i := 47) rfl) rfl
theorem m_1008 : Jvm.Cond.selects "Silkloft$Book" yX0_lookUp yX0_lookUp ∈ lw_all := lw_c5 (List.mem_of_getElem? (i := 48) rfl) rfl
theorem m_1009 : Jvm.Cond.code yX0_lookUp prog_2_method_5_code 6 (Option.some Jvm.ClassFile.FieldType.int) ∈ lw_all := lw_c5 (List.mem_of_getElem? (i := 49) rfl) rfl
theorem m_1010 : Jvm.Cond.methodLink "Silkloft$Book" 28 yX0_numberOf ∈ lw_all := lw_c5 (List.mem_of_getElem? (i := 50) rfl) rfl
theorem m_1012 : Jvm.Cond.instanceMethod yX0_numberOf ∈ lw_all := lw_c5 (List.mem_of_getElem? (i := 52) rfl) rfl
theorem m_1013 : Jvm.Cond.code yX0_numberOf prog_2_method_6_code 5 (Option.some Jvm.ClassFile.FieldType.int) ∈ lw_all := lw_c5 (List.mem_of_getElem? (i := 53) rfl) rfl
theorem m_1014 : Jvm.Cond.methodLink "Silkloft$Book" 32 yX0_has ∈ lw_all := lw_c5 (List.mem_of_getElem? (i := 54) rfl) rfl
theorem m_1015 : Jvm.Cond.methodLink "SilkloftLaw" 223 yL_jumps ∈ lw_all := lw_c5 (List.mem_of_getElem? (i := 55) rfl) rfl
theorem m_1016 : Jvm.Cond.static yL_jumps ∈ lw_all := lw_c5 (List.mem_of_getElem? (i := 56) rfl) rfl
theorem m_1017 : Jvm.Cond.codeWith yL_jumps method_29_code 4 (Option.some Jvm.ClassFile.FieldType.int) [(0, 9, 12, 21)] ∈ lw_all := lw_c5 (List.mem_of_getElem? (i := 57) rfl) rfl
theorem m_1018 : Jvm.Cond.methodLink "SilkloftLaw" 106 yX9_jumps ∈ lw_all := lw_c5 (List.mem_of_getElem? (i := 58) rfl) rfl
theorem m_1019 : Jvm.Cond.instanceMethod yX9_jumps ∈ lw_all := lw_c5 (List.mem_of_getElem? (i := 59) rfl) rfl
theorem m_1020 : Jvm.Cond.selects "Silkloft" yX9_jumps yX9_jumps ∈ lw_all := lw_c5 (List.mem_of_getElem? (i := 60) rfl) rfl
theorem m_1021 : Jvm.Cond.code yX9_jumps prog_1_method_28_code 2 (Option.some Jvm.ClassFile.FieldType.int) ∈ lw_all := lw_c5 (List.mem_of_getElem? (i := 61) rfl) rfl
theorem m_1022 : Jvm.Cond.methodLink "SilkloftLaw" 226 yL_sharers ∈ lw_all := lw_c5 (List.mem_of_getElem? (i := 62) rfl) rfl
theorem m_1023 : Jvm.Cond.static yL_sharers ∈ lw_all := lw_c5 (List.mem_of_getElem? (i := 63) rfl) rfl
theorem m_1024 : Jvm.Cond.codeWith yL_sharers method_30_code 4 (Option.some Jvm.ClassFile.FieldType.int) [(0, 9, 12, 21)] ∈ lw_all := lw_c5 (List.mem_of_getElem? (i := 64) rfl) rfl
theorem m_1025 : Jvm.Cond.methodLink "SilkloftLaw" 109 yX9_sharers ∈ lw_all := lw_c5 (List.mem_of_getElem? (i := 65) rfl) rfl
theorem m_1026 : Jvm.Cond.instanceMethod yX9_sharers ∈ lw_all := lw_c5 (List.mem_of_getElem? (i := 66) rfl) rfl
theorem m_1027 : Jvm.Cond.selects "Silkloft" yX9_sharers yX9_sharers ∈ lw_all := lw_c5 (List.mem_of_getElem? (i := 67) rfl) rfl
theorem m_1028 : Jvm.Cond.code yX9_sharers prog_1_method_29_code 2 (Option.some Jvm.ClassFile.FieldType.int) ∈ lw_all := lw_c5 (List.mem_of_getElem? (i := 68) rfl) rfl
theorem m_1029 : Jvm.Cond.methodLink "Silkloft" 86 yX5_countSharers ∈ lw_all := lw_c5 (List.mem_of_getElem? (i := 69) rfl) rfl
theorem m_1030 : Jvm.Cond.instanceMethod yX5_countSharers ∈ lw_all := lw_c5 (List.mem_of_getElem? (i := 70) rfl) rfl
theorem m_1031 : Jvm.Cond.selects "Silkloft$Loft" yX5_countSharers yX5_countSharers ∈ lw_all := lw_c5 (List.mem_of_getElem? (i := 71) rfl) rfl
theorem m_1032 : Jvm.Cond.code yX5_countSharers prog_7_method_38_code 4 (Option.some Jvm.ClassFile.FieldType.int) ∈ lw_all := lw_c5 (List.mem_of_getElem? (i := 72) rfl) rfl
theorem m_1033 : Jvm.Cond.methodLink "SilkloftLaw" 229 yL_next ∈ lw_all := lw_c5 (List.mem_of_getElem? (i := 73) rfl) rfl
theorem m_1034 : Jvm.Cond.static yL_next ∈ lw_all := lw_c5 (List.mem_of_getElem? (i := 74) rfl) rfl
theorem m_1035 : Jvm.Cond.codeWith yL_next method_31_code 3 (Option.some Jvm.ClassFile.FieldType.int) [(0, 8, 11, 115)] ∈ lw_all := lw_c5 (List.mem_of_getElem? (i := 75) rfl) rfl
theorem m_1036 : Jvm.Cond.classLink "SilkloftLaw" 115 "java/util/NoSuchElementException" ∈ lw_all := lw_c5 (List.mem_of_getElem? (i := 76) rfl) rfl
theorem m_1037 : Jvm.Cond.methodLink "SilkloftLaw" 112 yX9_next ∈ lw_all := lw_c5 (List.mem_of_getElem? (i := 77) rfl) rfl
theorem m_1038 : Jvm.Cond.instanceMethod yX9_next ∈ lw_all := lw_c5 (List.mem_of_getElem? (i := 78) rfl) rfl
theorem m_1039 : Jvm.Cond.selects "Silkloft" yX9_next yX9_next ∈ lw_all := lw_c5 (List.mem_of_getElem? (i := 79) rfl) rfl
theorem m_1040 : Jvm.Cond.code yX9_next prog_1_method_30_code 2 (Option.some Jvm.ClassFile.FieldType.int) ∈ lw_all := lw_c5 (List.mem_of_getElem? (i := 80) rfl) rfl
theorem m_1041 : Jvm.Cond.methodLink "Silkloft" 89 yX5_firstReserveToRepack ∈ lw_all := lw_c5 (List.mem_of_getElem? (i := 81) rfl) rfl
theorem m_1042 : Jvm.Cond.instanceMethod yX5_firstReserveToRepack ∈ lw_all := lw_c5 (List.mem_of_getElem? (i := 82) rfl) rfl
theorem m_1043 : Jvm.Cond.selects "Silkloft$Loft" yX5_firstReserveToRepack yX5_firstReserveToRepack ∈ lw_all := lw_c5 (List.mem_of_getElem? (i := 83) rfl) rfl
theorem m_1044 : Jvm.Cond.code yX5_firstReserveToRepack prog_7_method_39_code 6 (Option.some Jvm.ClassFile.FieldType.int) ∈ lw_all := lw_c5 (List.mem_of_getElem? (i := 84) rfl) rfl
theorem m_1045 : Jvm.Cond.classLink "Silkloft" 93 "java/util/NoSuchElementException" ∈ lw_all := lw_c5 (List.mem_of_getElem? (i := 85) rfl) rfl
theorem m_1046 : Jvm.Cond.instantiable "java/util/NoSuchElementException" 6 ∈ lw_all := lw_c5 (List.mem_of_getElem? (i := 86) rfl) rfl
theorem m_1048 : Jvm.Cond.selects "java/util/NoSuchElementException" ⟨"java/lang/Throwable", "fillInStackTrace", "(I)Ljava/lang/Throwable;"⟩ ⟨"java/lang/Throwable", "fillInStackTrace", "(I)Ljava/lang/Throwable;"⟩ ∈ lw_all := lw_c5 (List.mem_of_getElem? (i := 88) rfl) rfl
theorem m_1049 : Jvm.Cond.lays "java/util/NoSuchElementException" "java/lang/Throwable" "cause" "Ljava/lang/Throwable;" ∈ lw_all := lw_c5 (List.mem_of_getElem? (i := 89) rfl) rfl
theorem m_1050 : Jvm.Cond.lays "java/util/NoSuchElementException" "java/lang/Throwable" "stackTrace" "[Ljava/lang/StackTraceElement;" ∈ lw_all := lw_c5 (List.mem_of_getElem? (i := 90) rfl) rfl
theorem m_1051 : Jvm.Cond.lays "java/util/NoSuchElementException" "java/lang/Throwable" "suppressedExceptions" "Ljava/util/List;" ∈ lw_all := lw_c5 (List.mem_of_getElem? (i := 91) rfl) rfl
theorem m_1052 : Jvm.Cond.lays "java/util/NoSuchElementException" "java/lang/Throwable" "detailMessage" "Ljava/lang/String;" ∈ lw_all := lw_c5 (List.mem_of_getElem? (i := 92) rfl) rfl
theorem m_1053 : Jvm.Cond.lays "java/util/NoSuchElementException" "java/lang/Throwable" "backtrace" "Ljava/lang/Object;" ∈ lw_all := lw_c5 (List.mem_of_getElem? (i := 93) rfl) rfl
theorem m_1055 : Jvm.Cond.methodLink "Silkloft" 97 ⟨"java/util/NoSuchElementException", "<init>", "(Ljava/lang/String;)V"⟩ ∈ lw_all := lw_c5 (List.mem_of_getElem? (i := 95) rfl) rfl
theorem m_1056 : Jvm.Cond.instanceMethod ⟨"java/util/NoSuchElementException", "<init>", "(Ljava/lang/String;)V"⟩ ∈ lw_all := lw_c5 (List.mem_of_getElem? (i := 96) rfl) rfl
theorem m_1057 : Jvm.Cond.code ⟨"java/util/NoSuchElementException", "<init>", "(Ljava/lang/String;)V"⟩ prog_26_method_4_code 2 (Option.none : Option Jvm.ClassFile.FieldType) ∈ lw_all := lw_c5 (List.mem_of_getElem? (i := 97) rfl) rfl
theorem m_1058 : Jvm.Cond.methodLink "java/util/NoSuchElementException" 13 ⟨"java/lang/RuntimeException", "<init>", "(Ljava/lang/String;)V"⟩ ∈ lw_all := lw_c5 (List.mem_of_getElem? (i := 98) rfl) rfl
theorem m_1059 : Jvm.Cond.lays "java/util/NoSuchElementException" "java/lang/Throwable" "depth" "I" ∈ lw_all := lw_c5 (List.mem_of_getElem? (i := 99) rfl) rfl
theorem m_1061 : Jvm.Cond.methodLink "SilkloftLaw" 241 yL_groundedShare ∈ lw_all := lw_c5 (List.mem_of_getElem? (i := 101) rfl) rfl
theorem m_1062 : Jvm.Cond.static yL_groundedShare ∈ lw_all := lw_c5 (List.mem_of_getElem? (i := 102) rfl) rfl
theorem m_1063 : Jvm.Cond.codeWith yL_groundedShare method_32_code 3 (Option.some Jvm.ClassFile.FieldType.int) [(0, 8, 11, 121)] ∈ lw_all := lw_c5 (List.mem_of_getElem? (i := 103) rfl) rfl
theorem m_1064 : Jvm.Cond.classLink "SilkloftLaw" 121 "java/lang/ArithmeticException" ∈ lw_all := lw_c5 (List.mem_of_getElem? (i := 104) rfl) rfl
theorem m_1065 : Jvm.Cond.instantiable "java/lang/ArithmeticException" 6 ∈ lw_all := lw_c5 (List.mem_of_getElem? (i := 105) rfl) rfl
theorem m_1066 : Jvm.Cond.instanceMethod ⟨"java/lang/ArithmeticException", "<init>", "(Ljava/lang/String;)V"⟩ ∈ lw_all := lw_c5 (List.mem_of_getElem? (i := 106) rfl) rfl
theorem m_1067 : Jvm.Cond.code ⟨"java/lang/ArithmeticException", "<init>", "(Ljava/lang/String;)V"⟩ prog_14_method_2_code 2 (Option.none : Option Jvm.ClassFile.FieldType) ∈ lw_all := lw_c5 (List.mem_of_getElem? (i := 107) rfl) rfl
theorem m_1068 : Jvm.Cond.methodLink "java/lang/ArithmeticException" 7 ⟨"java/lang/RuntimeException", "<init>", "(Ljava/lang/String;)V"⟩ ∈ lw_all := lw_c5 (List.mem_of_getElem? (i := 108) rfl) rfl
theorem m_1069 : Jvm.Cond.lays "java/lang/ArithmeticException" "java/lang/Throwable" "backtrace" "Ljava/lang/Object;" ∈ lw_all := lw_c5 (List.mem_of_getElem? (i := 109) rfl) rfl
theorem m_1070 : Jvm.Cond.lays "java/lang/ArithmeticException" "java/lang/Throwable" "detailMessage" "Ljava/lang/String;" ∈ lw_all := lw_c5 (List.mem_of_getElem? (i := 110) rfl) rfl
theorem m_1071 : Jvm.Cond.lays "java/lang/ArithmeticException" "java/lang/Throwable" "cause" "Ljava/lang/Throwable;" ∈ lw_all := lw_c5 (List.mem_of_getElem? (i := 111) rfl) rfl
theorem m_1072 : Jvm.Cond.lays "java/lang/ArithmeticException" "java/lang/Throwable" "stackTrace" "[Ljava/lang/StackTraceElement;" ∈ lw_all := lw_c5 (List.mem_of_getElem? (i := 112) rfl) rfl
theorem m_1073 : Jvm.Cond.lays "java/lang/ArithmeticException" "java/lang/Throwable" "depth" "I" ∈ lw_all := lw_c5 (List.mem_of_getElem? (i := 113) rfl) rfl
theorem m_1074 : Jvm.Cond.lays "java/lang/ArithmeticException" "java/lang/Throwable" "suppressedExceptions" "Ljava/util/List;" ∈ lw_all := lw_c5 (List.mem_of_getElem? (i := 114) rfl) rfl
theorem m_1077 : Jvm.Cond.selects "java/lang/ArithmeticException" ⟨"java/lang/Throwable", "fillInStackTrace", "(I)Ljava/lang/Throwable;"⟩ ⟨"java/lang/Throwable", "fillInStackTrace", "(I)Ljava/lang/Throwable;"⟩ ∈ lw_all := lw_c5 (List.mem_of_getElem? (i := 117) rfl) rfl
theorem m_1078 : Jvm.Cond.methodLink "SilkloftLaw" 117 yX9_groundedShare ∈ lw_all := lw_c5 (List.mem_of_getElem? (i := 118) rfl) rfl
theorem m_1079 : Jvm.Cond.instanceMethod yX9_groundedShare ∈ lw_all := lw_c5 (List.mem_of_getElem? (i := 119) rfl) rfl
theorem m_1080 : Jvm.Cond.selects "Silkloft" yX9_groundedShare yX9_groundedShare ∈ lw_all := lw_c5 (List.mem_of_getElem? (i := 120) rfl) rfl
theorem m_1081 : Jvm.Cond.code yX9_groundedShare prog_1_method_33_code 2 (Option.some Jvm.ClassFile.FieldType.float) ∈ lw_all := lw_c5 (List.mem_of_getElem? (i := 121) rfl) rfl
theorem m_1082 : Jvm.Cond.classLink "Silkloft" 109 "java/lang/ArithmeticException" ∈ lw_all := lw_c5 (List.mem_of_getElem? (i := 122) rfl) rfl
theorem m_1084 : Jvm.Cond.methodLink "Silkloft" 113 ⟨"java/lang/ArithmeticException", "<init>", "(Ljava/lang/String;)V"⟩ ∈ lw_all := lw_c5 (List.mem_of_getElem? (i := 124) rfl) rfl
theorem m_1085 : Jvm.Cond.methodLink "Silkloft" 114 yX5_countGrounded ∈ lw_all := lw_c5 (List.mem_of_getElem? (i := 125) rfl) rfl
theorem m_1086 : Jvm.Cond.instanceMethod yX5_countGrounded ∈ lw_all := lw_c5 (List.mem_of_getElem? (i := 126) rfl) rfl
theorem m_1087 : Jvm.Cond.selects "Silkloft$Loft" yX5_countGrounded yX5_countGrounded ∈ lw_all := lw_c5 (List.mem_of_getElem? (i := 127) rfl) rfl
theorem m_1088 : Jvm.Cond.code yX5_countGrounded prog_7_method_41_code 3 (Option.some Jvm.ClassFile.FieldType.int) ∈ lw_all := lw_c5 (List.mem_of_getElem? (i := 128) rfl) rfl
theorem m_1089 : Jvm.Cond.methodLink "SilkloftLaw" 245 yL_meanDrops ∈ lw_all := lw_c5 (List.mem_of_getElem? (i := 129) rfl) rfl
theorem m_1090 : Jvm.Cond.static yL_meanDrops ∈ lw_all := lw_c5 (List.mem_of_getElem? (i := 130) rfl) rfl
theorem m_1091 : Jvm.Cond.codeWith yL_meanDrops method_33_code 3 (Option.some Jvm.ClassFile.FieldType.int) [(0, 7, 10, 121)] ∈ lw_all := lw_c5 (List.mem_of_getElem? (i := 131) rfl) rfl
theorem m_1092 : Jvm.Cond.methodLink "SilkloftLaw" 123 yX9_meanDrops ∈ lw_all := lw_c5 (List.mem_of_getElem? (i := 132) rfl) rfl
theorem m_1093 : Jvm.Cond.instanceMethod yX9_meanDrops ∈ lw_all := lw_c5 (List.mem_of_getElem? (i := 133) rfl) rfl
theorem m_1094 : Jvm.Cond.selects "Silkloft" yX9_meanDrops yX9_meanDrops ∈ lw_all := lw_c5 (List.mem_of_getElem? (i := 134) rfl) rfl
theorem m_1095 : Jvm.Cond.code yX9_meanDrops prog_1_method_34_code 2 (Option.some Jvm.ClassFile.FieldType.double) ∈ lw_all := lw_c5 (List.mem_of_getElem? (i := 135) rfl) rfl
theorem m_1096 : Jvm.Cond.methodLink "Silkloft" 117 yX5_sumOfGoodDrops ∈ lw_all := lw_c5 (List.mem_of_getElem? (i := 136) rfl) rfl
theorem m_1097 : Jvm.Cond.instanceMethod yX5_sumOfGoodDrops ∈ lw_all := lw_c5 (List.mem_of_getElem? (i := 137) rfl) rfl
theorem m_1098 : Jvm.Cond.selects "Silkloft$Loft" yX5_sumOfGoodDrops yX5_sumOfGoodDrops ∈ lw_all := lw_c5 (List.mem_of_getElem? (i := 138) rfl) rfl
theorem m_1099 : Jvm.Cond.code yX5_sumOfGoodDrops prog_7_method_42_code 3 (Option.some Jvm.ClassFile.FieldType.int) ∈ lw_all := lw_c5 (List.mem_of_getElem? (i := 139) rfl) rfl
theorem m_1100 : Jvm.Cond.classLink "SilkloftLaw" 128 "SilkloftModel" ∈ lw_all := lw_c5 (List.mem_of_getElem? (i := 140) rfl) rfl
theorem m_1101 : Jvm.Cond.instantiable "SilkloftModel" 48 ∈ lw_all := lw_c5 (List.mem_of_getElem? (i := 141) rfl) rfl
theorem m_1102 : Jvm.Cond.methodLink "SilkloftLaw" 130 yX10_init ∈ lw_all := lw_c5 (List.mem_of_getElem? (i := 142) rfl) rfl
theorem m_1103 : Jvm.Cond.instanceMethod yX10_init ∈ lw_all := lw_c5 (List.mem_of_getElem? (i := 143) rfl) rfl
theorem m_1104 : Jvm.Cond.code yX10_init prog_12_method_1_code 1 (Option.none : Option Jvm.ClassFile.FieldType) ∈ lw_all := lw_c5 (List.mem_of_getElem? (i := 144) rfl) rfl
theorem m_1105 : Jvm.Cond.methodLink "SilkloftModel" 1 ⟨"java/lang/Object", "<init>", "()V"⟩ ∈ lw_all := lw_c5 (List.mem_of_getElem? (i := 145) rfl) rfl
theorem m_1106 : Jvm.Cond.fieldLink "SilkloftModel" 7 "SilkloftModel" "licences" "[I" ∈ lw_all := lw_c5 (List.mem_of_getElem? (i := 146) rfl) rfl
theorem m_1107 : Jvm.Cond.fieldLink "SilkloftModel" 13 "SilkloftModel" "until" "[I" ∈ lw_all := lw_c5 (List.mem_of_getElem? (i := 147) rfl) rfl
theorem m_1108 : Jvm.Cond.fieldLink "SilkloftModel" 16 "SilkloftModel" "kind" "[I" ∈ lw_all := lw_c5 (List.mem_of_getElem? (i := 148) rfl) rfl
theorem m_1109 : Jvm.Cond.fieldLink "SilkloftModel" 19 "SilkloftModel" "cloth" "[I" ∈ lw_all := lw_c5 (List.mem_of_getElem? (i := 149) rfl) rfl
theorem m_1110 : Jvm.Cond.fieldLink "SilkloftModel" 22 "SilkloftModel" "lines" "[I" ∈ lw_all := lw_c5 (List.mem_of_getElem? (i := 150) rfl) rfl
theorem m_1111 : Jvm.Cond.fieldLink "SilkloftModel" 25 "SilkloftModel" "life" "[I" ∈ lw_all := lw_c5 (List.mem_of_getElem? (i := 151) rfl) rfl
theorem m_1112 : Jvm.Cond.fieldLink "SilkloftModel" 28 "SilkloftModel" "born" "[I" ∈ lw_all := lw_c5 (List.mem_of_getElem? (i := 152) rfl) rfl
theorem m_1113 : Jvm.Cond.fieldLink "SilkloftModel" 31 "SilkloftModel" "state" "[I" ∈ lw_all := lw_c5 (List.mem_of_getElem? (i := 153) rfl) rfl
theorem m_1114 : Jvm.Cond.fieldLink "SilkloftModel" 34 "SilkloftModel" "hookOf" "[I" ∈ lw_all := lw_c5 (List.mem_of_getElem? (i := 154) rfl) rfl
theorem m_1115 : Jvm.Cond.fieldLink "SilkloftModel" 37 "SilkloftModel" "done" "[I" ∈ lw_all := lw_c5 (List.mem_of_getElem? (i := 155) rfl) rfl
theorem m_1116 : Jvm.Cond.fieldLink "SilkloftModel" 40 "SilkloftModel" "latest" "[I" ∈ lw_all := lw_c5 (List.mem_of_getElem? (i := 156) rfl) rfl
theorem m_1117 : Jvm.Cond.fieldLink "SilkloftModel" 43 "SilkloftModel" "jumps" "[I" ∈ lw_all := lw_c5 (List.mem_of_getElem? (i := 157) rfl) rfl
theorem m_1118 : Jvm.Cond.fieldLink "SilkloftModel" 46 "SilkloftModel" "goods" "[I" ∈ lw_all := lw_c5 (List.mem_of_getElem? (i := 158) rfl) rfl
theorem m_1119 : Jvm.Cond.fieldLink "SilkloftModel" 49 "SilkloftModel" "repairs" "[I" ∈ lw_all := lw_c5 (List.mem_of_getElem? (i := 159) rfl) rfl
theorem m_1120 : Jvm.Cond.fieldLink "SilkloftModel" 52 "SilkloftModel" "repaired" "[I" ∈ lw_all := lw_c5 (List.mem_of_getElem? (i := 160) rfl) rfl
theorem m_1121 : Jvm.Cond.fieldLink "SilkloftModel" 55 "SilkloftModel" "dropOne" "[I" ∈ lw_all := lw_c5 (List.mem_of_getElem? (i := 161) rfl) rfl
theorem m_1122 : Jvm.Cond.fieldLink "SilkloftModel" 58 "SilkloftModel" "dropTwo" "[I" ∈ lw_all := lw_c5 (List.mem_of_getElem? (i := 162) rfl) rfl
theorem m_1123 : Jvm.Cond.fieldLink "SilkloftModel" 61 "SilkloftModel" "isOneGood" "[I" ∈ lw_all := lw_c5 (List.mem_of_getElem? (i := 163) rfl) rfl
theorem m_1124 : Jvm.Cond.fieldLink "SilkloftModel" 64 "SilkloftModel" "isTwoGood" "[I" ∈ lw_all := lw_c5 (List.mem_of_getElem? (i := 164) rfl) rfl
theorem m_1125 : Jvm.Cond.fieldLink "SilkloftModel" 67 "SilkloftModel" "repairOne" "[I" ∈ lw_all := lw_c5 (List.mem_of_getElem? (i := 165) rfl) rfl
theorem m_1126 : Jvm.Cond.fieldLink "SilkloftModel" 70 "SilkloftModel" "repairTwo" "[I" ∈ lw_all := lw_c5 (List.mem_of_getElem? (i := 166) rfl) rfl
theorem m_1127 : Jvm.Cond.fieldLink "SilkloftModel" 73 "SilkloftModel" "dueDay" "[I" ∈ lw_all := lw_c5 (List.mem_of_getElem? (i := 167) rfl) rfl
theorem m_1128 : Jvm.Cond.fieldLink "SilkloftModel" 76 "SilkloftModel" "deposit" "[I" ∈ lw_all := lw_c5 (List.mem_of_getElem? (i := 168) rfl) rfl
theorem m_1129 : Jvm.Cond.fieldLink "SilkloftModel" 79 "SilkloftModel" "hands" "[I" ∈ lw_all := lw_c5 (List.mem_of_getElem? (i := 169) rfl) rfl
theorem m_1130 : Jvm.Cond.fieldLink "SilkloftModel" 82 "SilkloftModel" "packCanopy" "[I" ∈ lw_all := lw_c5 (List.mem_of_getElem? (i := 170) rfl) rfl
theorem m_1131 : Jvm.Cond.fieldLink "SilkloftModel" 85 "SilkloftModel" "packHook" "[I" ∈ lw_all := lw_c5 (List.mem_of_getElem? (i := 171) rfl) rfl
theorem m_1132 : Jvm.Cond.fieldLink "SilkloftModel" 88 "SilkloftModel" "packDay" "[I" ∈ lw_all := lw_c5 (List.mem_of_getElem? (i := 172) rfl) rfl
theorem m_1133 : Jvm.Cond.fieldLink "SilkloftModel" 91 "SilkloftModel" "packRigger" "[I" ∈ lw_all := lw_c5 (List.mem_of_getElem? (i := 173) rfl) rfl
theorem m_1134 : Jvm.Cond.fieldLink "SilkloftModel" 94 "SilkloftModel" "aboard" "[I" ∈ lw_all := lw_c5 (List.mem_of_getElem? (i := 174) rfl) rfl
theorem m_1135 : Jvm.Cond.fieldLink "SilkloftModel" 97 "SilkloftModel" "hasJumped" "[I" ∈ lw_all := lw_c5 (List.mem_of_getElem? (i := 175) rfl) rfl
theorem m_1136 : Jvm.Cond.fieldLink "SilkloftModel" 100 "SilkloftModel" "mains" "[I" ∈ lw_all := lw_c5 (List.mem_of_getElem? (i := 176) rfl) rfl
theorem m_1137 : Jvm.Cond.fieldLink "SilkloftModel" 103 "SilkloftModel" "reserves" "[I" ∈ lw_all := lw_c5 (List.mem_of_getElem? (i := 177) rfl) rfl
theorem m_1138 : Jvm.Cond.fieldLink "SilkloftModel" 106 "SilkloftModel" "findCanopy" "[I" ∈ lw_all := lw_c5 (List.mem_of_getElem? (i := 178) rfl) rfl
theorem m_1139 : Jvm.Cond.fieldLink "SilkloftModel" 109 "SilkloftModel" "findPack" "[I" ∈ lw_all := lw_c5 (List.mem_of_getElem? (i := 179) rfl) rfl
theorem m_1140 : Jvm.Cond.fieldLink "SilkloftModel" 112 "SilkloftModel" "findAct" "[I" ∈ lw_all := lw_c5 (List.mem_of_getElem? (i := 180) rfl) rfl
theorem m_1141 : Jvm.Cond.fieldLink "SilkloftModel" 115 "SilkloftModel" "level" "[I" ∈ lw_all := lw_c5 (List.mem_of_getElem? (i := 181) rfl) rfl
theorem m_1142 : Jvm.Cond.fieldLink "SilkloftModel" 118 "SilkloftModel" "cause" "[I" ∈ lw_all := lw_c5 (List.mem_of_getElem? (i := 182) rfl) rfl
theorem m_1143 : Jvm.Cond.fieldLink "SilkloftModel" 121 "SilkloftModel" "closed" "[I" ∈ lw_all := lw_c5 (List.mem_of_getElem? (i := 183) rfl) rfl
theorem m_1144 : Jvm.Cond.fieldLink "SilkloftModel" 128 "SilkloftModel" "thrown" "I" ∈ lw_all := lw_c5 (List.mem_of_getElem? (i := 184) rfl) rfl
theorem m_1145 : Jvm.Cond.fieldLink "SilkloftModel" 131 "SilkloftModel" "riggers" "I" ∈ lw_all := lw_c5 (List.mem_of_getElem? (i := 185) rfl) rfl
theorem m_1146 : Jvm.Cond.fieldLink "SilkloftModel" 138 "SilkloftModel" "canopies" "I" ∈ lw_all := lw_c5 (List.mem_of_getElem? (i := 186) rfl) rfl
theorem m_1147 : Jvm.Cond.fieldLink "SilkloftModel" 168 "SilkloftModel" "packs" "I" ∈ lw_all := lw_c5 (List.mem_of_getElem? (i := 187) rfl) rfl
theorem m_1148 : Jvm.Cond.fieldLink "SilkloftModel" 216 "SilkloftModel" "loads" "I" ∈ lw_all := lw_c5 (List.mem_of_getElem? (i := 188) rfl) rfl
theorem m_1149 : Jvm.Cond.fieldLink "SilkloftModel" 185 "SilkloftModel" "findings" "I" ∈ lw_all := lw_c5 (List.mem_of_getElem? (i := 189) rfl) rfl
theorem m_1150 : Jvm.Cond.fieldLink "SilkloftModel" 141 "SilkloftModel" "day" "I" ∈ lw_all := lw_c5 (List.mem_of_getElem? (i := 190) rfl) rfl
theorem m_1151 : Jvm.Cond.fieldLink "SilkloftModel" 124 "SilkloftModel" "period" "I" ∈ lw_all := lw_c5 (List.mem_of_getElem? (i := 191) rfl) rfl
theorem m_1152 : Jvm.Cond.fieldLink "SilkloftModel" 200 "SilkloftModel" "acts" "I" ∈ lw_all := lw_c5 (List.mem_of_getElem? (i := 192) rfl) rfl
theorem m_1153 : Jvm.Cond.fieldLink "SilkloftModel" 234 "SilkloftModel" "kept" "J" ∈ lw_all := lw_c5 (List.mem_of_getElem? (i := 193) rfl) rfl
theorem m_1154 : Jvm.Cond.laysFinal "SilkloftModel" "SilkloftModel" "licences" "[I" ∈ lw_all := lw_c5 (List.mem_of_getElem? (i := 194) rfl) rfl
theorem m_1156 : Jvm.Cond.laysFinal "SilkloftModel" "SilkloftModel" "until" "[I" ∈ lw_all := lw_c5 (List.mem_of_getElem? (i := 196) rfl) rfl
theorem m_1158 : Jvm.Cond.laysFinal "SilkloftModel" "SilkloftModel" "kind" "[I" ∈ lw_all := lw_c5 (List.mem_of_getElem? (i := 198) rfl) rfl
theorem m_1160 : Jvm.Cond.laysFinal "SilkloftModel" "SilkloftModel" "cloth" "[I" ∈ lw_all := lw_c5 (List.mem_of_getElem? (i := 200) rfl) rfl
theorem m_1162 : Jvm.Cond.laysFinal "SilkloftModel" "SilkloftModel" "lines" "[I" ∈ lw_all := lw_c5 (List.mem_of_getElem? (i := 202) rfl) rfl
theorem m_1164 : Jvm.Cond.laysFinal "SilkloftModel" "SilkloftModel" "life" "[I" ∈ lw_all := lw_c5 (List.mem_of_getElem? (i := 204) rfl) rfl
theorem m_1166 : Jvm.Cond.laysFinal "SilkloftModel" "SilkloftModel" "born" "[I" ∈ lw_all := lw_c5 (List.mem_of_getElem? (i := 206) rfl) rfl
theorem m_1168 : Jvm.Cond.laysFinal "SilkloftModel" "SilkloftModel" "state" "[I" ∈ lw_all := lw_c5 (List.mem_of_getElem? (i := 208) rfl) rfl
theorem m_1170 : Jvm.Cond.laysFinal "SilkloftModel" "SilkloftModel" "hookOf" "[I" ∈ lw_all := lw_c5 (List.mem_of_getElem? (i := 210) rfl) rfl
theorem m_1172 : Jvm.Cond.laysFinal "SilkloftModel" "SilkloftModel" "done" "[I" ∈ lw_all := lw_c5 (List.mem_of_getElem? (i := 212) rfl) rfl
theorem m_1174 : Jvm.Cond.laysFinal "SilkloftModel" "SilkloftModel" "latest" "[I" ∈ lw_all := lw_c5 (List.mem_of_getElem? (i := 214) rfl) rfl
theorem m_1176 : Jvm.Cond.laysFinal "SilkloftModel" "SilkloftModel" "jumps" "[I" ∈ lw_all := lw_c5 (List.mem_of_getElem? (i := 216) rfl) rfl
theorem m_1178 : Jvm.Cond.laysFinal "SilkloftModel" "SilkloftModel" "goods" "[I" ∈ lw_all := lw_c5 (List.mem_of_getElem? (i := 218) rfl) rfl
theorem m_1180 : Jvm.Cond.laysFinal "SilkloftModel" "SilkloftModel" "repairs" "[I" ∈ lw_all := lw_c5 (List.mem_of_getElem? (i := 220) rfl) rfl
theorem m_1182 : Jvm.Cond.laysFinal "SilkloftModel" "SilkloftModel" "repaired" "[I" ∈ lw_all := lw_c5 (List.mem_of_getElem? (i := 222) rfl) rfl
theorem m_1184 : Jvm.Cond.laysFinal "SilkloftModel" "SilkloftModel" "dropOne" "[I" ∈ lw_all := lw_c5 (List.mem_of_getElem? (i := 224) rfl) rfl
theorem m_1186 : Jvm.Cond.laysFinal "SilkloftModel" "SilkloftModel" "dropTwo" "[I" ∈ lw_all := lw_c5 (List.mem_of_getElem? (i := 226) rfl) rfl
theorem m_1188 : Jvm.Cond.laysFinal "SilkloftModel" "SilkloftModel" "isOneGood" "[I" ∈ lw_all := lw_c5 (List.mem_of_getElem? (i := 228) rfl) rfl
theorem m_1190 : Jvm.Cond.laysFinal "SilkloftModel" "SilkloftModel" "isTwoGood" "[I" ∈ lw_all := lw_c5 (List.mem_of_getElem? (i := 230) rfl) rfl
theorem m_1192 : Jvm.Cond.laysFinal "SilkloftModel" "SilkloftModel" "repairOne" "[I" ∈ lw_all := lw_c5 (List.mem_of_getElem? (i := 232) rfl) rfl
theorem m_1194 : Jvm.Cond.laysFinal "SilkloftModel" "SilkloftModel" "repairTwo" "[I" ∈ lw_all := lw_c5 (List.mem_of_getElem? (i := 234) rfl) rfl
theorem m_1196 : Jvm.Cond.laysFinal "SilkloftModel" "SilkloftModel" "dueDay" "[I" ∈ lw_all := lw_c5 (List.mem_of_getElem? (i := 236) rfl) rfl
theorem m_1198 : Jvm.Cond.laysFinal "SilkloftModel" "SilkloftModel" "deposit" "[I" ∈ lw_all := lw_c5 (List.mem_of_getElem? (i := 238) rfl) rfl
theorem m_1200 : Jvm.Cond.laysFinal "SilkloftModel" "SilkloftModel" "hands" "[I" ∈ lw_all := lw_c6 (List.mem_of_getElem? (i := 0) rfl) rfl
theorem m_1202 : Jvm.Cond.laysFinal "SilkloftModel" "SilkloftModel" "packCanopy" "[I" ∈ lw_all := lw_c6 (List.mem_of_getElem? (i := 2) rfl) rfl
theorem m_1204 : Jvm.Cond.laysFinal "SilkloftModel" "SilkloftModel" "packHook" "[I" ∈ lw_all := lw_c6 (List.mem_of_getElem? (i := 4) rfl) rfl
theorem m_1206 : Jvm.Cond.laysFinal "SilkloftModel" "SilkloftModel" "packDay" "[I" ∈ lw_all := lw_c6 (List.mem_of_getElem? (i := 6) rfl) rfl
theorem m_1208 : Jvm.Cond.laysFinal "SilkloftModel" "SilkloftModel" "packRigger" "[I" ∈ lw_all := lw_c6 (List.mem_of_getElem? (i := 8) rfl) rfl
theorem m_1210 : Jvm.Cond.laysFinal "SilkloftModel" "SilkloftModel" "aboard" "[I" ∈ lw_all := lw_c6 (List.mem_of_getElem? (i := 10) rfl) rfl
theorem m_1212 : Jvm.Cond.laysFinal "SilkloftModel" "SilkloftModel" "hasJumped" "[I" ∈ lw_all := lw_c6 (List.mem_of_getElem? (i := 12) rfl) rfl
theorem m_1214 : Jvm.Cond.laysFinal "SilkloftModel" "SilkloftModel" "mains" "[I" ∈ lw_all := lw_c6 (List.mem_of_getElem? (i := 14) rfl) rfl
theorem m_1216 : Jvm.Cond.laysFinal "SilkloftModel" "SilkloftModel" "reserves" "[I" ∈ lw_all := lw_c6 (List.mem_of_getElem? (i := 16) rfl) rfl
theorem m_1218 : Jvm.Cond.laysFinal "SilkloftModel" "SilkloftModel" "findCanopy" "[I" ∈ lw_all := lw_c6 (List.mem_of_getElem? (i := 18) rfl) rfl
theorem m_1220 : Jvm.Cond.laysFinal "SilkloftModel" "SilkloftModel" "findPack" "[I" ∈ lw_all := lw_c6 (List.mem_of_getElem? (i := 20) rfl) rfl
theorem m_1222 : Jvm.Cond.laysFinal "SilkloftModel" "SilkloftModel" "findAct" "[I" ∈ lw_all := lw_c6 (List.mem_of_getElem? (i := 22) rfl) rfl
theorem m_1224 : Jvm.Cond.laysFinal "SilkloftModel" "SilkloftModel" "level" "[I" ∈ lw_all := lw_c6 (List.mem_of_getElem? (i := 24) rfl) rfl
theorem m_1226 : Jvm.Cond.laysFinal "SilkloftModel" "SilkloftModel" "cause" "[I" ∈ lw_all := lw_c6 (List.mem_of_getElem? (i := 26) rfl) rfl
theorem m_1228 : Jvm.Cond.laysFinal "SilkloftModel" "SilkloftModel" "closed" "[I" ∈ lw_all := lw_c6 (List.mem_of_getElem? (i := 28) rfl) rfl
theorem m_1230 : Jvm.Cond.lays "SilkloftModel" "SilkloftModel" "thrown" "I" ∈ lw_all := lw_c6 (List.mem_of_getElem? (i := 30) rfl) rfl
theorem m_1232 : Jvm.Cond.lays "SilkloftModel" "SilkloftModel" "riggers" "I" ∈ lw_all := lw_c6 (List.mem_of_getElem? (i := 32) rfl) rfl
theorem m_1234 : Jvm.Cond.lays "SilkloftModel" "SilkloftModel" "canopies" "I" ∈ lw_all := lw_c6 (List.mem_of_getElem? (i := 34) rfl) rfl
theorem m_1236 : Jvm.Cond.lays "SilkloftModel" "SilkloftModel" "packs" "I" ∈ lw_all := lw_c6 (List.mem_of_getElem? (i := 36) rfl) rfl
theorem m_1238 : Jvm.Cond.lays "SilkloftModel" "SilkloftModel" "loads" "I" ∈ lw_all := lw_c6 (List.mem_of_getElem? (i := 38) rfl) rfl
theorem m_1240 : Jvm.Cond.lays "SilkloftModel" "SilkloftModel" "findings" "I" ∈ lw_all := lw_c6 (List.mem_of_getElem? (i := 40) rfl) rfl
theorem m_1242 : Jvm.Cond.lays "SilkloftModel" "SilkloftModel" "day" "I" ∈ lw_all := lw_c6 (List.mem_of_getElem? (i := 42) rfl) rfl
theorem m_1244 : Jvm.Cond.lays "SilkloftModel" "SilkloftModel" "period" "I" ∈ lw_all := lw_c6 (List.mem_of_getElem? (i := 44) rfl) rfl
theorem m_1246 : Jvm.Cond.lays "SilkloftModel" "SilkloftModel" "acts" "I" ∈ lw_all := lw_c6 (List.mem_of_getElem? (i := 46) rfl) rfl
theorem m_1248 : Jvm.Cond.lays "SilkloftModel" "SilkloftModel" "kept" "J" ∈ lw_all := lw_c6 (List.mem_of_getElem? (i := 48) rfl) rfl
theorem m_1251 : Jvm.Cond.methodLink "SilkloftLaw" 137 yX10_thrown ∈ lw_all := lw_c6 (List.mem_of_getElem? (i := 51) rfl) rfl
theorem m_1252 : Jvm.Cond.instanceMethod yX10_thrown ∈ lw_all := lw_c6 (List.mem_of_getElem? (i := 52) rfl) rfl
theorem m_1253 : Jvm.Cond.selects "SilkloftModel" yX10_thrown yX10_thrown ∈ lw_all := lw_c6 (List.mem_of_getElem? (i := 53) rfl) rfl
theorem m_1254 : Jvm.Cond.code yX10_thrown prog_12_method_2_code 1 (Option.some Jvm.ClassFile.FieldType.int) ∈ lw_all := lw_c6 (List.mem_of_getElem? (i := 54) rfl) rfl
theorem m_1255 : Jvm.Cond.methodLink "SilkloftLaw" 136 yX10_addRigger ∈ lw_all := lw_c6 (List.mem_of_getElem? (i := 55) rfl) rfl
theorem m_1256 : Jvm.Cond.instanceMethod yX10_addRigger ∈ lw_all := lw_c6 (List.mem_of_getElem? (i := 56) rfl) rfl
theorem m_1257 : Jvm.Cond.selects "SilkloftModel" yX10_addRigger yX10_addRigger ∈ lw_all := lw_c6 (List.mem_of_getElem? (i := 57) rfl) rfl
theorem m_1258 : Jvm.Cond.code yX10_addRigger prog_12_method_11_code 3 (Option.some Jvm.ClassFile.FieldType.int) ∈ lw_all := lw_c6 (List.mem_of_getElem? (i := 58) rfl) rfl
theorem m_1259 : Jvm.Cond.methodLink "SilkloftModel" 134 yX10_in ∈ lw_all := lw_c6 (List.mem_of_getElem? (i := 59) rfl) rfl
theorem m_1260 : Jvm.Cond.static yX10_in ∈ lw_all := lw_c6 (List.mem_of_getElem? (i := 60) rfl) rfl
theorem m_1261 : Jvm.Cond.code yX10_in prog_12_method_7_code 3 (Option.some Jvm.ClassFile.FieldType.boolean) ∈ lw_all := lw_c6 (List.mem_of_getElem? (i := 61) rfl) rfl
theorem m_1262 : Jvm.Cond.methodLink "SilkloftModel" 144 yX10_fails ∈ lw_all := lw_c6 (List.mem_of_getElem? (i := 62) rfl) rfl
theorem m_1264 : Jvm.Cond.instanceMethod yX10_fails ∈ lw_all := lw_c6 (List.mem_of_getElem? (i := 64) rfl) rfl
theorem m_1265 : Jvm.Cond.code yX10_fails prog_12_method_3_code 2 (Option.some Jvm.ClassFile.FieldType.int) ∈ lw_all := lw_c6 (List.mem_of_getElem? (i := 65) rfl) rfl
theorem m_1266 : Jvm.Cond.methodLink "SilkloftModel" 148 yX10_tell ∈ lw_all := lw_c6 (List.mem_of_getElem? (i := 66) rfl) rfl
theorem m_1268 : Jvm.Cond.instanceMethod yX10_tell ∈ lw_all := lw_c6 (List.mem_of_getElem? (i := 68) rfl) rfl
theorem m_1269 : Jvm.Cond.code yX10_tell prog_12_method_4_code 2 (Option.some Jvm.ClassFile.FieldType.int) ∈ lw_all := lw_c6 (List.mem_of_getElem? (i := 69) rfl) rfl
theorem m_1270 : Jvm.Cond.methodLink "SilkloftLaw" 143 yX10_setLicences ∈ lw_all := lw_c6 (List.mem_of_getElem? (i := 70) rfl) rfl
theorem m_1271 : Jvm.Cond.instanceMethod yX10_setLicences ∈ lw_all := lw_c6 (List.mem_of_getElem? (i := 71) rfl) rfl
theorem m_1272 : Jvm.Cond.selects "SilkloftModel" yX10_setLicences yX10_setLicences ∈ lw_all := lw_c6 (List.mem_of_getElem? (i := 72) rfl) rfl
theorem m_1273 : Jvm.Cond.code yX10_setLicences prog_12_method_12_code 5 (Option.some Jvm.ClassFile.FieldType.int) ∈ lw_all := lw_c6 (List.mem_of_getElem? (i := 73) rfl) rfl
theorem m_1274 : Jvm.Cond.methodLink "SilkloftModel" 151 yX10_isRigger ∈ lw_all := lw_c6 (List.mem_of_getElem? (i := 74) rfl) rfl
theorem m_1276 : Jvm.Cond.instanceMethod yX10_isRigger ∈ lw_all := lw_c6 (List.mem_of_getElem? (i := 76) rfl) rfl
theorem m_1277 : Jvm.Cond.code yX10_isRigger prog_12_method_8_code 2 (Option.some Jvm.ClassFile.FieldType.boolean) ∈ lw_all := lw_c6 (List.mem_of_getElem? (i := 77) rfl) rfl
theorem m_1278 : Jvm.Cond.methodLink "SilkloftLaw" 147 yX10_addCanopy ∈ lw_all := lw_c6 (List.mem_of_getElem? (i := 78) rfl) rfl
theorem m_1279 : Jvm.Cond.instanceMethod yX10_addCanopy ∈ lw_all := lw_c6 (List.mem_of_getElem? (i := 79) rfl) rfl
theorem m_1280 : Jvm.Cond.selects "SilkloftModel" yX10_addCanopy yX10_addCanopy ∈ lw_all := lw_c6 (List.mem_of_getElem? (i := 80) rfl) rfl
theorem m_1281 : Jvm.Cond.code yX10_addCanopy prog_12_method_13_code 6 (Option.some Jvm.ClassFile.FieldType.int) ∈ lw_all := lw_c6 (List.mem_of_getElem? (i := 81) rfl) rfl
theorem m_1282 : Jvm.Cond.methodLink "SilkloftLaw" 151 yX10_setPeriod ∈ lw_all := lw_c6 (List.mem_of_getElem? (i := 82) rfl) rfl
theorem m_1283 : Jvm.Cond.instanceMethod yX10_setPeriod ∈ lw_all := lw_c6 (List.mem_of_getElem? (i := 83) rfl) rfl
theorem m_1284 : Jvm.Cond.selects "SilkloftModel" yX10_setPeriod yX10_setPeriod ∈ lw_all := lw_c6 (List.mem_of_getElem? (i := 84) rfl) rfl
theorem m_1285 : Jvm.Cond.code yX10_setPeriod prog_12_method_14_code 3 (Option.some Jvm.ClassFile.FieldType.int) ∈ lw_all := lw_c6 (List.mem_of_getElem? (i := 85) rfl) rfl
theorem m_1286 : Jvm.Cond.methodLink "SilkloftLaw" 154 yX10_goOn ∈ lw_all := lw_c6 (List.mem_of_getElem? (i := 86) rfl) rfl
theorem m_1287 : Jvm.Cond.instanceMethod yX10_goOn ∈ lw_all := lw_c6 (List.mem_of_getElem? (i := 87) rfl) rfl
theorem m_1288 : Jvm.Cond.selects "SilkloftModel" yX10_goOn yX10_goOn ∈ lw_all := lw_c6 (List.mem_of_getElem? (i := 88) rfl) rfl
theorem m_1289 : Jvm.Cond.code yX10_goOn prog_12_method_15_code 2 (Option.some Jvm.ClassFile.FieldType.int) ∈ lw_all := lw_c6 (List.mem_of_getElem? (i := 89) rfl) rfl
theorem m_1290 : Jvm.Cond.methodLink "SilkloftLaw" 157 yX10_hang ∈ lw_all := lw_c6 (List.mem_of_getElem? (i := 90) rfl) rfl
theorem m_1291 : Jvm.Cond.instanceMethod yX10_hang ∈ lw_all := lw_c6 (List.mem_of_getElem? (i := 91) rfl) rfl
theorem m_1292 : Jvm.Cond.selects "SilkloftModel" yX10_hang yX10_hang ∈ lw_all := lw_c6 (List.mem_of_getElem? (i := 92) rfl) rfl
theorem m_1293 : Jvm.Cond.code yX10_hang prog_12_method_20_code 3 (Option.some Jvm.ClassFile.FieldType.int) ∈ lw_all := lw_c6 (List.mem_of_getElem? (i := 93) rfl) rfl
theorem m_1294 : Jvm.Cond.methodLink "SilkloftModel" 158 yX10_isCanopy ∈ lw_all := lw_c6 (List.mem_of_getElem? (i := 94) rfl) rfl
theorem m_1296 : Jvm.Cond.instanceMethod yX10_isCanopy ∈ lw_all := lw_c6 (List.mem_of_getElem? (i := 96) rfl) rfl
theorem m_1297 : Jvm.Cond.code yX10_isCanopy prog_12_method_9_code 2 (Option.some Jvm.ClassFile.FieldType.boolean) ∈ lw_all := lw_c6 (List.mem_of_getElem? (i := 97) rfl) rfl
theorem m_1298 : Jvm.Cond.methodLink "SilkloftModel" 161 yX10_isUsed ∈ lw_all := lw_c6 (List.mem_of_getElem? (i := 98) rfl) rfl
theorem m_1300 : Jvm.Cond.instanceMethod yX10_isUsed ∈ lw_all := lw_c6 (List.mem_of_getElem? (i := 100) rfl) rfl
theorem m_1301 : Jvm.Cond.code yX10_isUsed prog_12_method_19_code 4 (Option.some Jvm.ClassFile.FieldType.boolean) ∈ lw_all := lw_c6 (List.mem_of_getElem? (i := 101) rfl) rfl
theorem m_1302 : Jvm.Cond.methodLink "SilkloftModel" 164 yX10_hooksUsed ∈ lw_all := lw_c6 (List.mem_of_getElem? (i := 102) rfl) rfl
theorem m_1304 : Jvm.Cond.instanceMethod yX10_hooksUsed ∈ lw_all := lw_c6 (List.mem_of_getElem? (i := 104) rfl) rfl
theorem m_1305 : Jvm.Cond.code yX10_hooksUsed prog_12_method_18_code 3 (Option.some Jvm.ClassFile.FieldType.int) ∈ lw_all := lw_c6 (List.mem_of_getElem? (i := 105) rfl) rfl
theorem m_1306 : Jvm.Cond.methodLink "SilkloftLaw" 160 yX10_step ∈ lw_all := lw_c6 (List.mem_of_getElem? (i := 106) rfl) rfl
theorem m_1307 : Jvm.Cond.instanceMethod yX10_step ∈ lw_all := lw_c6 (List.mem_of_getElem? (i := 107) rfl) rfl
theorem m_1308 : Jvm.Cond.selects "SilkloftModel" yX10_step yX10_step ∈ lw_all := lw_c6 (List.mem_of_getElem? (i := 108) rfl) rfl
theorem m_1309 : Jvm.Cond.code yX10_step prog_12_method_22_code 3 (Option.some Jvm.ClassFile.FieldType.int) ∈ lw_all := lw_c6 (List.mem_of_getElem? (i := 109) rfl) rfl
theorem m_1310 : Jvm.Cond.methodLink "SilkloftModel" 171 yX10_may ∈ lw_all := lw_c6 (List.mem_of_getElem? (i := 110) rfl) rfl
theorem m_1312 : Jvm.Cond.instanceMethod yX10_may ∈ lw_all := lw_c6 (List.mem_of_getElem? (i := 112) rfl) rfl
theorem m_1313 : Jvm.Cond.code yX10_may prog_12_method_10_code 3 (Option.some Jvm.ClassFile.FieldType.boolean) ∈ lw_all := lw_c6 (List.mem_of_getElem? (i := 113) rfl) rfl
theorem m_1314 : Jvm.Cond.methodLink "SilkloftModel" 175 yX10_finishes ∈ lw_all := lw_c6 (List.mem_of_getElem? (i := 114) rfl) rfl
theorem m_1316 : Jvm.Cond.instanceMethod yX10_finishes ∈ lw_all := lw_c6 (List.mem_of_getElem? (i := 116) rfl) rfl
theorem m_1317 : Jvm.Cond.code yX10_finishes prog_12_method_21_code 3 (Option.none : Option Jvm.ClassFile.FieldType) ∈ lw_all := lw_c6 (List.mem_of_getElem? (i := 117) rfl) rfl
theorem m_1318 : Jvm.Cond.methodLink "SilkloftLaw" 163 yX10_breakOff ∈ lw_all := lw_c6 (List.mem_of_getElem? (i := 118) rfl) rfl
theorem m_1319 : Jvm.Cond.instanceMethod yX10_breakOff ∈ lw_all := lw_c6 (List.mem_of_getElem? (i := 119) rfl) rfl
theorem m_1320 : Jvm.Cond.selects "SilkloftModel" yX10_breakOff yX10_breakOff ∈ lw_all := lw_c6 (List.mem_of_getElem? (i := 120) rfl) rfl
theorem m_1321 : Jvm.Cond.code yX10_breakOff prog_12_method_23_code 2 (Option.some Jvm.ClassFile.FieldType.int) ∈ lw_all := lw_c6 (List.mem_of_getElem? (i := 121) rfl) rfl
theorem m_1322 : Jvm.Cond.methodLink "SilkloftLaw" 179 yX10_find ∈ lw_all := lw_c6 (List.mem_of_getElem? (i := 122) rfl) rfl
theorem m_1323 : Jvm.Cond.instanceMethod yX10_find ∈ lw_all := lw_c6 (List.mem_of_getElem? (i := 123) rfl) rfl
theorem m_1324 : Jvm.Cond.selects "SilkloftModel" yX10_find yX10_find ∈ lw_all := lw_c6 (List.mem_of_getElem? (i := 124) rfl) rfl
theorem m_1325 : Jvm.Cond.code yX10_find prog_12_method_31_code 2 (Option.some Jvm.ClassFile.FieldType.int) ∈ lw_all := lw_c6 (List.mem_of_getElem? (i := 125) rfl) rfl
theorem m_1326 : Jvm.Cond.methodLink "SilkloftModel" 203 yX10_finds ∈ lw_all := lw_c6 (List.mem_of_getElem? (i := 126) rfl) rfl
theorem m_1328 : Jvm.Cond.instanceMethod yX10_finds ∈ lw_all := lw_c6 (List.mem_of_getElem? (i := 128) rfl) rfl
theorem m_1329 : Jvm.Cond.code yX10_finds prog_12_method_30_code 2 (Option.none : Option Jvm.ClassFile.FieldType) ∈ lw_all := lw_c6 (List.mem_of_getElem? (i := 129) rfl) rfl
theorem m_1330 : Jvm.Cond.methodLink "SilkloftLaw" 182 yX10_widen ∈ lw_all := lw_c6 (List.mem_of_getElem? (i := 130) rfl) rfl
theorem m_1331 : Jvm.Cond.instanceMethod yX10_widen ∈ lw_all := lw_c6 (List.mem_of_getElem? (i := 131) rfl) rfl
theorem m_1332 : Jvm.Cond.selects "SilkloftModel" yX10_widen yX10_widen ∈ lw_all := lw_c6 (List.mem_of_getElem? (i := 132) rfl) rfl
theorem m_1333 : Jvm.Cond.code yX10_widen prog_12_method_33_code 2 (Option.some Jvm.ClassFile.FieldType.int) ∈ lw_all := lw_c6 (List.mem_of_getElem? (i := 133) rfl) rfl
theorem m_1334 : Jvm.Cond.methodLink "SilkloftModel" 206 yX10_isFinding ∈ lw_all := lw_c6 (List.mem_of_getElem? (i := 134) rfl) rfl
theorem m_1336 : Jvm.Cond.instanceMethod yX10_isFinding ∈ lw_all := lw_c6 (List.mem_of_getElem? (i := 136) rfl) rfl
theorem m_1337 : Jvm.Cond.code yX10_isFinding prog_12_method_32_code 2 (Option.some Jvm.ClassFile.FieldType.boolean) ∈ lw_all := lw_c6 (List.mem_of_getElem? (i := 137) rfl) rfl
theorem m_1338 : Jvm.Cond.methodLink "SilkloftLaw" 186 yX10_tellCause ∈ lw_all := lw_c6 (List.mem_of_getElem? (i := 138) rfl) rfl
theorem m_1339 : Jvm.Cond.instanceMethod yX10_tellCause ∈ lw_all := lw_c6 (List.mem_of_getElem? (i := 139) rfl) rfl
theorem m_1340 : Jvm.Cond.selects "SilkloftModel" yX10_tellCause yX10_tellCause ∈ lw_all := lw_c6 (List.mem_of_getElem? (i := 140) rfl) rfl
theorem m_1341 : Jvm.Cond.code yX10_tellCause prog_12_method_34_code 4 (Option.some Jvm.ClassFile.FieldType.char) ∈ lw_all := lw_c6 (List.mem_of_getElem? (i := 141) rfl) rfl
theorem m_1342 : Jvm.Cond.methodLink "SilkloftLaw" 189 yX10_close ∈ lw_all := lw_c6 (List.mem_of_getElem? (i := 142) rfl) rfl
theorem m_1343 : Jvm.Cond.instanceMethod yX10_close ∈ lw_all := lw_c6 (List.mem_of_getElem? (i := 143) rfl) rfl
theorem m_1344 : Jvm.Cond.selects "SilkloftModel" yX10_close yX10_close ∈ lw_all := lw_c6 (List.mem_of_getElem? (i := 144) rfl) rfl
theorem m_1345 : Jvm.Cond.code yX10_close prog_12_method_35_code 3 (Option.some Jvm.ClassFile.FieldType.boolean) ∈ lw_all := lw_c6 (List.mem_of_getElem? (i := 145) rfl) rfl
theorem m_1346 : Jvm.Cond.methodLink "SilkloftModel" 209 yX10_refuses ∈ lw_all := lw_c6 (List.mem_of_getElem? (i := 146) rfl) rfl
theorem m_1348 : Jvm.Cond.instanceMethod yX10_refuses ∈ lw_all := lw_c6 (List.mem_of_getElem? (i := 148) rfl) rfl
theorem m_1349 : Jvm.Cond.code yX10_refuses prog_12_method_5_code 2 (Option.some Jvm.ClassFile.FieldType.boolean) ∈ lw_all := lw_c6 (List.mem_of_getElem? (i := 149) rfl) rfl
theorem m_1350 : Jvm.Cond.methodLink "SilkloftModel" 212 yX10_tells ∈ lw_all := lw_c6 (List.mem_of_getElem? (i := 150) rfl) rfl
theorem m_1352 : Jvm.Cond.instanceMethod yX10_tells ∈ lw_all := lw_c6 (List.mem_of_getElem? (i := 152) rfl) rfl
theorem m_1353 : Jvm.Cond.code yX10_tells prog_12_method_6_code 2 (Option.some Jvm.ClassFile.FieldType.boolean) ∈ lw_all := lw_c6 (List.mem_of_getElem? (i := 153) rfl) rfl
theorem m_1354 : Jvm.Cond.methodLink "SilkloftLaw" 192 yX10_grounds ∈ lw_all := lw_c6 (List.mem_of_getElem? (i := 154) rfl) rfl
theorem m_1355 : Jvm.Cond.instanceMethod yX10_grounds ∈ lw_all := lw_c6 (List.mem_of_getElem? (i := 155) rfl) rfl
theorem m_1356 : Jvm.Cond.selects "SilkloftModel" yX10_grounds yX10_grounds ∈ lw_all := lw_c6 (List.mem_of_getElem? (i := 156) rfl) rfl
theorem m_1357 : Jvm.Cond.code yX10_grounds prog_12_method_36_code 4 (Option.some Jvm.ClassFile.FieldType.int) ∈ lw_all := lw_c6 (List.mem_of_getElem? (i := 157) rfl) rfl
theorem m_1358 : Jvm.Cond.methodLink "SilkloftModel" 188 yX10_reaches ∈ lw_all := lw_c6 (List.mem_of_getElem? (i := 158) rfl) rfl
theorem m_1360 : Jvm.Cond.instanceMethod yX10_reaches ∈ lw_all := lw_c6 (List.mem_of_getElem? (i := 160) rfl) rfl
theorem m_1361 : Jvm.Cond.code yX10_reaches prog_12_method_26_code 6 (Option.some Jvm.ClassFile.FieldType.boolean) ∈ lw_all := lw_c6 (List.mem_of_getElem? (i := 161) rfl) rfl
theorem m_1362 : Jvm.Cond.methodLink "SilkloftModel" 179 yX10_sharesHook ∈ lw_all := lw_c6 (List.mem_of_getElem? (i := 162) rfl) rfl
theorem m_1364 : Jvm.Cond.instanceMethod yX10_sharesHook ∈ lw_all := lw_c6 (List.mem_of_getElem? (i := 164) rfl) rfl
theorem m_1365 : Jvm.Cond.code yX10_sharesHook prog_12_method_24_code 5 (Option.some Jvm.ClassFile.FieldType.boolean) ∈ lw_all := lw_c6 (List.mem_of_getElem? (i := 165) rfl) rfl
theorem m_1366 : Jvm.Cond.methodLink "SilkloftModel" 182 yX10_sharesRigger ∈ lw_all := lw_c6 (List.mem_of_getElem? (i := 166) rfl) rfl
theorem m_1368 : Jvm.Cond.instanceMethod yX10_sharesRigger ∈ lw_all := lw_c6 (List.mem_of_getElem? (i := 168) rfl) rfl
theorem m_1369 : Jvm.Cond.code yX10_sharesRigger prog_12_method_25_code 5 (Option.some Jvm.ClassFile.FieldType.boolean) ∈ lw_all := lw_c6 (List.mem_of_getElem? (i := 169) rfl) rfl
theorem m_1370 : Jvm.Cond.methodLink "SilkloftModel" 191 yX10_isFree ∈ lw_all := lw_c6 (List.mem_of_getElem? (i := 170) rfl) rfl
theorem m_1372 : Jvm.Cond.instanceMethod yX10_isFree ∈ lw_all := lw_c6 (List.mem_of_getElem? (i := 172) rfl) rfl
theorem m_1373 : Jvm.Cond.code yX10_isFree prog_12_method_27_code 4 (Option.some Jvm.ClassFile.FieldType.boolean) ∈ lw_all := lw_c6 (List.mem_of_getElem? (i := 173) rfl) rfl
theorem m_1374 : Jvm.Cond.methodLink "SilkloftLaw" 195 yX10_repair ∈ lw_all := lw_c6 (List.mem_of_getElem? (i := 174) rfl) rfl
theorem m_1375 : Jvm.Cond.instanceMethod yX10_repair ∈ lw_all := lw_c6 (List.mem_of_getElem? (i := 175) rfl) rfl
theorem m_1376 : Jvm.Cond.selects "SilkloftModel" yX10_repair yX10_repair ∈ lw_all := lw_c6 (List.mem_of_getElem? (i := 176) rfl) rfl
theorem m_1377 : Jvm.Cond.code yX10_repair prog_12_method_37_code 3 (Option.some Jvm.ClassFile.FieldType.int) ∈ lw_all := lw_c6 (List.mem_of_getElem? (i := 177) rfl) rfl
theorem m_1378 : Jvm.Cond.methodLink "SilkloftLaw" 199 yX10_drop ∈ lw_all := lw_c6 (List.mem_of_getElem? (i := 178) rfl) rfl
theorem m_1379 : Jvm.Cond.instanceMethod yX10_drop ∈ lw_all := lw_c6 (List.mem_of_getElem? (i := 179) rfl) rfl
theorem m_1380 : Jvm.Cond.selects "SilkloftModel" yX10_drop yX10_drop ∈ lw_all := lw_c6 (List.mem_of_getElem? (i := 180) rfl) rfl
theorem m_1381 : Jvm.Cond.code yX10_drop prog_12_method_38_code 3 (Option.some Jvm.ClassFile.FieldType.int) ∈ lw_all := lw_c6 (List.mem_of_getElem? (i := 181) rfl) rfl
theorem m_1382 : Jvm.Cond.methodLink "SilkloftLaw" 167 yX10_load ∈ lw_all := lw_c6 (List.mem_of_getElem? (i := 182) rfl) rfl
theorem m_1383 : Jvm.Cond.instanceMethod yX10_load ∈ lw_all := lw_c6 (List.mem_of_getElem? (i := 183) rfl) rfl
theorem m_1384 : Jvm.Cond.selects "SilkloftModel" yX10_load yX10_load ∈ lw_all := lw_c6 (List.mem_of_getElem? (i := 184) rfl) rfl
theorem m_1385 : Jvm.Cond.code yX10_load prog_12_method_40_code 1 (Option.some Jvm.ClassFile.FieldType.int) ∈ lw_all := lw_c6 (List.mem_of_getElem? (i := 185) rfl) rfl
theorem m_1386 : Jvm.Cond.methodLink "SilkloftLaw" 170 yX10_board ∈ lw_all := lw_c6 (List.mem_of_getElem? (i := 186) rfl) rfl
theorem m_1387 : Jvm.Cond.instanceMethod yX10_board ∈ lw_all := lw_c6 (List.mem_of_getElem? (i := 187) rfl) rfl
theorem m_1388 : Jvm.Cond.selects "SilkloftModel" yX10_board yX10_board ∈ lw_all := lw_c6 (List.mem_of_getElem? (i := 188) rfl) rfl
theorem m_1389 : Jvm.Cond.code yX10_board prog_12_method_41_code 4 (Option.some Jvm.ClassFile.FieldType.int) ∈ lw_all := lw_c6 (List.mem_of_getElem? (i := 189) rfl) rfl
theorem m_1390 : Jvm.Cond.methodLink "SilkloftModel" 219 yX10_isLoad ∈ lw_all := lw_c6 (List.mem_of_getElem? (i := 190) rfl) rfl
theorem m_1392 : Jvm.Cond.instanceMethod yX10_isLoad ∈ lw_all := lw_c6 (List.mem_of_getElem? (i := 192) rfl) rfl
theorem m_1393 : Jvm.Cond.code yX10_isLoad prog_12_method_39_code 2 (Option.some Jvm.ClassFile.FieldType.boolean) ∈ lw_all := lw_c6 (List.mem_of_getElem? (i := 193) rfl) rfl
theorem m_1394 : Jvm.Cond.methodLink "SilkloftModel" 222 yX10_isFit ∈ lw_all := lw_c6 (List.mem_of_getElem? (i := 194) rfl) rfl
theorem m_1396 : Jvm.Cond.instanceMethod yX10_isFit ∈ lw_all := lw_c6 (List.mem_of_getElem? (i := 196) rfl) rfl
theorem m_1397 : Jvm.Cond.code yX10_isFit prog_12_method_29_code 2 (Option.some Jvm.ClassFile.FieldType.boolean) ∈ lw_all := lw_c6 (List.mem_of_getElem? (i := 197) rfl) rfl
theorem m_1398 : Jvm.Cond.methodLink "SilkloftModel" 194 yX10_isHeldDown ∈ lw_all := lw_c6 (List.mem_of_getElem? (i := 198) rfl) rfl
theorem m_1400 : Jvm.Cond.instanceMethod yX10_isHeldDown ∈ lw_all := lw_c6 (List.mem_of_getElem? (i := 200) rfl) rfl
theorem m_1401 : Jvm.Cond.code yX10_isHeldDown prog_12_method_28_code 4 (Option.some Jvm.ClassFile.FieldType.boolean) ∈ lw_all := lw_c6 (List.mem_of_getElem? (i := 201) rfl) rfl
theorem m_1402 : Jvm.Cond.methodLink "SilkloftModel" 197 yX10_isOld ∈ lw_all := lw_c6 (List.mem_of_getElem? (i := 202) rfl) rfl
theorem m_1404 : Jvm.Cond.instanceMethod yX10_isOld ∈ lw_all := lw_c6 (List.mem_of_getElem? (i := 204) rfl) rfl
theorem m_1405 : Jvm.Cond.code yX10_isOld prog_12_method_17_code 2 (Option.some Jvm.ClassFile.FieldType.boolean) ∈ lw_all := lw_c6 (List.mem_of_getElem? (i := 205) rfl) rfl
theorem m_1406 : Jvm.Cond.methodLink "SilkloftModel" 155 yX10_isReady ∈ lw_all := lw_c6 (List.mem_of_getElem? (i := 206) rfl) rfl
theorem m_1408 : Jvm.Cond.instanceMethod yX10_isReady ∈ lw_all := lw_c6 (List.mem_of_getElem? (i := 208) rfl) rfl
theorem m_1409 : Jvm.Cond.code yX10_isReady prog_12_method_16_code 2 (Option.some Jvm.ClassFile.FieldType.boolean) ∈ lw_all := lw_c6 (List.mem_of_getElem? (i := 209) rfl) rfl
theorem m_1410 : Jvm.Cond.methodLink "SilkloftLaw" 173 yX10_leave ∈ lw_all := lw_c6 (List.mem_of_getElem? (i := 210) rfl) rfl
theorem m_1411 : Jvm.Cond.instanceMethod yX10_leave ∈ lw_all := lw_c6 (List.mem_of_getElem? (i := 211) rfl) rfl
theorem m_1412 : Jvm.Cond.selects "SilkloftModel" yX10_leave yX10_leave ∈ lw_all := lw_c6 (List.mem_of_getElem? (i := 212) rfl) rfl
theorem m_1413 : Jvm.Cond.code yX10_leave prog_12_method_42_code 2 (Option.some Jvm.ClassFile.FieldType.int) ∈ lw_all := lw_c6 (List.mem_of_getElem? (i := 213) rfl) rfl
theorem m_1414 : Jvm.Cond.methodLink "SilkloftLaw" 176 yX10_jump ∈ lw_all := lw_c6 (List.mem_of_getElem? (i := 214) rfl) rfl
theorem m_1415 : Jvm.Cond.instanceMethod yX10_jump ∈ lw_all := lw_c6 (List.mem_of_getElem? (i := 215) rfl) rfl
theorem m_1416 : Jvm.Cond.selects "SilkloftModel" yX10_jump yX10_jump ∈ lw_all := lw_c6 (List.mem_of_getElem? (i := 216) rfl) rfl
theorem m_1417 : Jvm.Cond.code yX10_jump prog_12_method_44_code 7 (Option.some Jvm.ClassFile.FieldType.int) ∈ lw_all := lw_c6 (List.mem_of_getElem? (i := 217) rfl) rfl
theorem m_1418 : Jvm.Cond.methodLink "SilkloftModel" 225 yX10_areFit ∈ lw_all := lw_c6 (List.mem_of_getElem? (i := 218) rfl) rfl
theorem m_1420 : Jvm.Cond.instanceMethod yX10_areFit ∈ lw_all := lw_c6 (List.mem_of_getElem? (i := 220) rfl) rfl
theorem m_1421 : Jvm.Cond.code yX10_areFit prog_12_method_43_code 4 (Option.some Jvm.ClassFile.FieldType.boolean) ∈ lw_all := lw_c6 (List.mem_of_getElem? (i := 221) rfl) rfl
theorem m_1422 : Jvm.Cond.methodLink "SilkloftLaw" 202 yX10_hire ∈ lw_all := lw_c6 (List.mem_of_getElem? (i := 222) rfl) rfl
theorem m_1423 : Jvm.Cond.instanceMethod yX10_hire ∈ lw_all := lw_c6 (List.mem_of_getElem? (i := 223) rfl) rfl
theorem m_1424 : Jvm.Cond.selects "SilkloftModel" yX10_hire yX10_hire ∈ lw_all := lw_c6 (List.mem_of_getElem? (i := 224) rfl) rfl
theorem m_1425 : Jvm.Cond.code yX10_hire prog_12_method_45_code 4 (Option.some Jvm.ClassFile.FieldType.int) ∈ lw_all := lw_c6 (List.mem_of_getElem? (i := 225) rfl) rfl
theorem m_1426 : Jvm.Cond.methodLink "SilkloftLaw" 206 yX10_back ∈ lw_all := lw_c6 (List.mem_of_getElem? (i := 226) rfl) rfl
theorem m_1427 : Jvm.Cond.instanceMethod yX10_back ∈ lw_all := lw_c6 (List.mem_of_getElem? (i := 227) rfl) rfl
theorem m_1428 : Jvm.Cond.selects "SilkloftModel" yX10_back yX10_back ∈ lw_all := lw_c6 (List.mem_of_getElem? (i := 228) rfl) rfl
theorem m_1429 : Jvm.Cond.code yX10_back prog_12_method_46_code 6 (Option.some Jvm.ClassFile.FieldType.int) ∈ lw_all := lw_c6 (List.mem_of_getElem? (i := 229) rfl) rfl
theorem m_1430 : Jvm.Cond.methodLink "SilkloftModel" 228 yJ9_max_7cf53 ∈ lw_all := lw_c6 (List.mem_of_getElem? (i := 230) rfl) rfl
theorem m_1431 : Jvm.Cond.methodLink "SilkloftLaw" 209 yX10_stateOf ∈ lw_all := lw_c6 (List.mem_of_getElem? (i := 231) rfl) rfl
theorem m_1432 : Jvm.Cond.instanceMethod yX10_stateOf ∈ lw_all := lw_c6 (List.mem_of_getElem? (i := 232) rfl) rfl
theorem m_1433 : Jvm.Cond.selects "SilkloftModel" yX10_stateOf yX10_stateOf ∈ lw_all := lw_c6 (List.mem_of_getElem? (i := 233) rfl) rfl
theorem m_1434 : Jvm.Cond.code yX10_stateOf prog_12_method_47_code 2 (Option.some Jvm.ClassFile.FieldType.char) ∈ lw_all := lw_c6 (List.mem_of_getElem? (i := 234) rfl) rfl
theorem m_1435 : Jvm.Cond.methodLink "SilkloftLaw" 212 yX10_isGrounded ∈ lw_all := lw_c6 (List.mem_of_getElem? (i := 235) rfl) rfl
theorem m_1436 : Jvm.Cond.instanceMethod yX10_isGrounded ∈ lw_all := lw_c6 (List.mem_of_getElem? (i := 236) rfl) rfl
theorem m_1437 : Jvm.Cond.selects "SilkloftModel" yX10_isGrounded yX10_isGrounded ∈ lw_all := lw_c6 (List.mem_of_getElem? (i := 237) rfl) rfl
theorem m_1438 : Jvm.Cond.code yX10_isGrounded prog_12_method_48_code 2 (Option.some Jvm.ClassFile.FieldType.boolean) ∈ lw_all := lw_c6 (List.mem_of_getElem? (i := 238) rfl) rfl
theorem m_1439 : Jvm.Cond.methodLink "SilkloftLaw" 215 yX10_isOut ∈ lw_all := lw_c6 (List.mem_of_getElem? (i := 239) rfl) rfl
theorem m_1440 : Jvm.Cond.instanceMethod yX10_isOut ∈ lw_all := lw_c7 (List.mem_of_getElem? (i := 0) rfl) rfl
theorem m_1441 : Jvm.Cond.selects "SilkloftModel" yX10_isOut yX10_isOut ∈ lw_all := lw_c7 (List.mem_of_getElem? (i := 1) rfl) rfl
theorem m_1442 : Jvm.Cond.code yX10_isOut prog_12_method_49_code 2 (Option.some Jvm.ClassFile.FieldType.boolean) ∈ lw_all := lw_c7 (List.mem_of_getElem? (i := 2) rfl) rfl
theorem m_1443 : Jvm.Cond.methodLink "SilkloftLaw" 218 yX10_packings ∈ lw_all := lw_c7 (List.mem_of_getElem? (i := 3) rfl) rfl
theorem m_1444 : Jvm.Cond.instanceMethod yX10_packings ∈ lw_all := lw_c7 (List.mem_of_getElem? (i := 4) rfl) rfl
theorem m_1445 : Jvm.Cond.selects "SilkloftModel" yX10_packings yX10_packings ∈ lw_all := lw_c7 (List.mem_of_getElem? (i := 5) rfl) rfl
theorem m_1446 : Jvm.Cond.code yX10_packings prog_12_method_51_code 2 (Option.some Jvm.ClassFile.FieldType.int) ∈ lw_all := lw_c7 (List.mem_of_getElem? (i := 6) rfl) rfl
theorem m_1447 : Jvm.Cond.methodLink "SilkloftModel" 238 yX10_packsOf ∈ lw_all := lw_c7 (List.mem_of_getElem? (i := 7) rfl) rfl
theorem m_1449 : Jvm.Cond.instanceMethod yX10_packsOf ∈ lw_all := lw_c7 (List.mem_of_getElem? (i := 9) rfl) rfl
theorem m_1450 : Jvm.Cond.code yX10_packsOf prog_12_method_50_code 4 (Option.some Jvm.ClassFile.FieldType.int) ∈ lw_all := lw_c7 (List.mem_of_getElem? (i := 10) rfl) rfl
theorem m_1451 : Jvm.Cond.methodLink "SilkloftLaw" 222 yX10_packingOf ∈ lw_all := lw_c7 (List.mem_of_getElem? (i := 11) rfl) rfl
theorem m_1452 : Jvm.Cond.instanceMethod yX10_packingOf ∈ lw_all := lw_c7 (List.mem_of_getElem? (i := 12) rfl) rfl
theorem m_1453 : Jvm.Cond.selects "SilkloftModel" yX10_packingOf yX10_packingOf ∈ lw_all := lw_c7 (List.mem_of_getElem? (i := 13) rfl) rfl
theorem m_1454 : Jvm.Cond.code yX10_packingOf prog_12_method_52_code 6 (Option.some Jvm.ClassFile.FieldType.int) ∈ lw_all := lw_c7 (List.mem_of_getElem? (i := 14) rfl) rfl
theorem m_1455 : Jvm.Cond.methodLink "SilkloftLaw" 225 yX10_jumps ∈ lw_all := lw_c7 (List.mem_of_getElem? (i := 15) rfl) rfl
theorem m_1456 : Jvm.Cond.instanceMethod yX10_jumps ∈ lw_all := lw_c7 (List.mem_of_getElem? (i := 16) rfl) rfl
theorem m_1457 : Jvm.Cond.selects "SilkloftModel" yX10_jumps yX10_jumps ∈ lw_all := lw_c7 (List.mem_of_getElem? (i := 17) rfl) rfl
theorem m_1458 : Jvm.Cond.code yX10_jumps prog_12_method_53_code 2 (Option.some Jvm.ClassFile.FieldType.int) ∈ lw_all := lw_c7 (List.mem_of_getElem? (i := 18) rfl) rfl
theorem m_1459 : Jvm.Cond.methodLink "SilkloftLaw" 228 yX10_sharers ∈ lw_all := lw_c7 (List.mem_of_getElem? (i := 19) rfl) rfl
theorem m_1460 : Jvm.Cond.instanceMethod yX10_sharers ∈ lw_all := lw_c7 (List.mem_of_getElem? (i := 20) rfl) rfl
theorem m_1461 : Jvm.Cond.selects "SilkloftModel" yX10_sharers yX10_sharers ∈ lw_all := lw_c7 (List.mem_of_getElem? (i := 21) rfl) rfl
theorem m_1462 : Jvm.Cond.code yX10_sharers prog_12_method_54_code 6 (Option.some Jvm.ClassFile.FieldType.int) ∈ lw_all := lw_c7 (List.mem_of_getElem? (i := 22) rfl) rfl
theorem m_1463 : Jvm.Cond.methodLink "SilkloftLaw" 231 yX10_next ∈ lw_all := lw_c7 (List.mem_of_getElem? (i := 23) rfl) rfl
theorem m_1464 : Jvm.Cond.instanceMethod yX10_next ∈ lw_all := lw_c7 (List.mem_of_getElem? (i := 24) rfl) rfl
theorem m_1465 : Jvm.Cond.selects "SilkloftModel" yX10_next yX10_next ∈ lw_all := lw_c7 (List.mem_of_getElem? (i := 25) rfl) rfl
theorem m_1466 : Jvm.Cond.code yX10_next prog_12_method_55_code 3 (Option.some Jvm.ClassFile.FieldType.int) ∈ lw_all := lw_c7 (List.mem_of_getElem? (i := 26) rfl) rfl
theorem m_1467 : Jvm.Cond.methodLink "SilkloftLaw" 236 yX10_held ∈ lw_all := lw_c7 (List.mem_of_getElem? (i := 27) rfl) rfl
theorem m_1468 : Jvm.Cond.instanceMethod yX10_held ∈ lw_all := lw_c7 (List.mem_of_getElem? (i := 28) rfl) rfl
theorem m_1469 : Jvm.Cond.selects "SilkloftModel" yX10_held yX10_held ∈ lw_all := lw_c7 (List.mem_of_getElem? (i := 29) rfl) rfl
theorem m_1470 : Jvm.Cond.code yX10_held prog_12_method_56_code 4 (Option.some Jvm.ClassFile.FieldType.long) ∈ lw_all := lw_c7 (List.mem_of_getElem? (i := 30) rfl) rfl
theorem m_1471 : Jvm.Cond.methodLink "SilkloftLaw" 240 yX10_kept ∈ lw_all := lw_c7 (List.mem_of_getElem? (i := 31) rfl) rfl
theorem m_1472 : Jvm.Cond.instanceMethod yX10_kept ∈ lw_all := lw_c7 (List.mem_of_getElem? (i := 32) rfl) rfl
theorem m_1473 : Jvm.Cond.selects "SilkloftModel" yX10_kept yX10_kept ∈ lw_all := lw_c7 (List.mem_of_getElem? (i := 33) rfl) rfl
theorem m_1474 : Jvm.Cond.code yX10_kept prog_12_method_57_code 1 (Option.some Jvm.ClassFile.FieldType.long) ∈ lw_all := lw_c7 (List.mem_of_getElem? (i := 34) rfl) rfl
theorem m_1475 : Jvm.Cond.methodLink "SilkloftLaw" 244 yX10_groundedShare ∈ lw_all := lw_c7 (List.mem_of_getElem? (i := 35) rfl) rfl
theorem m_1476 : Jvm.Cond.instanceMethod yX10_groundedShare ∈ lw_all := lw_c7 (List.mem_of_getElem? (i := 36) rfl) rfl
theorem m_1477 : Jvm.Cond.selects "SilkloftModel" yX10_groundedShare yX10_groundedShare ∈ lw_all := lw_c7 (List.mem_of_getElem? (i := 37) rfl) rfl
theorem m_1478 : Jvm.Cond.code yX10_groundedShare prog_12_method_58_code 3 (Option.some Jvm.ClassFile.FieldType.float) ∈ lw_all := lw_c7 (List.mem_of_getElem? (i := 38) rfl) rfl
theorem m_1479 : Jvm.Cond.methodLink "SilkloftLaw" 247 yX10_meanDrops ∈ lw_all := lw_c7 (List.mem_of_getElem? (i := 39) rfl) rfl
theorem m_1480 : Jvm.Cond.instanceMethod yX10_meanDrops ∈ lw_all := lw_c7 (List.mem_of_getElem? (i := 40) rfl) rfl
theorem m_1481 : Jvm.Cond.selects "SilkloftModel" yX10_meanDrops yX10_meanDrops ∈ lw_all := lw_c7 (List.mem_of_getElem? (i := 41) rfl) rfl
theorem m_1482 : Jvm.Cond.code yX10_meanDrops prog_12_method_59_code 3 (Option.some Jvm.ClassFile.FieldType.double) ∈ lw_all := lw_c7 (List.mem_of_getElem? (i := 42) rfl) rfl
theorem m_1483 : Jvm.Cond.methodLink "SilkloftLaw" 252 yX10_isSound ∈ lw_all := lw_c7 (List.mem_of_getElem? (i := 43) rfl) rfl
theorem m_1484 : Jvm.Cond.instanceMethod yX10_isSound ∈ lw_all := lw_c7 (List.mem_of_getElem? (i := 44) rfl) rfl
theorem m_1485 : Jvm.Cond.selects "SilkloftModel" yX10_isSound yX10_isSound ∈ lw_all := lw_c7 (List.mem_of_getElem? (i := 45) rfl) rfl
theorem m_1486 : Jvm.Cond.code yX10_isSound prog_12_method_60_code 1 (Option.some Jvm.ClassFile.FieldType.boolean) ∈ lw_all := lw_c7 (List.mem_of_getElem? (i := 46) rfl) rfl
theorem m_1487 : Jvm.Cond.arrayClass Jvm.ClassFile.FieldType.long ∈ lw_all := lw_c7 (List.mem_of_getElem? (i := 47) rfl) rfl
theorem m_1488 : Jvm.Cond.arrayClass Jvm.ClassFile.FieldType.double ∈ lw_all := lw_c7 (List.mem_of_getElem? (i := 48) rfl) rfl
theorem s_0 : Jvm.Cond.selects RX5 yX5_daysLeft yX5_daysLeft ∈ lw_all := lw_sel (List.mem_of_getElem? (l := lw_privs) (i := 0) rfl)
theorem s_1 : Jvm.Cond.selects RX5 yX5_isReachedBy yX5_isReachedBy ∈ lw_all := lw_sel (List.mem_of_getElem? (l := lw_privs) (i := 1) rfl)
theorem s_2 : Jvm.Cond.selects RX5 yX5_isFreeOf yX5_isFreeOf ∈ lw_all := lw_sel (List.mem_of_getElem? (l := lw_privs) (i := 2) rfl)
theorem s_3 : Jvm.Cond.selects RX5 yX5_enrol yX5_enrol ∈ lw_all := lw_sel (List.mem_of_getElem? (l := lw_privs) (i := 3) rfl)
theorem s_4 : Jvm.Cond.selects RX5 yX5_relicense yX5_relicense ∈ lw_all := lw_sel (List.mem_of_getElem? (l := lw_privs) (i := 4) rfl)
theorem s_5 : Jvm.Cond.selects RX5 yX5_enter yX5_enter ∈ lw_all := lw_sel (List.mem_of_getElem? (l := lw_privs) (i := 5) rfl)
theorem s_6 : Jvm.Cond.selects RX5 yX5_changePeriod yX5_changePeriod ∈ lw_all := lw_sel (List.mem_of_getElem? (l := lw_privs) (i := 6) rfl)
theorem s_7 : Jvm.Cond.selects RX5 yX5_letDaysPass yX5_letDaysPass ∈ lw_all := lw_sel (List.mem_of_getElem? (l := lw_privs) (i := 7) rfl)
theorem s_8 : Jvm.Cond.selects RX5 yX5_putOnHook yX5_putOnHook ∈ lw_all := lw_sel (List.mem_of_getElem? (l := lw_privs) (i := 8) rfl)
theorem s_9 : Jvm.Cond.selects RX5 yX5_doStep yX5_doStep ∈ lw_all := lw_sel (List.mem_of_getElem? (l := lw_privs) (i := 9) rfl)
theorem s_10 : Jvm.Cond.selects RX5 yX5_endPacking yX5_endPacking ∈ lw_all := lw_sel (List.mem_of_getElem? (l := lw_privs) (i := 10) rfl)
theorem s_11 : Jvm.Cond.selects RX5 yX5_takeOffHook yX5_takeOffHook ∈ lw_all := lw_sel (List.mem_of_getElem? (l := lw_privs) (i := 11) rfl)
theorem s_12 : Jvm.Cond.selects RX5 yX5_beginLoad yX5_beginLoad ∈ lw_all := lw_sel (List.mem_of_getElem? (l := lw_privs) (i := 12) rfl)
theorem s_13 : Jvm.Cond.selects RX5 yX5_putAboard yX5_putAboard ∈ lw_all := lw_sel (List.mem_of_getElem? (l := lw_privs) (i := 13) rfl)
theorem s_14 : Jvm.Cond.selects RX5 yX5_takeLastOff yX5_takeLastOff ∈ lw_all := lw_sel (List.mem_of_getElem? (l := lw_privs) (i := 14) rfl)
theorem s_15 : Jvm.Cond.selects RX5 yX5_letJump yX5_letJump ∈ lw_all := lw_sel (List.mem_of_getElem? (l := lw_privs) (i := 15) rfl)
theorem s_16 : Jvm.Cond.selects RX5 yX5_noteFinding yX5_noteFinding ∈ lw_all := lw_sel (List.mem_of_getElem? (l := lw_privs) (i := 16) rfl)
theorem s_17 : Jvm.Cond.selects RX5 yX5_raiseLevel yX5_raiseLevel ∈ lw_all := lw_sel (List.mem_of_getElem? (l := lw_privs) (i := 17) rfl)
theorem s_18 : Jvm.Cond.selects RX5 yX5_noteCause yX5_noteCause ∈ lw_all := lw_sel (List.mem_of_getElem? (l := lw_privs) (i := 18) rfl)
theorem s_19 : Jvm.Cond.selects RX5 yX5_shut yX5_shut ∈ lw_all := lw_sel (List.mem_of_getElem? (l := lw_privs) (i := 19) rfl)
theorem s_20 : Jvm.Cond.selects RX5 yX5_mend yX5_mend ∈ lw_all := lw_sel (List.mem_of_getElem? (l := lw_privs) (i := 20) rfl)
theorem s_21 : Jvm.Cond.selects RX5 yX5_tryOut yX5_tryOut ∈ lw_all := lw_sel (List.mem_of_getElem? (l := lw_privs) (i := 21) rfl)
theorem s_22 : Jvm.Cond.selects RX5 yX5_noteFindingIfRoom yX5_noteFindingIfRoom ∈ lw_all := lw_sel (List.mem_of_getElem? (l := lw_privs) (i := 22) rfl)
theorem s_23 : Jvm.Cond.selects RX5 yX5_handOut yX5_handOut ∈ lw_all := lw_sel (List.mem_of_getElem? (l := lw_privs) (i := 23) rfl)
theorem s_24 : Jvm.Cond.selects RX5 yX5_takeIn yX5_takeIn ∈ lw_all := lw_sel (List.mem_of_getElem? (l := lw_privs) (i := 24) rfl)
theorem s_25 : Jvm.Cond.selects RX5 yX5_hasRiggersLike yX5_hasRiggersLike ∈ lw_all := lw_sel (List.mem_of_getElem? (l := lw_privs) (i := 25) rfl)
theorem s_26 : Jvm.Cond.selects RX5 yX5_hasCanopiesLike yX5_hasCanopiesLike ∈ lw_all := lw_sel (List.mem_of_getElem? (l := lw_privs) (i := 26) rfl)
theorem s_27 : Jvm.Cond.selects RX1 yX1_isMadeLike yX1_isMadeLike ∈ lw_all := lw_sel (List.mem_of_getElem? (l := lw_privs) (i := 27) rfl)
theorem s_28 : Jvm.Cond.selects RX1 yX1_isPackedLike yX1_isPackedLike ∈ lw_all := lw_sel (List.mem_of_getElem? (l := lw_privs) (i := 28) rfl)
theorem s_29 : Jvm.Cond.selects RX1 yX1_isTriedLike yX1_isTriedLike ∈ lw_all := lw_sel (List.mem_of_getElem? (l := lw_privs) (i := 29) rfl)
theorem s_30 : Jvm.Cond.selects RX5 yX5_hasLoadsLike yX5_hasLoadsLike ∈ lw_all := lw_sel (List.mem_of_getElem? (l := lw_privs) (i := 30) rfl)
theorem s_31 : Jvm.Cond.selects RX5 yX5_hasFindingsLike yX5_hasFindingsLike ∈ lw_all := lw_sel (List.mem_of_getElem? (l := lw_privs) (i := 31) rfl)
theorem s_32 : Jvm.Cond.selects RX9 yX9_act yX9_act ∈ lw_all := lw_sel (List.mem_of_getElem? (l := lw_privs) (i := 32) rfl)
theorem s_33 : Jvm.Cond.selects "java/lang/Throwable" ⟨"java/lang/Throwable", "fillInStackTrace", "(I)Ljava/lang/Throwable;"⟩ ⟨"java/lang/Throwable", "fillInStackTrace", "(I)Ljava/lang/Throwable;"⟩ ∈ lw_all := lw_sel (List.mem_of_getElem? (l := lw_privs) (i := 33) rfl)
theorem s_34 : Jvm.Cond.selects RX9 yX9_canopyAt yX9_canopyAt ∈ lw_all := lw_sel (List.mem_of_getElem? (l := lw_privs) (i := 34) rfl)
theorem s_35 : Jvm.Cond.selects RX0 yX0_numberOf yX0_numberOf ∈ lw_all := lw_sel (List.mem_of_getElem? (l := lw_privs) (i := 35) rfl)
theorem s_36 : Jvm.Cond.selects RX10 yX10_fails yX10_fails ∈ lw_all := lw_sel (List.mem_of_getElem? (l := lw_privs) (i := 36) rfl)
theorem s_37 : Jvm.Cond.selects RX10 yX10_tell yX10_tell ∈ lw_all := lw_sel (List.mem_of_getElem? (l := lw_privs) (i := 37) rfl)
theorem s_38 : Jvm.Cond.selects RX10 yX10_isRigger yX10_isRigger ∈ lw_all := lw_sel (List.mem_of_getElem? (l := lw_privs) (i := 38) rfl)
theorem s_39 : Jvm.Cond.selects RX10 yX10_isCanopy yX10_isCanopy ∈ lw_all := lw_sel (List.mem_of_getElem? (l := lw_privs) (i := 39) rfl)
theorem s_40 : Jvm.Cond.selects RX10 yX10_isUsed yX10_isUsed ∈ lw_all := lw_sel (List.mem_of_getElem? (l := lw_privs) (i := 40) rfl)
theorem s_41 : Jvm.Cond.selects RX10 yX10_hooksUsed yX10_hooksUsed ∈ lw_all := lw_sel (List.mem_of_getElem? (l := lw_privs) (i := 41) rfl)
theorem s_42 : Jvm.Cond.selects RX10 yX10_may yX10_may ∈ lw_all := lw_sel (List.mem_of_getElem? (l := lw_privs) (i := 42) rfl)
theorem s_43 : Jvm.Cond.selects RX10 yX10_finishes yX10_finishes ∈ lw_all := lw_sel (List.mem_of_getElem? (l := lw_privs) (i := 43) rfl)
theorem s_44 : Jvm.Cond.selects RX10 yX10_finds yX10_finds ∈ lw_all := lw_sel (List.mem_of_getElem? (l := lw_privs) (i := 44) rfl)
theorem s_45 : Jvm.Cond.selects RX10 yX10_isFinding yX10_isFinding ∈ lw_all := lw_sel (List.mem_of_getElem? (l := lw_privs) (i := 45) rfl)
theorem s_46 : Jvm.Cond.selects RX10 yX10_refuses yX10_refuses ∈ lw_all := lw_sel (List.mem_of_getElem? (l := lw_privs) (i := 46) rfl)
theorem s_47 : Jvm.Cond.selects RX10 yX10_tells yX10_tells ∈ lw_all := lw_sel (List.mem_of_getElem? (l := lw_privs) (i := 47) rfl)
theorem s_48 : Jvm.Cond.selects RX10 yX10_reaches yX10_reaches ∈ lw_all := lw_sel (List.mem_of_getElem? (l := lw_privs) (i := 48) rfl)
theorem s_49 : Jvm.Cond.selects RX10 yX10_sharesHook yX10_sharesHook ∈ lw_all := lw_sel (List.mem_of_getElem? (l := lw_privs) (i := 49) rfl)
theorem s_50 : Jvm.Cond.selects RX10 yX10_sharesRigger yX10_sharesRigger ∈ lw_all := lw_sel (List.mem_of_getElem? (l := lw_privs) (i := 50) rfl)
theorem s_51 : Jvm.Cond.selects RX10 yX10_isFree yX10_isFree ∈ lw_all := lw_sel (List.mem_of_getElem? (l := lw_privs) (i := 51) rfl)
theorem s_52 : Jvm.Cond.selects RX10 yX10_isLoad yX10_isLoad ∈ lw_all := lw_sel (List.mem_of_getElem? (l := lw_privs) (i := 52) rfl)
theorem s_53 : Jvm.Cond.selects RX10 yX10_isFit yX10_isFit ∈ lw_all := lw_sel (List.mem_of_getElem? (l := lw_privs) (i := 53) rfl)
theorem s_54 : Jvm.Cond.selects RX10 yX10_isHeldDown yX10_isHeldDown ∈ lw_all := lw_sel (List.mem_of_getElem? (l := lw_privs) (i := 54) rfl)
theorem s_55 : Jvm.Cond.selects RX10 yX10_isOld yX10_isOld ∈ lw_all := lw_sel (List.mem_of_getElem? (l := lw_privs) (i := 55) rfl)
theorem s_56 : Jvm.Cond.selects RX10 yX10_isReady yX10_isReady ∈ lw_all := lw_sel (List.mem_of_getElem? (l := lw_privs) (i := 56) rfl)
theorem s_57 : Jvm.Cond.selects RX10 yX10_areFit yX10_areFit ∈ lw_all := lw_sel (List.mem_of_getElem? (l := lw_privs) (i := 57) rfl)
theorem s_58 : Jvm.Cond.selects RX10 yX10_packsOf yX10_packsOf ∈ lw_all := lw_sel (List.mem_of_getElem? (l := lw_privs) (i := 58) rfl)
