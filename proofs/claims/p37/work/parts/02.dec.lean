theorem dX0_init_0 : decode cX0_init 0 = .ok (.aload_n 0, 1) := by decide +kernel
theorem dX0_init_1 : decode cX0_init 1 = .ok (.invokespecial 3, 3) := by decide +kernel
theorem dX0_init_4 : decode cX0_init 4 = .ok (.aload_n 0, 1) := by decide +kernel
theorem dX0_init_5 : decode cX0_init 5 = .ok (.bipush 86, 2) := by decide +kernel
theorem dX0_init_7 : decode cX0_init 7 = .ok (.newarray .int, 2) := by decide +kernel
theorem dX0_init_9 : decode cX0_init 9 = .ok (.putfield 9, 3) := by decide +kernel
theorem dX0_init_12 : decode cX0_init 12 = .ok (.aload_n 0, 1) := by decide +kernel
theorem dX0_init_13 : decode cX0_init 13 = .ok (.bipush 86, 2) := by decide +kernel
theorem dX0_init_15 : decode cX0_init 15 = .ok (.newarray .int, 2) := by decide +kernel
theorem dX0_init_17 : decode cX0_init 17 = .ok (.putfield 15, 3) := by decide +kernel
theorem dX0_init_20 : decode cX0_init 20 = .ok (.aload_n 0, 1) := by decide +kernel
theorem dX0_init_21 : decode cX0_init 21 = .ok (.bipush 86, 2) := by decide +kernel
theorem dX0_init_23 : decode cX0_init 23 = .ok (.newarray .int, 2) := by decide +kernel
theorem dX0_init_25 : decode cX0_init 25 = .ok (.putfield 18, 3) := by decide +kernel
theorem dX0_init_28 : decode cX0_init 28 = .ok (.aload_n 0, 1) := by decide +kernel
theorem dX0_init_29 : decode cX0_init 29 = .ok (.sipush 430, 3) := by decide +kernel
theorem dX0_init_32 : decode cX0_init 32 = .ok (.newarray .int, 2) := by decide +kernel
theorem dX0_init_34 : decode cX0_init 34 = .ok (.putfield 21, 3) := by decide +kernel
theorem dX0_init_37 : decode cX0_init 37 = .ok (.return_, 1) := by decide +kernel
theorem dX0_write_0 : decode cX0_write 0 = .ok (.aload_n 0, 1) := by decide +kernel
theorem dX0_write_1 : decode cX0_write 1 = .ok (.getfield 24, 3) := by decide +kernel
theorem dX0_write_4 : decode cX0_write 4 = .ok (.bipush 86, 2) := by decide +kernel
theorem dX0_write_6 : decode cX0_write 6 = .ok (.if_icmp .ge 10, 3) := by decide +kernel
theorem dX0_write_9 : decode cX0_write 9 = .ok (.aload 4, 2) := by decide +kernel
theorem dX0_write_11 : decode cX0_write 11 = .ok (.arraylength, 1) := by decide +kernel
theorem dX0_write_12 : decode cX0_write 12 = .ok (.iconst 5, 1) := by decide +kernel
theorem dX0_write_13 : decode cX0_write 13 = .ok (.if_icmp .ge 5, 3) := by decide +kernel
theorem dX0_write_16 : decode cX0_write 16 = .ok (.iconst (-1), 1) := by decide +kernel
theorem dX0_write_17 : decode cX0_write 17 = .ok (.ireturn, 1) := by decide +kernel
theorem dX0_write_18 : decode cX0_write 18 = .ok (.aload_n 0, 1) := by decide +kernel
theorem dX0_write_19 : decode cX0_write 19 = .ok (.getfield 9, 3) := by decide +kernel
theorem dX0_write_22 : decode cX0_write 22 = .ok (.aload_n 0, 1) := by decide +kernel
theorem dX0_write_23 : decode cX0_write 23 = .ok (.getfield 24, 3) := by decide +kernel
theorem dX0_write_26 : decode cX0_write 26 = .ok (.iload_n 1, 1) := by decide +kernel
theorem dX0_write_27 : decode cX0_write 27 = .ok (.iastore, 1) := by decide +kernel
theorem dX0_write_28 : decode cX0_write 28 = .ok (.aload_n 0, 1) := by decide +kernel
theorem dX0_write_29 : decode cX0_write 29 = .ok (.getfield 15, 3) := by decide +kernel
theorem dX0_write_32 : decode cX0_write 32 = .ok (.aload_n 0, 1) := by decide +kernel
theorem dX0_write_33 : decode cX0_write 33 = .ok (.getfield 24, 3) := by decide +kernel
theorem dX0_write_36 : decode cX0_write 36 = .ok (.iload_n 2, 1) := by decide +kernel
theorem dX0_write_37 : decode cX0_write 37 = .ok (.iastore, 1) := by decide +kernel
theorem dX0_write_38 : decode cX0_write 38 = .ok (.aload_n 0, 1) := by decide +kernel
theorem dX0_write_39 : decode cX0_write 39 = .ok (.getfield 18, 3) := by decide +kernel
theorem dX0_write_42 : decode cX0_write 42 = .ok (.aload_n 0, 1) := by decide +kernel
theorem dX0_write_43 : decode cX0_write 43 = .ok (.getfield 24, 3) := by decide +kernel
theorem dX0_write_46 : decode cX0_write 46 = .ok (.iload_n 3, 1) := by decide +kernel
theorem dX0_write_47 : decode cX0_write 47 = .ok (.iastore, 1) := by decide +kernel
theorem dX0_write_48 : decode cX0_write 48 = .ok (.iconst 0, 1) := by decide +kernel
theorem dX0_write_49 : decode cX0_write 49 = .ok (.istore 5, 2) := by decide +kernel
theorem dX0_write_51 : decode cX0_write 51 = .ok (.iload 5, 2) := by decide +kernel
theorem dX0_write_53 : decode cX0_write 53 = .ok (.iconst 5, 1) := by decide +kernel
theorem dX0_write_54 : decode cX0_write 54 = .ok (.if_icmp .ge 28, 3) := by decide +kernel
theorem dX0_write_57 : decode cX0_write 57 = .ok (.aload_n 0, 1) := by decide +kernel
theorem dX0_write_58 : decode cX0_write 58 = .ok (.getfield 21, 3) := by decide +kernel
theorem dX0_write_61 : decode cX0_write 61 = .ok (.aload_n 0, 1) := by decide +kernel
theorem dX0_write_62 : decode cX0_write 62 = .ok (.getfield 24, 3) := by decide +kernel
theorem dX0_write_65 : decode cX0_write 65 = .ok (.iconst 5, 1) := by decide +kernel
theorem dX0_write_66 : decode cX0_write 66 = .ok (.imul, 1) := by decide +kernel
theorem dX0_write_67 : decode cX0_write 67 = .ok (.iload 5, 2) := by decide +kernel
theorem dX0_write_69 : decode cX0_write 69 = .ok (.iadd, 1) := by decide +kernel
theorem dX0_write_70 : decode cX0_write 70 = .ok (.aload 4, 2) := by decide +kernel
theorem dX0_write_72 : decode cX0_write 72 = .ok (.iload 5, 2) := by decide +kernel
theorem dX0_write_74 : decode cX0_write 74 = .ok (.iaload, 1) := by decide +kernel
theorem dX0_write_75 : decode cX0_write 75 = .ok (.iastore, 1) := by decide +kernel
theorem dX0_write_76 : decode cX0_write 76 = .ok (.iinc 5 1, 3) := by decide +kernel
theorem dX0_write_79 : decode cX0_write 79 = .ok (.goto (-28), 3) := by decide +kernel
theorem dX0_write_82 : decode cX0_write 82 = .ok (.aload_n 0, 1) := by decide +kernel
theorem dX0_write_83 : decode cX0_write 83 = .ok (.dup, 1) := by decide +kernel
theorem dX0_write_84 : decode cX0_write 84 = .ok (.getfield 24, 3) := by decide +kernel
theorem dX0_write_87 : decode cX0_write 87 = .ok (.iconst 1, 1) := by decide +kernel
theorem dX0_write_88 : decode cX0_write 88 = .ok (.iadd, 1) := by decide +kernel
theorem dX0_write_89 : decode cX0_write 89 = .ok (.putfield 24, 3) := by decide +kernel
theorem dX0_write_92 : decode cX0_write 92 = .ok (.aload_n 0, 1) := by decide +kernel
theorem dX0_write_93 : decode cX0_write 93 = .ok (.getfield 24, 3) := by decide +kernel
theorem dX0_write_96 : decode cX0_write 96 = .ok (.iconst 1, 1) := by decide +kernel
theorem dX0_write_97 : decode cX0_write 97 = .ok (.isub, 1) := by decide +kernel
theorem dX0_write_98 : decode cX0_write 98 = .ok (.ireturn, 1) := by decide +kernel
theorem dX0_has_0 : decode cX0_has 0 = .ok (.iload_n 1, 1) := by decide +kernel
theorem dX0_has_1 : decode cX0_has 1 = .ok (.ifCond .lt 15, 3) := by decide +kernel
theorem dX0_has_4 : decode cX0_has 4 = .ok (.iload_n 1, 1) := by decide +kernel
theorem dX0_has_5 : decode cX0_has 5 = .ok (.aload_n 0, 1) := by decide +kernel
theorem dX0_has_6 : decode cX0_has 6 = .ok (.getfield 24, 3) := by decide +kernel
theorem dX0_has_9 : decode cX0_has 9 = .ok (.if_icmp .ge 7, 3) := by decide +kernel
theorem dX0_has_12 : decode cX0_has 12 = .ok (.iconst 1, 1) := by decide +kernel
theorem dX0_has_13 : decode cX0_has 13 = .ok (.goto 4, 3) := by decide +kernel
theorem dX0_has_16 : decode cX0_has 16 = .ok (.iconst 0, 1) := by decide +kernel
theorem dX0_has_17 : decode cX0_has 17 = .ok (.ireturn, 1) := by decide +kernel
theorem dX0_handsOf_0 : decode cX0_handsOf 0 = .ok (.lconst 0, 1) := by decide +kernel
theorem dX0_handsOf_1 : decode cX0_handsOf 1 = .ok (.lstore_n 2, 1) := by decide +kernel
theorem dX0_handsOf_2 : decode cX0_handsOf 2 = .ok (.iconst 0, 1) := by decide +kernel
theorem dX0_handsOf_3 : decode cX0_handsOf 3 = .ok (.istore 4, 2) := by decide +kernel
theorem dX0_handsOf_5 : decode cX0_handsOf 5 = .ok (.iload 4, 2) := by decide +kernel
theorem dX0_handsOf_7 : decode cX0_handsOf 7 = .ok (.iconst 5, 1) := by decide +kernel
theorem dX0_handsOf_8 : decode cX0_handsOf 8 = .ok (.if_icmp .ge 31, 3) := by decide +kernel
theorem dX0_handsOf_11 : decode cX0_handsOf 11 = .ok (.lload_n 2, 1) := by decide +kernel
theorem dX0_handsOf_12 : decode cX0_handsOf 12 = .ok (.lconst 1, 1) := by decide +kernel
theorem dX0_handsOf_13 : decode cX0_handsOf 13 = .ok (.bipush 8, 2) := by decide +kernel
theorem dX0_handsOf_15 : decode cX0_handsOf 15 = .ok (.iload 4, 2) := by decide +kernel
theorem dX0_handsOf_17 : decode cX0_handsOf 17 = .ok (.imul, 1) := by decide +kernel
theorem dX0_handsOf_18 : decode cX0_handsOf 18 = .ok (.aload_n 0, 1) := by decide +kernel
theorem dX0_handsOf_19 : decode cX0_handsOf 19 = .ok (.getfield 21, 3) := by decide +kernel
theorem dX0_handsOf_22 : decode cX0_handsOf 22 = .ok (.iload_n 1, 1) := by decide +kernel
theorem dX0_handsOf_23 : decode cX0_handsOf 23 = .ok (.iconst 5, 1) := by decide +kernel
theorem dX0_handsOf_24 : decode cX0_handsOf 24 = .ok (.imul, 1) := by decide +kernel
theorem dX0_handsOf_25 : decode cX0_handsOf 25 = .ok (.iload 4, 2) := by decide +kernel
theorem dX0_handsOf_27 : decode cX0_handsOf 27 = .ok (.iadd, 1) := by decide +kernel
theorem dX0_handsOf_28 : decode cX0_handsOf 28 = .ok (.iaload, 1) := by decide +kernel
theorem dX0_handsOf_29 : decode cX0_handsOf 29 = .ok (.iadd, 1) := by decide +kernel
theorem dX0_handsOf_30 : decode cX0_handsOf 30 = .ok (.lshl, 1) := by decide +kernel
theorem dX0_handsOf_31 : decode cX0_handsOf 31 = .ok (.lor, 1) := by decide +kernel
theorem dX0_handsOf_32 : decode cX0_handsOf 32 = .ok (.lstore_n 2, 1) := by decide +kernel
theorem dX0_handsOf_33 : decode cX0_handsOf 33 = .ok (.iinc 4 1, 3) := by decide +kernel
theorem dX0_handsOf_36 : decode cX0_handsOf 36 = .ok (.goto (-31), 3) := by decide +kernel
theorem dX0_handsOf_39 : decode cX0_handsOf 39 = .ok (.lload_n 2, 1) := by decide +kernel
theorem dX0_handsOf_40 : decode cX0_handsOf 40 = .ok (.lreturn, 1) := by decide +kernel
theorem dX0_lookUp_0 : decode cX0_lookUp 0 = .ok (.aload_n 0, 1) := by decide +kernel
theorem dX0_lookUp_1 : decode cX0_lookUp 1 = .ok (.iload_n 1, 1) := by decide +kernel
theorem dX0_lookUp_2 : decode cX0_lookUp 2 = .ok (.iload_n 2, 1) := by decide +kernel
theorem dX0_lookUp_3 : decode cX0_lookUp 3 = .ok (.invokevirtual 28, 3) := by decide +kernel
theorem dX0_lookUp_6 : decode cX0_lookUp 6 = .ok (.istore 4, 2) := by decide +kernel
theorem dX0_lookUp_8 : decode cX0_lookUp 8 = .ok (.aload_n 0, 1) := by decide +kernel
theorem dX0_lookUp_9 : decode cX0_lookUp 9 = .ok (.iload 4, 2) := by decide +kernel
theorem dX0_lookUp_11 : decode cX0_lookUp 11 = .ok (.invokevirtual 32, 3) := by decide +kernel
theorem dX0_lookUp_14 : decode cX0_lookUp 14 = .ok (.ifCond .ne 5, 3) := by decide +kernel
theorem dX0_lookUp_17 : decode cX0_lookUp 17 = .ok (.iconst 0, 1) := by decide +kernel
theorem dX0_lookUp_18 : decode cX0_lookUp 18 = .ok (.ireturn, 1) := by decide +kernel
theorem dX0_lookUp_19 : decode cX0_lookUp 19 = .ok (.iload_n 3, 1) := by decide +kernel
theorem dX0_lookUp_20 : decode cX0_lookUp 20 = .ok (.bipush 104, 2) := by decide +kernel
theorem dX0_lookUp_22 : decode cX0_lookUp 22 = .ok (.if_icmp .ne 11, 3) := by decide +kernel
theorem dX0_lookUp_25 : decode cX0_lookUp 25 = .ok (.aload_n 0, 1) := by decide +kernel
theorem dX0_lookUp_26 : decode cX0_lookUp 26 = .ok (.getfield 15, 3) := by decide +kernel
theorem dX0_lookUp_29 : decode cX0_lookUp 29 = .ok (.iload 4, 2) := by decide +kernel
theorem dX0_lookUp_31 : decode cX0_lookUp 31 = .ok (.iaload, 1) := by decide +kernel
theorem dX0_lookUp_32 : decode cX0_lookUp 32 = .ok (.ireturn, 1) := by decide +kernel
theorem dX0_lookUp_33 : decode cX0_lookUp 33 = .ok (.iload_n 3, 1) := by decide +kernel
theorem dX0_lookUp_34 : decode cX0_lookUp 34 = .ok (.bipush 100, 2) := by decide +kernel
theorem dX0_lookUp_36 : decode cX0_lookUp 36 = .ok (.if_icmp .ne 11, 3) := by decide +kernel
theorem dX0_lookUp_39 : decode cX0_lookUp 39 = .ok (.aload_n 0, 1) := by decide +kernel
theorem dX0_lookUp_40 : decode cX0_lookUp 40 = .ok (.getfield 18, 3) := by decide +kernel
theorem dX0_lookUp_43 : decode cX0_lookUp 43 = .ok (.iload 4, 2) := by decide +kernel
theorem dX0_lookUp_45 : decode cX0_lookUp 45 = .ok (.iaload, 1) := by decide +kernel
theorem dX0_lookUp_46 : decode cX0_lookUp 46 = .ok (.ireturn, 1) := by decide +kernel
theorem dX0_lookUp_47 : decode cX0_lookUp 47 = .ok (.iload_n 3, 1) := by decide +kernel
theorem dX0_lookUp_48 : decode cX0_lookUp 48 = .ok (.bipush 48, 2) := by decide +kernel
theorem dX0_lookUp_50 : decode cX0_lookUp 50 = .ok (.isub, 1) := by decide +kernel
theorem dX0_lookUp_51 : decode cX0_lookUp 51 = .ok (.istore 5, 2) := by decide +kernel
theorem dX0_lookUp_53 : decode cX0_lookUp 53 = .ok (.iload 5, 2) := by decide +kernel
theorem dX0_lookUp_55 : decode cX0_lookUp 55 = .ok (.ifCond .lt 9, 3) := by decide +kernel
theorem dX0_lookUp_58 : decode cX0_lookUp 58 = .ok (.iload 5, 2) := by decide +kernel
theorem dX0_lookUp_60 : decode cX0_lookUp 60 = .ok (.iconst 5, 1) := by decide +kernel
theorem dX0_lookUp_61 : decode cX0_lookUp 61 = .ok (.if_icmp .lt 5, 3) := by decide +kernel
theorem dX0_lookUp_64 : decode cX0_lookUp 64 = .ok (.iconst 0, 1) := by decide +kernel
theorem dX0_lookUp_65 : decode cX0_lookUp 65 = .ok (.ireturn, 1) := by decide +kernel
theorem dX0_lookUp_66 : decode cX0_lookUp 66 = .ok (.aload_n 0, 1) := by decide +kernel
theorem dX0_lookUp_67 : decode cX0_lookUp 67 = .ok (.getfield 21, 3) := by decide +kernel
theorem dX0_lookUp_70 : decode cX0_lookUp 70 = .ok (.iload 4, 2) := by decide +kernel
theorem dX0_lookUp_72 : decode cX0_lookUp 72 = .ok (.iconst 5, 1) := by decide +kernel
theorem dX0_lookUp_73 : decode cX0_lookUp 73 = .ok (.imul, 1) := by decide +kernel
theorem dX0_lookUp_74 : decode cX0_lookUp 74 = .ok (.iload 5, 2) := by decide +kernel
theorem dX0_lookUp_76 : decode cX0_lookUp 76 = .ok (.iadd, 1) := by decide +kernel
theorem dX0_lookUp_77 : decode cX0_lookUp 77 = .ok (.iaload, 1) := by decide +kernel
theorem dX0_lookUp_78 : decode cX0_lookUp 78 = .ok (.ireturn, 1) := by decide +kernel
theorem dX0_numberOf_0 : decode cX0_numberOf 0 = .ok (.iconst 0, 1) := by decide +kernel
theorem dX0_numberOf_1 : decode cX0_numberOf 1 = .ok (.istore_n 3, 1) := by decide +kernel
theorem dX0_numberOf_2 : decode cX0_numberOf 2 = .ok (.iconst 0, 1) := by decide +kernel
theorem dX0_numberOf_3 : decode cX0_numberOf 3 = .ok (.istore 4, 2) := by decide +kernel
theorem dX0_numberOf_5 : decode cX0_numberOf 5 = .ok (.iload 4, 2) := by decide +kernel
theorem dX0_numberOf_7 : decode cX0_numberOf 7 = .ok (.aload_n 0, 1) := by decide +kernel
theorem dX0_numberOf_8 : decode cX0_numberOf 8 = .ok (.getfield 24, 3) := by decide +kernel
theorem dX0_numberOf_11 : decode cX0_numberOf 11 = .ok (.if_icmp .ge 31, 3) := by decide +kernel
theorem dX0_numberOf_14 : decode cX0_numberOf 14 = .ok (.aload_n 0, 1) := by decide +kernel
theorem dX0_numberOf_15 : decode cX0_numberOf 15 = .ok (.getfield 9, 3) := by decide +kernel
theorem dX0_numberOf_18 : decode cX0_numberOf 18 = .ok (.iload 4, 2) := by decide +kernel
theorem dX0_numberOf_20 : decode cX0_numberOf 20 = .ok (.iaload, 1) := by decide +kernel
theorem dX0_numberOf_21 : decode cX0_numberOf 21 = .ok (.iload_n 1, 1) := by decide +kernel
theorem dX0_numberOf_22 : decode cX0_numberOf 22 = .ok (.if_icmp .ne 14, 3) := by decide +kernel
theorem dX0_numberOf_25 : decode cX0_numberOf 25 = .ok (.iload_n 3, 1) := by decide +kernel
theorem dX0_numberOf_26 : decode cX0_numberOf 26 = .ok (.iload_n 2, 1) := by decide +kernel
theorem dX0_numberOf_27 : decode cX0_numberOf 27 = .ok (.if_icmp .ne 6, 3) := by decide +kernel
theorem dX0_numberOf_30 : decode cX0_numberOf 30 = .ok (.iload 4, 2) := by decide +kernel
theorem dX0_numberOf_32 : decode cX0_numberOf 32 = .ok (.ireturn, 1) := by decide +kernel
theorem dX0_numberOf_33 : decode cX0_numberOf 33 = .ok (.iinc 3 1, 3) := by decide +kernel
theorem dX0_numberOf_36 : decode cX0_numberOf 36 = .ok (.iinc 4 1, 3) := by decide +kernel
theorem dX0_numberOf_39 : decode cX0_numberOf 39 = .ok (.goto (-34), 3) := by decide +kernel
theorem dX0_numberOf_42 : decode cX0_numberOf 42 = .ok (.iconst (-1), 1) := by decide +kernel
theorem dX0_numberOf_43 : decode cX0_numberOf 43 = .ok (.ireturn, 1) := by decide +kernel
theorem dX0_isLike_0 : decode cX0_isLike 0 = .ok (.aload_n 0, 1) := by decide +kernel
theorem dX0_isLike_1 : decode cX0_isLike 1 = .ok (.getfield 24, 3) := by decide +kernel
theorem dX0_isLike_4 : decode cX0_isLike 4 = .ok (.aload_n 1, 1) := by decide +kernel
theorem dX0_isLike_5 : decode cX0_isLike 5 = .ok (.getfield 24, 3) := by decide +kernel
theorem dX0_isLike_8 : decode cX0_isLike 8 = .ok (.if_icmp .eq 5, 3) := by decide +kernel
theorem dX0_isLike_11 : decode cX0_isLike 11 = .ok (.iconst 0, 1) := by decide +kernel
theorem dX0_isLike_12 : decode cX0_isLike 12 = .ok (.ireturn, 1) := by decide +kernel
theorem dX0_isLike_13 : decode cX0_isLike 13 = .ok (.iconst 0, 1) := by decide +kernel
theorem dX0_isLike_14 : decode cX0_isLike 14 = .ok (.istore_n 2, 1) := by decide +kernel
theorem dX0_isLike_15 : decode cX0_isLike 15 = .ok (.iload_n 2, 1) := by decide +kernel
theorem dX0_isLike_16 : decode cX0_isLike 16 = .ok (.aload_n 0, 1) := by decide +kernel
theorem dX0_isLike_17 : decode cX0_isLike 17 = .ok (.getfield 24, 3) := by decide +kernel
theorem dX0_isLike_20 : decode cX0_isLike 20 = .ok (.if_icmp .ge 56, 3) := by decide +kernel
theorem dX0_isLike_23 : decode cX0_isLike 23 = .ok (.aload_n 0, 1) := by decide +kernel
theorem dX0_isLike_24 : decode cX0_isLike 24 = .ok (.getfield 9, 3) := by decide +kernel
theorem dX0_isLike_27 : decode cX0_isLike 27 = .ok (.iload_n 2, 1) := by decide +kernel
theorem dX0_isLike_28 : decode cX0_isLike 28 = .ok (.iaload, 1) := by decide +kernel
theorem dX0_isLike_29 : decode cX0_isLike 29 = .ok (.aload_n 1, 1) := by decide +kernel
theorem dX0_isLike_30 : decode cX0_isLike 30 = .ok (.getfield 9, 3) := by decide +kernel
theorem dX0_isLike_33 : decode cX0_isLike 33 = .ok (.iload_n 2, 1) := by decide +kernel
theorem dX0_isLike_34 : decode cX0_isLike 34 = .ok (.iaload, 1) := by decide +kernel
theorem dX0_isLike_35 : decode cX0_isLike 35 = .ok (.if_icmp .ne 33, 3) := by decide +kernel
theorem dX0_isLike_38 : decode cX0_isLike 38 = .ok (.aload_n 0, 1) := by decide +kernel
theorem dX0_isLike_39 : decode cX0_isLike 39 = .ok (.getfield 15, 3) := by decide +kernel
theorem dX0_isLike_42 : decode cX0_isLike 42 = .ok (.iload_n 2, 1) := by decide +kernel
theorem dX0_isLike_43 : decode cX0_isLike 43 = .ok (.iaload, 1) := by decide +kernel
theorem dX0_isLike_44 : decode cX0_isLike 44 = .ok (.aload_n 1, 1) := by decide +kernel
theorem dX0_isLike_45 : decode cX0_isLike 45 = .ok (.getfield 15, 3) := by decide +kernel
theorem dX0_isLike_48 : decode cX0_isLike 48 = .ok (.iload_n 2, 1) := by decide +kernel
theorem dX0_isLike_49 : decode cX0_isLike 49 = .ok (.iaload, 1) := by decide +kernel
theorem dX0_isLike_50 : decode cX0_isLike 50 = .ok (.if_icmp .ne 18, 3) := by decide +kernel
theorem dX0_isLike_53 : decode cX0_isLike 53 = .ok (.aload_n 0, 1) := by decide +kernel
theorem dX0_isLike_54 : decode cX0_isLike 54 = .ok (.getfield 18, 3) := by decide +kernel
theorem dX0_isLike_57 : decode cX0_isLike 57 = .ok (.iload_n 2, 1) := by decide +kernel
theorem dX0_isLike_58 : decode cX0_isLike 58 = .ok (.iaload, 1) := by decide +kernel
theorem dX0_isLike_59 : decode cX0_isLike 59 = .ok (.aload_n 1, 1) := by decide +kernel
theorem dX0_isLike_60 : decode cX0_isLike 60 = .ok (.getfield 18, 3) := by decide +kernel
theorem dX0_isLike_63 : decode cX0_isLike 63 = .ok (.iload_n 2, 1) := by decide +kernel
theorem dX0_isLike_64 : decode cX0_isLike 64 = .ok (.iaload, 1) := by decide +kernel
theorem dX0_isLike_65 : decode cX0_isLike 65 = .ok (.if_icmp .eq 5, 3) := by decide +kernel
theorem dX0_isLike_68 : decode cX0_isLike 68 = .ok (.iconst 0, 1) := by decide +kernel
theorem dX0_isLike_69 : decode cX0_isLike 69 = .ok (.ireturn, 1) := by decide +kernel
theorem dX0_isLike_70 : decode cX0_isLike 70 = .ok (.iinc 2 1, 3) := by decide +kernel
theorem dX0_isLike_73 : decode cX0_isLike 73 = .ok (.goto (-58), 3) := by decide +kernel
theorem dX0_isLike_76 : decode cX0_isLike 76 = .ok (.iconst 0, 1) := by decide +kernel
theorem dX0_isLike_77 : decode cX0_isLike 77 = .ok (.istore_n 2, 1) := by decide +kernel
theorem dX0_isLike_78 : decode cX0_isLike 78 = .ok (.iload_n 2, 1) := by decide +kernel
theorem dX0_isLike_79 : decode cX0_isLike 79 = .ok (.aload_n 0, 1) := by decide +kernel
theorem dX0_isLike_80 : decode cX0_isLike 80 = .ok (.getfield 24, 3) := by decide +kernel
theorem dX0_isLike_83 : decode cX0_isLike 83 = .ok (.iconst 5, 1) := by decide +kernel
theorem dX0_isLike_84 : decode cX0_isLike 84 = .ok (.imul, 1) := by decide +kernel
theorem dX0_isLike_85 : decode cX0_isLike 85 = .ok (.if_icmp .ge 26, 3) := by decide +kernel
theorem dX0_isLike_88 : decode cX0_isLike 88 = .ok (.aload_n 0, 1) := by decide +kernel
theorem dX0_isLike_89 : decode cX0_isLike 89 = .ok (.getfield 21, 3) := by decide +kernel
theorem dX0_isLike_92 : decode cX0_isLike 92 = .ok (.iload_n 2, 1) := by decide +kernel
theorem dX0_isLike_93 : decode cX0_isLike 93 = .ok (.iaload, 1) := by decide +kernel
theorem dX0_isLike_94 : decode cX0_isLike 94 = .ok (.aload_n 1, 1) := by decide +kernel
theorem dX0_isLike_95 : decode cX0_isLike 95 = .ok (.getfield 21, 3) := by decide +kernel
theorem dX0_isLike_98 : decode cX0_isLike 98 = .ok (.iload_n 2, 1) := by decide +kernel
theorem dX0_isLike_99 : decode cX0_isLike 99 = .ok (.iaload, 1) := by decide +kernel
theorem dX0_isLike_100 : decode cX0_isLike 100 = .ok (.if_icmp .eq 5, 3) := by decide +kernel
theorem dX0_isLike_103 : decode cX0_isLike 103 = .ok (.iconst 0, 1) := by decide +kernel
theorem dX0_isLike_104 : decode cX0_isLike 104 = .ok (.ireturn, 1) := by decide +kernel
theorem dX0_isLike_105 : decode cX0_isLike 105 = .ok (.iinc 2 1, 3) := by decide +kernel
theorem dX0_isLike_108 : decode cX0_isLike 108 = .ok (.goto (-30), 3) := by decide +kernel
theorem dX0_isLike_111 : decode cX0_isLike 111 = .ok (.iconst 1, 1) := by decide +kernel
theorem dX0_isLike_112 : decode cX0_isLike 112 = .ok (.ireturn, 1) := by decide +kernel
theorem dX1_init_0 : decode cX1_init 0 = .ok (.aload_n 0, 1) := by decide +kernel
theorem dX1_init_1 : decode cX1_init 1 = .ok (.invokespecial 3, 3) := by decide +kernel
theorem dX1_init_4 : decode cX1_init 4 = .ok (.aload_n 0, 1) := by decide +kernel
theorem dX1_init_5 : decode cX1_init 5 = .ok (.iconst 5, 1) := by decide +kernel
theorem dX1_init_6 : decode cX1_init 6 = .ok (.newarray .int, 2) := by decide +kernel
theorem dX1_init_8 : decode cX1_init 8 = .ok (.putfield 9, 3) := by decide +kernel
theorem dX1_init_11 : decode cX1_init 11 = .ok (.return_, 1) := by decide +kernel
theorem dX1_begin_0 : decode cX1_begin 0 = .ok (.aload_n 0, 1) := by decide +kernel
theorem dX1_begin_1 : decode cX1_begin 1 = .ok (.iload_n 1, 1) := by decide +kernel
theorem dX1_begin_2 : decode cX1_begin 2 = .ok (.putfield 15, 3) := by decide +kernel
theorem dX1_begin_5 : decode cX1_begin 5 = .ok (.aload_n 0, 1) := by decide +kernel
theorem dX1_begin_6 : decode cX1_begin 6 = .ok (.iload_n 2, 1) := by decide +kernel
theorem dX1_begin_7 : decode cX1_begin 7 = .ok (.putfield 19, 3) := by decide +kernel
theorem dX1_begin_10 : decode cX1_begin 10 = .ok (.aload_n 0, 1) := by decide +kernel
theorem dX1_begin_11 : decode cX1_begin 11 = .ok (.iload_n 3, 1) := by decide +kernel
theorem dX1_begin_12 : decode cX1_begin 12 = .ok (.putfield 23, 3) := by decide +kernel
theorem dX1_begin_15 : decode cX1_begin 15 = .ok (.aload_n 0, 1) := by decide +kernel
theorem dX1_begin_16 : decode cX1_begin 16 = .ok (.iload 4, 2) := by decide +kernel
theorem dX1_begin_18 : decode cX1_begin 18 = .ok (.putfield 26, 3) := by decide +kernel
theorem dX1_begin_21 : decode cX1_begin 21 = .ok (.aload_n 0, 1) := by decide +kernel
theorem dX1_begin_22 : decode cX1_begin 22 = .ok (.iload 5, 2) := by decide +kernel
theorem dX1_begin_24 : decode cX1_begin 24 = .ok (.putfield 29, 3) := by decide +kernel
theorem dX1_begin_27 : decode cX1_begin 27 = .ok (.aload_n 0, 1) := by decide +kernel
theorem dX1_begin_28 : decode cX1_begin 28 = .ok (.bipush 111, 2) := by decide +kernel
theorem dX1_begin_30 : decode cX1_begin 30 = .ok (.putfield 32, 3) := by decide +kernel
theorem dX1_begin_33 : decode cX1_begin 33 = .ok (.aload_n 0, 1) := by decide +kernel
theorem dX1_begin_34 : decode cX1_begin 34 = .ok (.iconst (-1), 1) := by decide +kernel
theorem dX1_begin_35 : decode cX1_begin 35 = .ok (.putfield 35, 3) := by decide +kernel
theorem dX1_begin_38 : decode cX1_begin 38 = .ok (.aload_n 0, 1) := by decide +kernel
theorem dX1_begin_39 : decode cX1_begin 39 = .ok (.iconst 0, 1) := by decide +kernel
theorem dX1_begin_40 : decode cX1_begin 40 = .ok (.putfield 38, 3) := by decide +kernel
theorem dX1_begin_43 : decode cX1_begin 43 = .ok (.aload_n 0, 1) := by decide +kernel
theorem dX1_begin_44 : decode cX1_begin 44 = .ok (.iconst 0, 1) := by decide +kernel
theorem dX1_begin_45 : decode cX1_begin 45 = .ok (.putfield 41, 3) := by decide +kernel
theorem dX1_begin_48 : decode cX1_begin 48 = .ok (.aload_n 0, 1) := by decide +kernel
theorem dX1_begin_49 : decode cX1_begin 49 = .ok (.iconst (-1), 1) := by decide +kernel
theorem dX1_begin_50 : decode cX1_begin 50 = .ok (.putfield 44, 3) := by decide +kernel
theorem dX1_begin_53 : decode cX1_begin 53 = .ok (.aload_n 0, 1) := by decide +kernel
theorem dX1_begin_54 : decode cX1_begin 54 = .ok (.iconst 0, 1) := by decide +kernel
theorem dX1_begin_55 : decode cX1_begin 55 = .ok (.putfield 47, 3) := by decide +kernel
theorem dX1_begin_58 : decode cX1_begin 58 = .ok (.aload_n 0, 1) := by decide +kernel
theorem dX1_begin_59 : decode cX1_begin 59 = .ok (.lconst 0, 1) := by decide +kernel
theorem dX1_begin_60 : decode cX1_begin 60 = .ok (.putfield 50, 3) := by decide +kernel
theorem dX1_begin_63 : decode cX1_begin 63 = .ok (.aload_n 0, 1) := by decide +kernel
theorem dX1_begin_64 : decode cX1_begin 64 = .ok (.iconst 0, 1) := by decide +kernel
theorem dX1_begin_65 : decode cX1_begin 65 = .ok (.putfield 54, 3) := by decide +kernel
theorem dX1_begin_68 : decode cX1_begin 68 = .ok (.aload_n 0, 1) := by decide +kernel
theorem dX1_begin_69 : decode cX1_begin 69 = .ok (.iconst 0, 1) := by decide +kernel
theorem dX1_begin_70 : decode cX1_begin 70 = .ok (.putfield 57, 3) := by decide +kernel
theorem dX1_begin_73 : decode cX1_begin 73 = .ok (.aload_n 0, 1) := by decide +kernel
theorem dX1_begin_74 : decode cX1_begin 74 = .ok (.iconst 0, 1) := by decide +kernel
theorem dX1_begin_75 : decode cX1_begin 75 = .ok (.putfield 60, 3) := by decide +kernel
theorem dX1_begin_78 : decode cX1_begin 78 = .ok (.aload_n 0, 1) := by decide +kernel
theorem dX1_begin_79 : decode cX1_begin 79 = .ok (.iconst 0, 1) := by decide +kernel
theorem dX1_begin_80 : decode cX1_begin 80 = .ok (.putfield 63, 3) := by decide +kernel
theorem dX1_begin_83 : decode cX1_begin 83 = .ok (.aload_n 0, 1) := by decide +kernel
theorem dX1_begin_84 : decode cX1_begin 84 = .ok (.iconst 0, 1) := by decide +kernel
theorem dX1_begin_85 : decode cX1_begin 85 = .ok (.putfield 66, 3) := by decide +kernel
theorem dX1_begin_88 : decode cX1_begin 88 = .ok (.aload_n 0, 1) := by decide +kernel
theorem dX1_begin_89 : decode cX1_begin 89 = .ok (.iconst 0, 1) := by decide +kernel
theorem dX1_begin_90 : decode cX1_begin 90 = .ok (.putfield 69, 3) := by decide +kernel
theorem dX1_begin_93 : decode cX1_begin 93 = .ok (.aload_n 0, 1) := by decide +kernel
theorem dX1_begin_94 : decode cX1_begin 94 = .ok (.iconst 0, 1) := by decide +kernel
theorem dX1_begin_95 : decode cX1_begin 95 = .ok (.putfield 72, 3) := by decide +kernel
theorem dX1_begin_98 : decode cX1_begin 98 = .ok (.return_, 1) := by decide +kernel
theorem dX1_noteDrop_0 : decode cX1_noteDrop 0 = .ok (.iload_n 1, 1) := by decide +kernel
theorem dX1_noteDrop_1 : decode cX1_noteDrop 1 = .ok (.ifCond .eq 29, 3) := by decide +kernel
theorem dX1_noteDrop_4 : decode cX1_noteDrop 4 = .ok (.aload_n 0, 1) := by decide +kernel
theorem dX1_noteDrop_5 : decode cX1_noteDrop 5 = .ok (.dup, 1) := by decide +kernel
theorem dX1_noteDrop_6 : decode cX1_noteDrop 6 = .ok (.getfield 60, 3) := by decide +kernel
theorem dX1_noteDrop_9 : decode cX1_noteDrop 9 = .ok (.iconst 1, 1) := by decide +kernel
theorem dX1_noteDrop_10 : decode cX1_noteDrop 10 = .ok (.iadd, 1) := by decide +kernel
theorem dX1_noteDrop_11 : decode cX1_noteDrop 11 = .ok (.putfield 60, 3) := by decide +kernel
theorem dX1_noteDrop_14 : decode cX1_noteDrop 14 = .ok (.aload_n 0, 1) := by decide +kernel
theorem dX1_noteDrop_15 : decode cX1_noteDrop 15 = .ok (.aload_n 0, 1) := by decide +kernel
theorem dX1_noteDrop_16 : decode cX1_noteDrop 16 = .ok (.getfield 63, 3) := by decide +kernel
theorem dX1_noteDrop_19 : decode cX1_noteDrop 19 = .ok (.putfield 66, 3) := by decide +kernel
theorem dX1_noteDrop_22 : decode cX1_noteDrop 22 = .ok (.aload_n 0, 1) := by decide +kernel
theorem dX1_noteDrop_23 : decode cX1_noteDrop 23 = .ok (.iload_n 2, 1) := by decide +kernel
theorem dX1_noteDrop_24 : decode cX1_noteDrop 24 = .ok (.putfield 63, 3) := by decide +kernel
theorem dX1_noteDrop_27 : decode cX1_noteDrop 27 = .ok (.goto 18, 3) := by decide +kernel
theorem dX1_noteDrop_30 : decode cX1_noteDrop 30 = .ok (.aload_n 0, 1) := by decide +kernel
theorem dX1_noteDrop_31 : decode cX1_noteDrop 31 = .ok (.iconst 0, 1) := by decide +kernel
theorem dX1_noteDrop_32 : decode cX1_noteDrop 32 = .ok (.putfield 60, 3) := by decide +kernel
theorem dX1_noteDrop_35 : decode cX1_noteDrop 35 = .ok (.aload_n 0, 1) := by decide +kernel
theorem dX1_noteDrop_36 : decode cX1_noteDrop 36 = .ok (.iconst 0, 1) := by decide +kernel
theorem dX1_noteDrop_37 : decode cX1_noteDrop 37 = .ok (.putfield 66, 3) := by decide +kernel
theorem dX1_noteDrop_40 : decode cX1_noteDrop 40 = .ok (.aload_n 0, 1) := by decide +kernel
theorem dX1_noteDrop_41 : decode cX1_noteDrop 41 = .ok (.iconst 0, 1) := by decide +kernel
theorem dX1_noteDrop_42 : decode cX1_noteDrop 42 = .ok (.putfield 63, 3) := by decide +kernel
theorem dX1_noteDrop_45 : decode cX1_noteDrop 45 = .ok (.return_, 1) := by decide +kernel
theorem dX1_land_0 : decode cX1_land 0 = .ok (.aload_n 0, 1) := by decide +kernel
theorem dX1_land_1 : decode cX1_land 1 = .ok (.bipush 111, 2) := by decide +kernel
theorem dX1_land_3 : decode cX1_land 3 = .ok (.putfield 32, 3) := by decide +kernel
theorem dX1_land_6 : decode cX1_land 6 = .ok (.aload_n 0, 1) := by decide +kernel
theorem dX1_land_7 : decode cX1_land 7 = .ok (.dup, 1) := by decide +kernel
theorem dX1_land_8 : decode cX1_land 8 = .ok (.getfield 54, 3) := by decide +kernel
theorem dX1_land_11 : decode cX1_land 11 = .ok (.iconst 1, 1) := by decide +kernel
theorem dX1_land_12 : decode cX1_land 12 = .ok (.iadd, 1) := by decide +kernel
theorem dX1_land_13 : decode cX1_land 13 = .ok (.putfield 54, 3) := by decide +kernel
theorem dX1_land_16 : decode cX1_land 16 = .ok (.return_, 1) := by decide +kernel
theorem dX1_isLike_0 : decode cX1_isLike 0 = .ok (.aload_n 0, 1) := by decide +kernel
theorem dX1_isLike_1 : decode cX1_isLike 1 = .ok (.aload_n 1, 1) := by decide +kernel
theorem dX1_isLike_2 : decode cX1_isLike 2 = .ok (.invokevirtual 75, 3) := by decide +kernel
theorem dX1_isLike_5 : decode cX1_isLike 5 = .ok (.ifCond .eq 23, 3) := by decide +kernel
theorem dX1_isLike_8 : decode cX1_isLike 8 = .ok (.aload_n 0, 1) := by decide +kernel
theorem dX1_isLike_9 : decode cX1_isLike 9 = .ok (.aload_n 1, 1) := by decide +kernel
theorem dX1_isLike_10 : decode cX1_isLike 10 = .ok (.invokevirtual 79, 3) := by decide +kernel
theorem dX1_isLike_13 : decode cX1_isLike 13 = .ok (.ifCond .eq 15, 3) := by decide +kernel
theorem dX1_isLike_16 : decode cX1_isLike 16 = .ok (.aload_n 0, 1) := by decide +kernel
theorem dX1_isLike_17 : decode cX1_isLike 17 = .ok (.aload_n 1, 1) := by decide +kernel
theorem dX1_isLike_18 : decode cX1_isLike 18 = .ok (.invokevirtual 82, 3) := by decide +kernel
theorem dX1_isLike_21 : decode cX1_isLike 21 = .ok (.ifCond .eq 7, 3) := by decide +kernel
theorem dX1_isLike_24 : decode cX1_isLike 24 = .ok (.iconst 1, 1) := by decide +kernel
theorem dX1_isLike_25 : decode cX1_isLike 25 = .ok (.goto 4, 3) := by decide +kernel
theorem dX1_isLike_28 : decode cX1_isLike 28 = .ok (.iconst 0, 1) := by decide +kernel
theorem dX1_isLike_29 : decode cX1_isLike 29 = .ok (.ireturn, 1) := by decide +kernel
theorem dX1_isMadeLike_0 : decode cX1_isMadeLike 0 = .ok (.aload_n 0, 1) := by decide +kernel
theorem dX1_isMadeLike_1 : decode cX1_isMadeLike 1 = .ok (.getfield 15, 3) := by decide +kernel
theorem dX1_isMadeLike_4 : decode cX1_isMadeLike 4 = .ok (.aload_n 1, 1) := by decide +kernel
theorem dX1_isMadeLike_5 : decode cX1_isMadeLike 5 = .ok (.getfield 15, 3) := by decide +kernel
theorem dX1_isMadeLike_8 : decode cX1_isMadeLike 8 = .ok (.if_icmp .ne 51, 3) := by decide +kernel
theorem dX1_isMadeLike_11 : decode cX1_isMadeLike 11 = .ok (.aload_n 0, 1) := by decide +kernel
theorem dX1_isMadeLike_12 : decode cX1_isMadeLike 12 = .ok (.getfield 19, 3) := by decide +kernel
theorem dX1_isMadeLike_15 : decode cX1_isMadeLike 15 = .ok (.aload_n 1, 1) := by decide +kernel
theorem dX1_isMadeLike_16 : decode cX1_isMadeLike 16 = .ok (.getfield 19, 3) := by decide +kernel
theorem dX1_isMadeLike_19 : decode cX1_isMadeLike 19 = .ok (.if_icmp .ne 40, 3) := by decide +kernel
theorem dX1_isMadeLike_22 : decode cX1_isMadeLike 22 = .ok (.aload_n 0, 1) := by decide +kernel
theorem dX1_isMadeLike_23 : decode cX1_isMadeLike 23 = .ok (.getfield 23, 3) := by decide +kernel
theorem dX1_isMadeLike_26 : decode cX1_isMadeLike 26 = .ok (.aload_n 1, 1) := by decide +kernel
theorem dX1_isMadeLike_27 : decode cX1_isMadeLike 27 = .ok (.getfield 23, 3) := by decide +kernel
theorem dX1_isMadeLike_30 : decode cX1_isMadeLike 30 = .ok (.if_icmp .ne 29, 3) := by decide +kernel
theorem dX1_isMadeLike_33 : decode cX1_isMadeLike 33 = .ok (.aload_n 0, 1) := by decide +kernel
theorem dX1_isMadeLike_34 : decode cX1_isMadeLike 34 = .ok (.getfield 26, 3) := by decide +kernel
theorem dX1_isMadeLike_37 : decode cX1_isMadeLike 37 = .ok (.aload_n 1, 1) := by decide +kernel
theorem dX1_isMadeLike_38 : decode cX1_isMadeLike 38 = .ok (.getfield 26, 3) := by decide +kernel
theorem dX1_isMadeLike_41 : decode cX1_isMadeLike 41 = .ok (.if_icmp .ne 18, 3) := by decide +kernel
theorem dX1_isMadeLike_44 : decode cX1_isMadeLike 44 = .ok (.aload_n 0, 1) := by decide +kernel
theorem dX1_isMadeLike_45 : decode cX1_isMadeLike 45 = .ok (.getfield 29, 3) := by decide +kernel
theorem dX1_isMadeLike_48 : decode cX1_isMadeLike 48 = .ok (.aload_n 1, 1) := by decide +kernel
theorem dX1_isMadeLike_49 : decode cX1_isMadeLike 49 = .ok (.getfield 29, 3) := by decide +kernel
theorem dX1_isMadeLike_52 : decode cX1_isMadeLike 52 = .ok (.if_icmp .ne 7, 3) := by decide +kernel
theorem dX1_isMadeLike_55 : decode cX1_isMadeLike 55 = .ok (.iconst 1, 1) := by decide +kernel
theorem dX1_isMadeLike_56 : decode cX1_isMadeLike 56 = .ok (.goto 4, 3) := by decide +kernel
theorem dX1_isMadeLike_59 : decode cX1_isMadeLike 59 = .ok (.iconst 0, 1) := by decide +kernel
theorem dX1_isMadeLike_60 : decode cX1_isMadeLike 60 = .ok (.ireturn, 1) := by decide +kernel
theorem dX1_isPackedLike_0 : decode cX1_isPackedLike 0 = .ok (.aload_n 0, 1) := by decide +kernel
theorem dX1_isPackedLike_1 : decode cX1_isPackedLike 1 = .ok (.getfield 32, 3) := by decide +kernel
theorem dX1_isPackedLike_4 : decode cX1_isPackedLike 4 = .ok (.aload_n 1, 1) := by decide +kernel
theorem dX1_isPackedLike_5 : decode cX1_isPackedLike 5 = .ok (.getfield 32, 3) := by decide +kernel
theorem dX1_isPackedLike_8 : decode cX1_isPackedLike 8 = .ok (.if_icmp .ne 25, 3) := by decide +kernel
theorem dX1_isPackedLike_11 : decode cX1_isPackedLike 11 = .ok (.aload_n 0, 1) := by decide +kernel
theorem dX1_isPackedLike_12 : decode cX1_isPackedLike 12 = .ok (.getfield 35, 3) := by decide +kernel
theorem dX1_isPackedLike_15 : decode cX1_isPackedLike 15 = .ok (.aload_n 1, 1) := by decide +kernel
theorem dX1_isPackedLike_16 : decode cX1_isPackedLike 16 = .ok (.getfield 35, 3) := by decide +kernel
theorem dX1_isPackedLike_19 : decode cX1_isPackedLike 19 = .ok (.if_icmp .ne 14, 3) := by decide +kernel
theorem dX1_isPackedLike_22 : decode cX1_isPackedLike 22 = .ok (.aload_n 0, 1) := by decide +kernel
theorem dX1_isPackedLike_23 : decode cX1_isPackedLike 23 = .ok (.getfield 38, 3) := by decide +kernel
theorem dX1_isPackedLike_26 : decode cX1_isPackedLike 26 = .ok (.aload_n 1, 1) := by decide +kernel
theorem dX1_isPackedLike_27 : decode cX1_isPackedLike 27 = .ok (.getfield 38, 3) := by decide +kernel
theorem dX1_isPackedLike_30 : decode cX1_isPackedLike 30 = .ok (.if_icmp .eq 5, 3) := by decide +kernel
theorem dX1_isPackedLike_33 : decode cX1_isPackedLike 33 = .ok (.iconst 0, 1) := by decide +kernel
theorem dX1_isPackedLike_34 : decode cX1_isPackedLike 34 = .ok (.ireturn, 1) := by decide +kernel
theorem dX1_isPackedLike_35 : decode cX1_isPackedLike 35 = .ok (.iconst 0, 1) := by decide +kernel
theorem dX1_isPackedLike_36 : decode cX1_isPackedLike 36 = .ok (.istore_n 2, 1) := by decide +kernel
theorem dX1_isPackedLike_37 : decode cX1_isPackedLike 37 = .ok (.iload_n 2, 1) := by decide +kernel
theorem dX1_isPackedLike_38 : decode cX1_isPackedLike 38 = .ok (.aload_n 0, 1) := by decide +kernel
theorem dX1_isPackedLike_39 : decode cX1_isPackedLike 39 = .ok (.getfield 38, 3) := by decide +kernel
theorem dX1_isPackedLike_42 : decode cX1_isPackedLike 42 = .ok (.if_icmp .ge 31, 3) := by decide +kernel
theorem dX1_isPackedLike_45 : decode cX1_isPackedLike 45 = .ok (.iload_n 2, 1) := by decide +kernel
theorem dX1_isPackedLike_46 : decode cX1_isPackedLike 46 = .ok (.iconst 5, 1) := by decide +kernel
theorem dX1_isPackedLike_47 : decode cX1_isPackedLike 47 = .ok (.if_icmp .ge 26, 3) := by decide +kernel
theorem dX1_isPackedLike_50 : decode cX1_isPackedLike 50 = .ok (.aload_n 0, 1) := by decide +kernel
theorem dX1_isPackedLike_51 : decode cX1_isPackedLike 51 = .ok (.getfield 9, 3) := by decide +kernel
theorem dX1_isPackedLike_54 : decode cX1_isPackedLike 54 = .ok (.iload_n 2, 1) := by decide +kernel
theorem dX1_isPackedLike_55 : decode cX1_isPackedLike 55 = .ok (.iaload, 1) := by decide +kernel
theorem dX1_isPackedLike_56 : decode cX1_isPackedLike 56 = .ok (.aload_n 1, 1) := by decide +kernel
theorem dX1_isPackedLike_57 : decode cX1_isPackedLike 57 = .ok (.getfield 9, 3) := by decide +kernel
theorem dX1_isPackedLike_60 : decode cX1_isPackedLike 60 = .ok (.iload_n 2, 1) := by decide +kernel
theorem dX1_isPackedLike_61 : decode cX1_isPackedLike 61 = .ok (.iaload, 1) := by decide +kernel
theorem dX1_isPackedLike_62 : decode cX1_isPackedLike 62 = .ok (.if_icmp .eq 5, 3) := by decide +kernel
theorem dX1_isPackedLike_65 : decode cX1_isPackedLike 65 = .ok (.iconst 0, 1) := by decide +kernel
theorem dX1_isPackedLike_66 : decode cX1_isPackedLike 66 = .ok (.ireturn, 1) := by decide +kernel
theorem dX1_isPackedLike_67 : decode cX1_isPackedLike 67 = .ok (.iinc 2 1, 3) := by decide +kernel
theorem dX1_isPackedLike_70 : decode cX1_isPackedLike 70 = .ok (.goto (-33), 3) := by decide +kernel
theorem dX1_isPackedLike_73 : decode cX1_isPackedLike 73 = .ok (.aload_n 0, 1) := by decide +kernel
theorem dX1_isPackedLike_74 : decode cX1_isPackedLike 74 = .ok (.getfield 41, 3) := by decide +kernel
theorem dX1_isPackedLike_77 : decode cX1_isPackedLike 77 = .ok (.aload_n 1, 1) := by decide +kernel
theorem dX1_isPackedLike_78 : decode cX1_isPackedLike 78 = .ok (.getfield 41, 3) := by decide +kernel
theorem dX1_isPackedLike_81 : decode cX1_isPackedLike 81 = .ok (.if_icmp .ne 41, 3) := by decide +kernel
theorem dX1_isPackedLike_84 : decode cX1_isPackedLike 84 = .ok (.aload_n 0, 1) := by decide +kernel
theorem dX1_isPackedLike_85 : decode cX1_isPackedLike 85 = .ok (.getfield 44, 3) := by decide +kernel
theorem dX1_isPackedLike_88 : decode cX1_isPackedLike 88 = .ok (.aload_n 1, 1) := by decide +kernel
theorem dX1_isPackedLike_89 : decode cX1_isPackedLike 89 = .ok (.getfield 44, 3) := by decide +kernel
theorem dX1_isPackedLike_92 : decode cX1_isPackedLike 92 = .ok (.if_icmp .ne 30, 3) := by decide +kernel
theorem dX1_isPackedLike_95 : decode cX1_isPackedLike 95 = .ok (.aload_n 0, 1) := by decide +kernel
theorem dX1_isPackedLike_96 : decode cX1_isPackedLike 96 = .ok (.getfield 47, 3) := by decide +kernel
theorem dX1_isPackedLike_99 : decode cX1_isPackedLike 99 = .ok (.aload_n 1, 1) := by decide +kernel
theorem dX1_isPackedLike_100 : decode cX1_isPackedLike 100 = .ok (.getfield 47, 3) := by decide +kernel
theorem dX1_isPackedLike_103 : decode cX1_isPackedLike 103 = .ok (.if_icmp .ne 19, 3) := by decide +kernel
theorem dX1_isPackedLike_106 : decode cX1_isPackedLike 106 = .ok (.aload_n 0, 1) := by decide +kernel
theorem dX1_isPackedLike_107 : decode cX1_isPackedLike 107 = .ok (.getfield 50, 3) := by decide +kernel
theorem dX1_isPackedLike_110 : decode cX1_isPackedLike 110 = .ok (.aload_n 1, 1) := by decide +kernel
theorem dX1_isPackedLike_111 : decode cX1_isPackedLike 111 = .ok (.getfield 50, 3) := by decide +kernel
theorem dX1_isPackedLike_114 : decode cX1_isPackedLike 114 = .ok (.lcmp, 1) := by decide +kernel
theorem dX1_isPackedLike_115 : decode cX1_isPackedLike 115 = .ok (.ifCond .ne 7, 3) := by decide +kernel
theorem dX1_isPackedLike_118 : decode cX1_isPackedLike 118 = .ok (.iconst 1, 1) := by decide +kernel
theorem dX1_isPackedLike_119 : decode cX1_isPackedLike 119 = .ok (.goto 4, 3) := by decide +kernel
theorem dX1_isPackedLike_122 : decode cX1_isPackedLike 122 = .ok (.iconst 0, 1) := by decide +kernel
theorem dX1_isPackedLike_123 : decode cX1_isPackedLike 123 = .ok (.ireturn, 1) := by decide +kernel
theorem dX1_isTriedLike_0 : decode cX1_isTriedLike 0 = .ok (.aload_n 0, 1) := by decide +kernel
theorem dX1_isTriedLike_1 : decode cX1_isTriedLike 1 = .ok (.getfield 54, 3) := by decide +kernel
theorem dX1_isTriedLike_4 : decode cX1_isTriedLike 4 = .ok (.aload_n 1, 1) := by decide +kernel
theorem dX1_isTriedLike_5 : decode cX1_isTriedLike 5 = .ok (.getfield 54, 3) := by decide +kernel
theorem dX1_isTriedLike_8 : decode cX1_isTriedLike 8 = .ok (.if_icmp .ne 73, 3) := by decide +kernel
theorem dX1_isTriedLike_11 : decode cX1_isTriedLike 11 = .ok (.aload_n 0, 1) := by decide +kernel
theorem dX1_isTriedLike_12 : decode cX1_isTriedLike 12 = .ok (.getfield 57, 3) := by decide +kernel
theorem dX1_isTriedLike_15 : decode cX1_isTriedLike 15 = .ok (.aload_n 1, 1) := by decide +kernel
theorem dX1_isTriedLike_16 : decode cX1_isTriedLike 16 = .ok (.getfield 57, 3) := by decide +kernel
theorem dX1_isTriedLike_19 : decode cX1_isTriedLike 19 = .ok (.if_icmp .ne 62, 3) := by decide +kernel
theorem dX1_isTriedLike_22 : decode cX1_isTriedLike 22 = .ok (.aload_n 0, 1) := by decide +kernel
theorem dX1_isTriedLike_23 : decode cX1_isTriedLike 23 = .ok (.getfield 60, 3) := by decide +kernel
theorem dX1_isTriedLike_26 : decode cX1_isTriedLike 26 = .ok (.aload_n 1, 1) := by decide +kernel
theorem dX1_isTriedLike_27 : decode cX1_isTriedLike 27 = .ok (.getfield 60, 3) := by decide +kernel
theorem dX1_isTriedLike_30 : decode cX1_isTriedLike 30 = .ok (.if_icmp .ne 51, 3) := by decide +kernel
theorem dX1_isTriedLike_33 : decode cX1_isTriedLike 33 = .ok (.aload_n 0, 1) := by decide +kernel
theorem dX1_isTriedLike_34 : decode cX1_isTriedLike 34 = .ok (.getfield 63, 3) := by decide +kernel
theorem dX1_isTriedLike_37 : decode cX1_isTriedLike 37 = .ok (.aload_n 1, 1) := by decide +kernel
theorem dX1_isTriedLike_38 : decode cX1_isTriedLike 38 = .ok (.getfield 63, 3) := by decide +kernel
theorem dX1_isTriedLike_41 : decode cX1_isTriedLike 41 = .ok (.if_icmp .ne 40, 3) := by decide +kernel
theorem dX1_isTriedLike_44 : decode cX1_isTriedLike 44 = .ok (.aload_n 0, 1) := by decide +kernel
theorem dX1_isTriedLike_45 : decode cX1_isTriedLike 45 = .ok (.getfield 66, 3) := by decide +kernel
theorem dX1_isTriedLike_48 : decode cX1_isTriedLike 48 = .ok (.aload_n 1, 1) := by decide +kernel
theorem dX1_isTriedLike_49 : decode cX1_isTriedLike 49 = .ok (.getfield 66, 3) := by decide +kernel
theorem dX1_isTriedLike_52 : decode cX1_isTriedLike 52 = .ok (.if_icmp .ne 29, 3) := by decide +kernel
theorem dX1_isTriedLike_55 : decode cX1_isTriedLike 55 = .ok (.aload_n 0, 1) := by decide +kernel
theorem dX1_isTriedLike_56 : decode cX1_isTriedLike 56 = .ok (.getfield 69, 3) := by decide +kernel
theorem dX1_isTriedLike_59 : decode cX1_isTriedLike 59 = .ok (.aload_n 1, 1) := by decide +kernel
theorem dX1_isTriedLike_60 : decode cX1_isTriedLike 60 = .ok (.getfield 69, 3) := by decide +kernel
theorem dX1_isTriedLike_63 : decode cX1_isTriedLike 63 = .ok (.if_icmp .ne 18, 3) := by decide +kernel
theorem dX1_isTriedLike_66 : decode cX1_isTriedLike 66 = .ok (.aload_n 0, 1) := by decide +kernel
theorem dX1_isTriedLike_67 : decode cX1_isTriedLike 67 = .ok (.getfield 72, 3) := by decide +kernel
theorem dX1_isTriedLike_70 : decode cX1_isTriedLike 70 = .ok (.aload_n 1, 1) := by decide +kernel
theorem dX1_isTriedLike_71 : decode cX1_isTriedLike 71 = .ok (.getfield 72, 3) := by decide +kernel
theorem dX1_isTriedLike_74 : decode cX1_isTriedLike 74 = .ok (.if_icmp .ne 7, 3) := by decide +kernel
theorem dX1_isTriedLike_77 : decode cX1_isTriedLike 77 = .ok (.iconst 1, 1) := by decide +kernel
theorem dX1_isTriedLike_78 : decode cX1_isTriedLike 78 = .ok (.goto 4, 3) := by decide +kernel
theorem dX1_isTriedLike_81 : decode cX1_isTriedLike 81 = .ok (.iconst 0, 1) := by decide +kernel
theorem dX1_isTriedLike_82 : decode cX1_isTriedLike 82 = .ok (.ireturn, 1) := by decide +kernel
theorem dX2_init_0 : decode cX2_init 0 = .ok (.aload_n 0, 1) := by decide +kernel
theorem dX2_init_1 : decode cX2_init 1 = .ok (.invokespecial 3, 3) := by decide +kernel
theorem dX2_init_4 : decode cX2_init 4 = .ok (.aload_n 0, 1) := by decide +kernel
theorem dX2_init_5 : decode cX2_init 5 = .ok (.sipush 2560, 3) := by decide +kernel
theorem dX2_init_8 : decode cX2_init 8 = .ok (.newarray .int, 2) := by decide +kernel
theorem dX2_init_10 : decode cX2_init 10 = .ok (.putfield 11, 3) := by decide +kernel
theorem dX2_init_13 : decode cX2_init 13 = .ok (.return_, 1) := by decide +kernel
theorem dX2_isFull_0 : decode cX2_isFull 0 = .ok (.aload_n 0, 1) := by decide +kernel
theorem dX2_isFull_1 : decode cX2_isFull 1 = .ok (.getfield 15, 3) := by decide +kernel
theorem dX2_isFull_4 : decode cX2_isFull 4 = .ok (.sipush 512, 3) := by decide +kernel
theorem dX2_isFull_7 : decode cX2_isFull 7 = .ok (.if_icmp .lt 7, 3) := by decide +kernel
theorem dX2_isFull_10 : decode cX2_isFull 10 = .ok (.iconst 1, 1) := by decide +kernel
theorem dX2_isFull_11 : decode cX2_isFull 11 = .ok (.goto 4, 3) := by decide +kernel
theorem dX2_isFull_14 : decode cX2_isFull 14 = .ok (.iconst 0, 1) := by decide +kernel
theorem dX2_isFull_15 : decode cX2_isFull 15 = .ok (.ireturn, 1) := by decide +kernel
theorem dX2_write_0 : decode cX2_write 0 = .ok (.aload_n 0, 1) := by decide +kernel
theorem dX2_write_1 : decode cX2_write 1 = .ok (.invokevirtual 19, 3) := by decide +kernel
theorem dX2_write_4 : decode cX2_write 4 = .ok (.ifCond .eq 4, 3) := by decide +kernel
theorem dX2_write_7 : decode cX2_write 7 = .ok (.return_, 1) := by decide +kernel
theorem dX2_write_8 : decode cX2_write 8 = .ok (.aload_n 0, 1) := by decide +kernel
theorem dX2_write_9 : decode cX2_write 9 = .ok (.getfield 15, 3) := by decide +kernel
theorem dX2_write_12 : decode cX2_write 12 = .ok (.iconst 5, 1) := by decide +kernel
theorem dX2_write_13 : decode cX2_write 13 = .ok (.imul, 1) := by decide +kernel
theorem dX2_write_14 : decode cX2_write 14 = .ok (.istore 6, 2) := by decide +kernel
theorem dX2_write_16 : decode cX2_write 16 = .ok (.aload_n 0, 1) := by decide +kernel
theorem dX2_write_17 : decode cX2_write 17 = .ok (.getfield 11, 3) := by decide +kernel
theorem dX2_write_20 : decode cX2_write 20 = .ok (.iload 6, 2) := by decide +kernel
theorem dX2_write_22 : decode cX2_write 22 = .ok (.iload_n 1, 1) := by decide +kernel
theorem dX2_write_23 : decode cX2_write 23 = .ok (.iastore, 1) := by decide +kernel
theorem dX2_write_24 : decode cX2_write 24 = .ok (.aload_n 0, 1) := by decide +kernel
theorem dX2_write_25 : decode cX2_write 25 = .ok (.getfield 11, 3) := by decide +kernel
theorem dX2_write_28 : decode cX2_write 28 = .ok (.iload 6, 2) := by decide +kernel
theorem dX2_write_30 : decode cX2_write 30 = .ok (.iconst 1, 1) := by decide +kernel
theorem dX2_write_31 : decode cX2_write 31 = .ok (.iadd, 1) := by decide +kernel
theorem dX2_write_32 : decode cX2_write 32 = .ok (.iload_n 2, 1) := by decide +kernel
theorem dX2_write_33 : decode cX2_write 33 = .ok (.iastore, 1) := by decide +kernel
theorem dX2_write_34 : decode cX2_write 34 = .ok (.aload_n 0, 1) := by decide +kernel
theorem dX2_write_35 : decode cX2_write 35 = .ok (.getfield 11, 3) := by decide +kernel
theorem dX2_write_38 : decode cX2_write 38 = .ok (.iload 6, 2) := by decide +kernel
theorem dX2_write_40 : decode cX2_write 40 = .ok (.iconst 2, 1) := by decide +kernel
theorem dX2_write_41 : decode cX2_write 41 = .ok (.iadd, 1) := by decide +kernel
theorem dX2_write_42 : decode cX2_write 42 = .ok (.iload_n 3, 1) := by decide +kernel
theorem dX2_write_43 : decode cX2_write 43 = .ok (.iastore, 1) := by decide +kernel
theorem dX2_write_44 : decode cX2_write 44 = .ok (.aload_n 0, 1) := by decide +kernel
theorem dX2_write_45 : decode cX2_write 45 = .ok (.getfield 11, 3) := by decide +kernel
theorem dX2_write_48 : decode cX2_write 48 = .ok (.iload 6, 2) := by decide +kernel
theorem dX2_write_50 : decode cX2_write 50 = .ok (.iconst 3, 1) := by decide +kernel
theorem dX2_write_51 : decode cX2_write 51 = .ok (.iadd, 1) := by decide +kernel
theorem dX2_write_52 : decode cX2_write 52 = .ok (.iload 4, 2) := by decide +kernel
theorem dX2_write_54 : decode cX2_write 54 = .ok (.iastore, 1) := by decide +kernel
theorem dX2_write_55 : decode cX2_write 55 = .ok (.aload_n 0, 1) := by decide +kernel
theorem dX2_write_56 : decode cX2_write 56 = .ok (.getfield 11, 3) := by decide +kernel
theorem dX2_write_59 : decode cX2_write 59 = .ok (.iload 6, 2) := by decide +kernel
theorem dX2_write_61 : decode cX2_write 61 = .ok (.iconst 4, 1) := by decide +kernel
theorem dX2_write_62 : decode cX2_write 62 = .ok (.iadd, 1) := by decide +kernel
theorem dX2_write_63 : decode cX2_write 63 = .ok (.iload 5, 2) := by decide +kernel
theorem dX2_write_65 : decode cX2_write 65 = .ok (.iastore, 1) := by decide +kernel
theorem dX2_write_66 : decode cX2_write 66 = .ok (.aload_n 0, 1) := by decide +kernel
theorem dX2_write_67 : decode cX2_write 67 = .ok (.dup, 1) := by decide +kernel
theorem dX2_write_68 : decode cX2_write 68 = .ok (.getfield 15, 3) := by decide +kernel
theorem dX2_write_71 : decode cX2_write 71 = .ok (.iconst 1, 1) := by decide +kernel
theorem dX2_write_72 : decode cX2_write 72 = .ok (.iadd, 1) := by decide +kernel
theorem dX2_write_73 : decode cX2_write 73 = .ok (.putfield 15, 3) := by decide +kernel
theorem dX2_write_76 : decode cX2_write 76 = .ok (.return_, 1) := by decide +kernel
theorem dX2_repeat_0 : decode cX2_repeat 0 = .ok (.iload_n 1, 1) := by decide +kernel
theorem dX2_repeat_1 : decode cX2_repeat 1 = .ok (.ifCond .lt 11, 3) := by decide +kernel
theorem dX2_repeat_4 : decode cX2_repeat 4 = .ok (.iload_n 1, 1) := by decide +kernel
theorem dX2_repeat_5 : decode cX2_repeat 5 = .ok (.aload_n 0, 1) := by decide +kernel
theorem dX2_repeat_6 : decode cX2_repeat 6 = .ok (.getfield 15, 3) := by decide +kernel
theorem dX2_repeat_9 : decode cX2_repeat 9 = .ok (.if_icmp .lt 5, 3) := by decide +kernel
theorem dX2_repeat_12 : decode cX2_repeat 12 = .ok (.iconst 0, 1) := by decide +kernel
theorem dX2_repeat_13 : decode cX2_repeat 13 = .ok (.ireturn, 1) := by decide +kernel
theorem dX2_repeat_14 : decode cX2_repeat 14 = .ok (.iload_n 1, 1) := by decide +kernel
theorem dX2_repeat_15 : decode cX2_repeat 15 = .ok (.iconst 5, 1) := by decide +kernel
theorem dX2_repeat_16 : decode cX2_repeat 16 = .ok (.imul, 1) := by decide +kernel
theorem dX2_repeat_17 : decode cX2_repeat 17 = .ok (.istore_n 3, 1) := by decide +kernel
theorem dX2_repeat_18 : decode cX2_repeat 18 = .ok (.aload_n 0, 1) := by decide +kernel
theorem dX2_repeat_19 : decode cX2_repeat 19 = .ok (.getfield 11, 3) := by decide +kernel
theorem dX2_repeat_22 : decode cX2_repeat 22 = .ok (.iload_n 3, 1) := by decide +kernel
theorem dX2_repeat_23 : decode cX2_repeat 23 = .ok (.iaload, 1) := by decide +kernel
theorem dX2_repeat_24 : decode cX2_repeat 24 = .ok (.istore 4, 2) := by decide +kernel
theorem dX2_repeat_26 : decode cX2_repeat 26 = .ok (.aload_n 0, 1) := by decide +kernel
theorem dX2_repeat_27 : decode cX2_repeat 27 = .ok (.getfield 11, 3) := by decide +kernel
theorem dX2_repeat_30 : decode cX2_repeat 30 = .ok (.iload_n 3, 1) := by decide +kernel
theorem dX2_repeat_31 : decode cX2_repeat 31 = .ok (.iconst 1, 1) := by decide +kernel
theorem dX2_repeat_32 : decode cX2_repeat 32 = .ok (.iadd, 1) := by decide +kernel
theorem dX2_repeat_33 : decode cX2_repeat 33 = .ok (.iaload, 1) := by decide +kernel
theorem dX2_repeat_34 : decode cX2_repeat 34 = .ok (.istore 5, 2) := by decide +kernel
theorem dX2_repeat_36 : decode cX2_repeat 36 = .ok (.aload_n 0, 1) := by decide +kernel
theorem dX2_repeat_37 : decode cX2_repeat 37 = .ok (.getfield 11, 3) := by decide +kernel
theorem dX2_repeat_40 : decode cX2_repeat 40 = .ok (.iload_n 3, 1) := by decide +kernel
theorem dX2_repeat_41 : decode cX2_repeat 41 = .ok (.iconst 2, 1) := by decide +kernel
theorem dX2_repeat_42 : decode cX2_repeat 42 = .ok (.iadd, 1) := by decide +kernel
theorem dX2_repeat_43 : decode cX2_repeat 43 = .ok (.iaload, 1) := by decide +kernel
theorem dX2_repeat_44 : decode cX2_repeat 44 = .ok (.istore 6, 2) := by decide +kernel
theorem dX2_repeat_46 : decode cX2_repeat 46 = .ok (.aload_n 0, 1) := by decide +kernel
theorem dX2_repeat_47 : decode cX2_repeat 47 = .ok (.getfield 11, 3) := by decide +kernel
theorem dX2_repeat_50 : decode cX2_repeat 50 = .ok (.iload_n 3, 1) := by decide +kernel
theorem dX2_repeat_51 : decode cX2_repeat 51 = .ok (.iconst 3, 1) := by decide +kernel
theorem dX2_repeat_52 : decode cX2_repeat 52 = .ok (.iadd, 1) := by decide +kernel
theorem dX2_repeat_53 : decode cX2_repeat 53 = .ok (.iaload, 1) := by decide +kernel
theorem dX2_repeat_54 : decode cX2_repeat 54 = .ok (.istore 7, 2) := by decide +kernel
theorem dX2_repeat_56 : decode cX2_repeat 56 = .ok (.aload_n 0, 1) := by decide +kernel
theorem dX2_repeat_57 : decode cX2_repeat 57 = .ok (.getfield 11, 3) := by decide +kernel
theorem dX2_repeat_60 : decode cX2_repeat 60 = .ok (.iload_n 3, 1) := by decide +kernel
theorem dX2_repeat_61 : decode cX2_repeat 61 = .ok (.iconst 4, 1) := by decide +kernel
theorem dX2_repeat_62 : decode cX2_repeat 62 = .ok (.iadd, 1) := by decide +kernel
theorem dX2_repeat_63 : decode cX2_repeat 63 = .ok (.iaload, 1) := by decide +kernel
theorem dX2_repeat_64 : decode cX2_repeat 64 = .ok (.istore 8, 2) := by decide +kernel
theorem dX2_repeat_66 : decode cX2_repeat 66 = .ok (.aload_n 2, 1) := by decide +kernel
theorem dX2_repeat_67 : decode cX2_repeat 67 = .ok (.iload 4, 2) := by decide +kernel
theorem dX2_repeat_69 : decode cX2_repeat 69 = .ok (.iload 5, 2) := by decide +kernel
theorem dX2_repeat_71 : decode cX2_repeat 71 = .ok (.iload 6, 2) := by decide +kernel
theorem dX2_repeat_73 : decode cX2_repeat 73 = .ok (.iload 7, 2) := by decide +kernel
theorem dX2_repeat_75 : decode cX2_repeat 75 = .ok (.iload 8, 2) := by decide +kernel
theorem dX2_repeat_77 : decode cX2_repeat 77 = .ok (.invokestatic 23, 3) := by decide +kernel
theorem dX2_repeat_80 : decode cX2_repeat 80 = .ok (.getstatic 29, 3) := by decide +kernel
theorem dX2_repeat_83 : decode cX2_repeat 83 = .ok (.if_acmp .eq 5, 3) := by decide +kernel
theorem dX2_repeat_86 : decode cX2_repeat 86 = .ok (.iconst 0, 1) := by decide +kernel
theorem dX2_repeat_87 : decode cX2_repeat 87 = .ok (.ireturn, 1) := by decide +kernel
theorem dX2_repeat_88 : decode cX2_repeat 88 = .ok (.aload_n 2, 1) := by decide +kernel
theorem dX2_repeat_89 : decode cX2_repeat 89 = .ok (.iload 4, 2) := by decide +kernel
theorem dX2_repeat_91 : decode cX2_repeat 91 = .ok (.iload 5, 2) := by decide +kernel
theorem dX2_repeat_93 : decode cX2_repeat 93 = .ok (.iload 6, 2) := by decide +kernel
theorem dX2_repeat_95 : decode cX2_repeat 95 = .ok (.iload 7, 2) := by decide +kernel
theorem dX2_repeat_97 : decode cX2_repeat 97 = .ok (.iload 8, 2) := by decide +kernel
theorem dX2_repeat_99 : decode cX2_repeat 99 = .ok (.invokevirtual 35, 3) := by decide +kernel
theorem dX2_repeat_102 : decode cX2_repeat 102 = .ok (.pop, 1) := by decide +kernel
theorem dX2_repeat_103 : decode cX2_repeat 103 = .ok (.iconst 1, 1) := by decide +kernel
theorem dX2_repeat_104 : decode cX2_repeat 104 = .ok (.ireturn, 1) := by decide +kernel
theorem dX3_init_0 : decode cX3_init 0 = .ok (.aload_n 0, 1) := by decide +kernel
theorem dX3_init_1 : decode cX3_init 1 = .ok (.invokespecial 3, 3) := by decide +kernel
theorem dX3_init_4 : decode cX3_init 4 = .ok (.return_, 1) := by decide +kernel
theorem dX3_begin_0 : decode cX3_begin 0 = .ok (.aload_n 0, 1) := by decide +kernel
theorem dX3_begin_1 : decode cX3_begin 1 = .ok (.iload_n 1, 1) := by decide +kernel
theorem dX3_begin_2 : decode cX3_begin 2 = .ok (.putfield 9, 3) := by decide +kernel
theorem dX3_begin_5 : decode cX3_begin 5 = .ok (.aload_n 0, 1) := by decide +kernel
theorem dX3_begin_6 : decode cX3_begin 6 = .ok (.iload_n 2, 1) := by decide +kernel
theorem dX3_begin_7 : decode cX3_begin 7 = .ok (.putfield 15, 3) := by decide +kernel
theorem dX3_begin_10 : decode cX3_begin 10 = .ok (.aload_n 0, 1) := by decide +kernel
theorem dX3_begin_11 : decode cX3_begin 11 = .ok (.iconst 0, 1) := by decide +kernel
theorem dX3_begin_12 : decode cX3_begin 12 = .ok (.putfield 18, 3) := by decide +kernel
theorem dX3_begin_15 : decode cX3_begin 15 = .ok (.aload_n 0, 1) := by decide +kernel
theorem dX3_begin_16 : decode cX3_begin 16 = .ok (.bipush 45, 2) := by decide +kernel
theorem dX3_begin_18 : decode cX3_begin 18 = .ok (.putfield 21, 3) := by decide +kernel
theorem dX3_begin_21 : decode cX3_begin 21 = .ok (.aload_n 0, 1) := by decide +kernel
theorem dX3_begin_22 : decode cX3_begin 22 = .ok (.iconst 0, 1) := by decide +kernel
theorem dX3_begin_23 : decode cX3_begin 23 = .ok (.putfield 25, 3) := by decide +kernel
theorem dX3_begin_26 : decode cX3_begin 26 = .ok (.aload_n 0, 1) := by decide +kernel
theorem dX3_begin_27 : decode cX3_begin 27 = .ok (.iload_n 3, 1) := by decide +kernel
theorem dX3_begin_28 : decode cX3_begin 28 = .ok (.putfield 29, 3) := by decide +kernel
theorem dX3_begin_31 : decode cX3_begin 31 = .ok (.aload_n 0, 1) := by decide +kernel
theorem dX3_begin_32 : decode cX3_begin 32 = .ok (.iconst 0, 1) := by decide +kernel
theorem dX3_begin_33 : decode cX3_begin 33 = .ok (.putfield 32, 3) := by decide +kernel
theorem dX3_begin_36 : decode cX3_begin 36 = .ok (.return_, 1) := by decide +kernel
theorem dX3_goesBy_0 : decode cX3_goesBy 0 = .ok (.aload_n 0, 1) := by decide +kernel
theorem dX3_goesBy_1 : decode cX3_goesBy 1 = .ok (.getfield 21, 3) := by decide +kernel
theorem dX3_goesBy_4 : decode cX3_goesBy 4 = .ok (.bipush 45, 2) := by decide +kernel
theorem dX3_goesBy_6 : decode cX3_goesBy 6 = .ok (.if_icmp .ne 19, 3) := by decide +kernel
theorem dX3_goesBy_9 : decode cX3_goesBy 9 = .ok (.aload_n 0, 1) := by decide +kernel
theorem dX3_goesBy_10 : decode cX3_goesBy 10 = .ok (.getfield 18, 3) := by decide +kernel
theorem dX3_goesBy_13 : decode cX3_goesBy 13 = .ok (.iload_n 1, 1) := by decide +kernel
theorem dX3_goesBy_14 : decode cX3_goesBy 14 = .ok (.if_icmp .lt 7, 3) := by decide +kernel
theorem dX3_goesBy_17 : decode cX3_goesBy 17 = .ok (.iconst 1, 1) := by decide +kernel
theorem dX3_goesBy_18 : decode cX3_goesBy 18 = .ok (.goto 20, 3) := by decide +kernel
theorem dX3_goesBy_21 : decode cX3_goesBy 21 = .ok (.iconst 0, 1) := by decide +kernel
theorem dX3_goesBy_22 : decode cX3_goesBy 22 = .ok (.goto 16, 3) := by decide +kernel
theorem dX3_goesBy_25 : decode cX3_goesBy 25 = .ok (.aload_n 0, 1) := by decide +kernel
theorem dX3_goesBy_26 : decode cX3_goesBy 26 = .ok (.getfield 21, 3) := by decide +kernel
theorem dX3_goesBy_29 : decode cX3_goesBy 29 = .ok (.iload_n 2, 1) := by decide +kernel
theorem dX3_goesBy_30 : decode cX3_goesBy 30 = .ok (.if_icmp .ne 7, 3) := by decide +kernel
theorem dX3_goesBy_33 : decode cX3_goesBy 33 = .ok (.iconst 1, 1) := by decide +kernel
theorem dX3_goesBy_34 : decode cX3_goesBy 34 = .ok (.goto 4, 3) := by decide +kernel
theorem dX3_goesBy_37 : decode cX3_goesBy 37 = .ok (.iconst 0, 1) := by decide +kernel
theorem dX3_goesBy_38 : decode cX3_goesBy 38 = .ok (.ireturn, 1) := by decide +kernel
theorem dX3_isLike_0 : decode cX3_isLike 0 = .ok (.aload_n 0, 1) := by decide +kernel
theorem dX3_isLike_1 : decode cX3_isLike 1 = .ok (.getfield 9, 3) := by decide +kernel
theorem dX3_isLike_4 : decode cX3_isLike 4 = .ok (.aload_n 1, 1) := by decide +kernel
theorem dX3_isLike_5 : decode cX3_isLike 5 = .ok (.getfield 9, 3) := by decide +kernel
theorem dX3_isLike_8 : decode cX3_isLike 8 = .ok (.if_icmp .ne 73, 3) := by decide +kernel
theorem dX3_isLike_11 : decode cX3_isLike 11 = .ok (.aload_n 0, 1) := by decide +kernel
theorem dX3_isLike_12 : decode cX3_isLike 12 = .ok (.getfield 15, 3) := by decide +kernel
theorem dX3_isLike_15 : decode cX3_isLike 15 = .ok (.aload_n 1, 1) := by decide +kernel
theorem dX3_isLike_16 : decode cX3_isLike 16 = .ok (.getfield 15, 3) := by decide +kernel
theorem dX3_isLike_19 : decode cX3_isLike 19 = .ok (.if_icmp .ne 62, 3) := by decide +kernel
theorem dX3_isLike_22 : decode cX3_isLike 22 = .ok (.aload_n 0, 1) := by decide +kernel
theorem dX3_isLike_23 : decode cX3_isLike 23 = .ok (.getfield 18, 3) := by decide +kernel
theorem dX3_isLike_26 : decode cX3_isLike 26 = .ok (.aload_n 1, 1) := by decide +kernel
theorem dX3_isLike_27 : decode cX3_isLike 27 = .ok (.getfield 18, 3) := by decide +kernel
theorem dX3_isLike_30 : decode cX3_isLike 30 = .ok (.if_icmp .ne 51, 3) := by decide +kernel
theorem dX3_isLike_33 : decode cX3_isLike 33 = .ok (.aload_n 0, 1) := by decide +kernel
theorem dX3_isLike_34 : decode cX3_isLike 34 = .ok (.getfield 21, 3) := by decide +kernel
theorem dX3_isLike_37 : decode cX3_isLike 37 = .ok (.aload_n 1, 1) := by decide +kernel
theorem dX3_isLike_38 : decode cX3_isLike 38 = .ok (.getfield 21, 3) := by decide +kernel
theorem dX3_isLike_41 : decode cX3_isLike 41 = .ok (.if_icmp .ne 40, 3) := by decide +kernel
theorem dX3_isLike_44 : decode cX3_isLike 44 = .ok (.aload_n 0, 1) := by decide +kernel
theorem dX3_isLike_45 : decode cX3_isLike 45 = .ok (.getfield 25, 3) := by decide +kernel
theorem dX3_isLike_48 : decode cX3_isLike 48 = .ok (.aload_n 1, 1) := by decide +kernel
theorem dX3_isLike_49 : decode cX3_isLike 49 = .ok (.getfield 25, 3) := by decide +kernel
theorem dX3_isLike_52 : decode cX3_isLike 52 = .ok (.if_icmp .ne 29, 3) := by decide +kernel
theorem dX3_isLike_55 : decode cX3_isLike 55 = .ok (.aload_n 0, 1) := by decide +kernel
theorem dX3_isLike_56 : decode cX3_isLike 56 = .ok (.getfield 29, 3) := by decide +kernel
theorem dX3_isLike_59 : decode cX3_isLike 59 = .ok (.aload_n 1, 1) := by decide +kernel
theorem dX3_isLike_60 : decode cX3_isLike 60 = .ok (.getfield 29, 3) := by decide +kernel
theorem dX3_isLike_63 : decode cX3_isLike 63 = .ok (.if_icmp .ne 18, 3) := by decide +kernel
theorem dX3_isLike_66 : decode cX3_isLike 66 = .ok (.aload_n 0, 1) := by decide +kernel
theorem dX3_isLike_67 : decode cX3_isLike 67 = .ok (.getfield 32, 3) := by decide +kernel
theorem dX3_isLike_70 : decode cX3_isLike 70 = .ok (.aload_n 1, 1) := by decide +kernel
theorem dX3_isLike_71 : decode cX3_isLike 71 = .ok (.getfield 32, 3) := by decide +kernel
theorem dX3_isLike_74 : decode cX3_isLike 74 = .ok (.if_icmp .ne 7, 3) := by decide +kernel
theorem dX3_isLike_77 : decode cX3_isLike 77 = .ok (.iconst 1, 1) := by decide +kernel
theorem dX3_isLike_78 : decode cX3_isLike 78 = .ok (.goto 4, 3) := by decide +kernel
theorem dX3_isLike_81 : decode cX3_isLike 81 = .ok (.iconst 0, 1) := by decide +kernel
theorem dX3_isLike_82 : decode cX3_isLike 82 = .ok (.ireturn, 1) := by decide +kernel
theorem dX4_init_0 : decode cX4_init 0 = .ok (.aload_n 0, 1) := by decide +kernel
theorem dX4_init_1 : decode cX4_init 1 = .ok (.invokespecial 3, 3) := by decide +kernel
theorem dX4_init_4 : decode cX4_init 4 = .ok (.aload_n 0, 1) := by decide +kernel
theorem dX4_init_5 : decode cX4_init 5 = .ok (.bipush 6, 2) := by decide +kernel
theorem dX4_init_7 : decode cX4_init 7 = .ok (.newarray .int, 2) := by decide +kernel
theorem dX4_init_9 : decode cX4_init 9 = .ok (.putfield 9, 3) := by decide +kernel
theorem dX4_init_12 : decode cX4_init 12 = .ok (.aload_n 0, 1) := by decide +kernel
theorem dX4_init_13 : decode cX4_init 13 = .ok (.bipush 6, 2) := by decide +kernel
theorem dX4_init_15 : decode cX4_init 15 = .ok (.newarray .int, 2) := by decide +kernel
theorem dX4_init_17 : decode cX4_init 17 = .ok (.putfield 15, 3) := by decide +kernel
theorem dX4_init_20 : decode cX4_init 20 = .ok (.return_, 1) := by decide +kernel
theorem dX4_begin_0 : decode cX4_begin 0 = .ok (.aload_n 0, 1) := by decide +kernel
theorem dX4_begin_1 : decode cX4_begin 1 = .ok (.iconst 0, 1) := by decide +kernel
theorem dX4_begin_2 : decode cX4_begin 2 = .ok (.putfield 18, 3) := by decide +kernel
theorem dX4_begin_5 : decode cX4_begin 5 = .ok (.aload_n 0, 1) := by decide +kernel
theorem dX4_begin_6 : decode cX4_begin 6 = .ok (.iconst 0, 1) := by decide +kernel
theorem dX4_begin_7 : decode cX4_begin 7 = .ok (.putfield 22, 3) := by decide +kernel
theorem dX4_begin_10 : decode cX4_begin 10 = .ok (.return_, 1) := by decide +kernel
theorem dX4_isLike_0 : decode cX4_isLike 0 = .ok (.aload_n 0, 1) := by decide +kernel
theorem dX4_isLike_1 : decode cX4_isLike 1 = .ok (.getfield 18, 3) := by decide +kernel
theorem dX4_isLike_4 : decode cX4_isLike 4 = .ok (.aload_n 1, 1) := by decide +kernel
theorem dX4_isLike_5 : decode cX4_isLike 5 = .ok (.getfield 18, 3) := by decide +kernel
theorem dX4_isLike_8 : decode cX4_isLike 8 = .ok (.if_icmp .ne 14, 3) := by decide +kernel
theorem dX4_isLike_11 : decode cX4_isLike 11 = .ok (.aload_n 0, 1) := by decide +kernel
theorem dX4_isLike_12 : decode cX4_isLike 12 = .ok (.getfield 22, 3) := by decide +kernel
theorem dX4_isLike_15 : decode cX4_isLike 15 = .ok (.aload_n 1, 1) := by decide +kernel
theorem dX4_isLike_16 : decode cX4_isLike 16 = .ok (.getfield 22, 3) := by decide +kernel
theorem dX4_isLike_19 : decode cX4_isLike 19 = .ok (.if_icmp .eq 5, 3) := by decide +kernel
theorem dX4_isLike_22 : decode cX4_isLike 22 = .ok (.iconst 0, 1) := by decide +kernel
theorem dX4_isLike_23 : decode cX4_isLike 23 = .ok (.ireturn, 1) := by decide +kernel
theorem dX4_isLike_24 : decode cX4_isLike 24 = .ok (.iconst 0, 1) := by decide +kernel
theorem dX4_isLike_25 : decode cX4_isLike 25 = .ok (.istore_n 2, 1) := by decide +kernel
theorem dX4_isLike_26 : decode cX4_isLike 26 = .ok (.iload_n 2, 1) := by decide +kernel
theorem dX4_isLike_27 : decode cX4_isLike 27 = .ok (.aload_n 0, 1) := by decide +kernel
theorem dX4_isLike_28 : decode cX4_isLike 28 = .ok (.getfield 18, 3) := by decide +kernel
theorem dX4_isLike_31 : decode cX4_isLike 31 = .ok (.if_icmp .ge 47, 3) := by decide +kernel
theorem dX4_isLike_34 : decode cX4_isLike 34 = .ok (.iload_n 2, 1) := by decide +kernel
theorem dX4_isLike_35 : decode cX4_isLike 35 = .ok (.bipush 6, 2) := by decide +kernel
theorem dX4_isLike_37 : decode cX4_isLike 37 = .ok (.if_icmp .ge 41, 3) := by decide +kernel
theorem dX4_isLike_40 : decode cX4_isLike 40 = .ok (.aload_n 0, 1) := by decide +kernel
theorem dX4_isLike_41 : decode cX4_isLike 41 = .ok (.getfield 9, 3) := by decide +kernel
theorem dX4_isLike_44 : decode cX4_isLike 44 = .ok (.iload_n 2, 1) := by decide +kernel
theorem dX4_isLike_45 : decode cX4_isLike 45 = .ok (.iaload, 1) := by decide +kernel
theorem dX4_isLike_46 : decode cX4_isLike 46 = .ok (.aload_n 1, 1) := by decide +kernel
theorem dX4_isLike_47 : decode cX4_isLike 47 = .ok (.getfield 9, 3) := by decide +kernel
theorem dX4_isLike_50 : decode cX4_isLike 50 = .ok (.iload_n 2, 1) := by decide +kernel
theorem dX4_isLike_51 : decode cX4_isLike 51 = .ok (.iaload, 1) := by decide +kernel
theorem dX4_isLike_52 : decode cX4_isLike 52 = .ok (.if_icmp .ne 18, 3) := by decide +kernel
theorem dX4_isLike_55 : decode cX4_isLike 55 = .ok (.aload_n 0, 1) := by decide +kernel
theorem dX4_isLike_56 : decode cX4_isLike 56 = .ok (.getfield 15, 3) := by decide +kernel
theorem dX4_isLike_59 : decode cX4_isLike 59 = .ok (.iload_n 2, 1) := by decide +kernel
theorem dX4_isLike_60 : decode cX4_isLike 60 = .ok (.iaload, 1) := by decide +kernel
theorem dX4_isLike_61 : decode cX4_isLike 61 = .ok (.aload_n 1, 1) := by decide +kernel
theorem dX4_isLike_62 : decode cX4_isLike 62 = .ok (.getfield 15, 3) := by decide +kernel
theorem dX4_isLike_65 : decode cX4_isLike 65 = .ok (.iload_n 2, 1) := by decide +kernel
theorem dX4_isLike_66 : decode cX4_isLike 66 = .ok (.iaload, 1) := by decide +kernel
theorem dX4_isLike_67 : decode cX4_isLike 67 = .ok (.if_icmp .eq 5, 3) := by decide +kernel
theorem dX4_isLike_70 : decode cX4_isLike 70 = .ok (.iconst 0, 1) := by decide +kernel
theorem dX4_isLike_71 : decode cX4_isLike 71 = .ok (.ireturn, 1) := by decide +kernel
theorem dX4_isLike_72 : decode cX4_isLike 72 = .ok (.iinc 2 1, 3) := by decide +kernel
theorem dX4_isLike_75 : decode cX4_isLike 75 = .ok (.goto (-49), 3) := by decide +kernel
theorem dX4_isLike_78 : decode cX4_isLike 78 = .ok (.iconst 1, 1) := by decide +kernel
theorem dX4_isLike_79 : decode cX4_isLike 79 = .ok (.ireturn, 1) := by decide +kernel
theorem dX5_init_0 : decode cX5_init 0 = .ok (.aload_n 0, 1) := by decide +kernel
theorem dX5_init_1 : decode cX5_init 1 = .ok (.invokespecial 3, 3) := by decide +kernel
theorem dX5_init_4 : decode cX5_init 4 = .ok (.aload_n 0, 1) := by decide +kernel
theorem dX5_init_5 : decode cX5_init 5 = .ok (.bipush 8, 2) := by decide +kernel
theorem dX5_init_7 : decode cX5_init 7 = .ok (.anewarray 9, 3) := by decide +kernel
theorem dX5_init_10 : decode cX5_init 10 = .ok (.putfield 11, 3) := by decide +kernel
theorem dX5_init_13 : decode cX5_init 13 = .ok (.aload_n 0, 1) := by decide +kernel
theorem dX5_init_14 : decode cX5_init 14 = .ok (.bipush 24, 2) := by decide +kernel
theorem dX5_init_16 : decode cX5_init 16 = .ok (.anewarray 17, 3) := by decide +kernel
theorem dX5_init_19 : decode cX5_init 19 = .ok (.putfield 19, 3) := by decide +kernel
theorem dX5_init_22 : decode cX5_init 22 = .ok (.aload_n 0, 1) := by decide +kernel
theorem dX5_init_23 : decode cX5_init 23 = .ok (.bipush 30, 2) := by decide +kernel
theorem dX5_init_25 : decode cX5_init 25 = .ok (.anewarray 23, 3) := by decide +kernel
theorem dX5_init_28 : decode cX5_init 28 = .ok (.putfield 25, 3) := by decide +kernel
theorem dX5_init_31 : decode cX5_init 31 = .ok (.aload_n 0, 1) := by decide +kernel
theorem dX5_init_32 : decode cX5_init 32 = .ok (.bipush 12, 2) := by decide +kernel
theorem dX5_init_34 : decode cX5_init 34 = .ok (.anewarray 29, 3) := by decide +kernel
theorem dX5_init_37 : decode cX5_init 37 = .ok (.putfield 31, 3) := by decide +kernel
theorem dX5_init_40 : decode cX5_init 40 = .ok (.aload_n 0, 1) := by decide +kernel
theorem dX5_init_41 : decode cX5_init 41 = .ok (.new 35, 3) := by decide +kernel
theorem dX5_init_44 : decode cX5_init 44 = .ok (.dup, 1) := by decide +kernel
theorem dX5_init_45 : decode cX5_init 45 = .ok (.invokespecial 37, 3) := by decide +kernel
theorem dX5_init_48 : decode cX5_init 48 = .ok (.putfield 38, 3) := by decide +kernel
theorem dX5_init_51 : decode cX5_init 51 = .ok (.iconst 0, 1) := by decide +kernel
theorem dX5_init_52 : decode cX5_init 52 = .ok (.istore_n 1, 1) := by decide +kernel
theorem dX5_init_53 : decode cX5_init 53 = .ok (.iload_n 1, 1) := by decide +kernel
theorem dX5_init_54 : decode cX5_init 54 = .ok (.bipush 8, 2) := by decide +kernel
theorem dX5_init_56 : decode cX5_init 56 = .ok (.if_icmp .ge 22, 3) := by decide +kernel
theorem dX5_init_59 : decode cX5_init 59 = .ok (.aload_n 0, 1) := by decide +kernel
theorem dX5_init_60 : decode cX5_init 60 = .ok (.getfield 11, 3) := by decide +kernel
theorem dX5_init_63 : decode cX5_init 63 = .ok (.iload_n 1, 1) := by decide +kernel
theorem dX5_init_64 : decode cX5_init 64 = .ok (.new 9, 3) := by decide +kernel
theorem dX5_init_67 : decode cX5_init 67 = .ok (.dup, 1) := by decide +kernel
theorem dX5_init_68 : decode cX5_init 68 = .ok (.invokespecial 42, 3) := by decide +kernel
theorem dX5_init_71 : decode cX5_init 71 = .ok (.aastore, 1) := by decide +kernel
theorem dX5_init_72 : decode cX5_init 72 = .ok (.iinc 1 1, 3) := by decide +kernel
theorem dX5_init_75 : decode cX5_init 75 = .ok (.goto (-22), 3) := by decide +kernel
theorem dX5_init_78 : decode cX5_init 78 = .ok (.iconst 0, 1) := by decide +kernel
theorem dX5_init_79 : decode cX5_init 79 = .ok (.istore_n 1, 1) := by decide +kernel
theorem dX5_init_80 : decode cX5_init 80 = .ok (.iload_n 1, 1) := by decide +kernel
theorem dX5_init_81 : decode cX5_init 81 = .ok (.bipush 24, 2) := by decide +kernel
theorem dX5_init_83 : decode cX5_init 83 = .ok (.if_icmp .ge 22, 3) := by decide +kernel
theorem dX5_init_86 : decode cX5_init 86 = .ok (.aload_n 0, 1) := by decide +kernel
theorem dX5_init_87 : decode cX5_init 87 = .ok (.getfield 19, 3) := by decide +kernel
theorem dX5_init_90 : decode cX5_init 90 = .ok (.iload_n 1, 1) := by decide +kernel
theorem dX5_init_91 : decode cX5_init 91 = .ok (.new 17, 3) := by decide +kernel
theorem dX5_init_94 : decode cX5_init 94 = .ok (.dup, 1) := by decide +kernel
theorem dX5_init_95 : decode cX5_init 95 = .ok (.invokespecial 43, 3) := by decide +kernel
theorem dX5_init_98 : decode cX5_init 98 = .ok (.aastore, 1) := by decide +kernel
theorem dX5_init_99 : decode cX5_init 99 = .ok (.iinc 1 1, 3) := by decide +kernel
theorem dX5_init_102 : decode cX5_init 102 = .ok (.goto (-22), 3) := by decide +kernel
theorem dX5_init_105 : decode cX5_init 105 = .ok (.iconst 0, 1) := by decide +kernel
theorem dX5_init_106 : decode cX5_init 106 = .ok (.istore_n 1, 1) := by decide +kernel
theorem dX5_init_107 : decode cX5_init 107 = .ok (.iload_n 1, 1) := by decide +kernel
theorem dX5_init_108 : decode cX5_init 108 = .ok (.bipush 30, 2) := by decide +kernel
theorem dX5_init_110 : decode cX5_init 110 = .ok (.if_icmp .ge 22, 3) := by decide +kernel
theorem dX5_init_113 : decode cX5_init 113 = .ok (.aload_n 0, 1) := by decide +kernel
theorem dX5_init_114 : decode cX5_init 114 = .ok (.getfield 25, 3) := by decide +kernel
theorem dX5_init_117 : decode cX5_init 117 = .ok (.iload_n 1, 1) := by decide +kernel
theorem dX5_init_118 : decode cX5_init 118 = .ok (.new 23, 3) := by decide +kernel
theorem dX5_init_121 : decode cX5_init 121 = .ok (.dup, 1) := by decide +kernel
theorem dX5_init_122 : decode cX5_init 122 = .ok (.invokespecial 44, 3) := by decide +kernel
theorem dX5_init_125 : decode cX5_init 125 = .ok (.aastore, 1) := by decide +kernel
theorem dX5_init_126 : decode cX5_init 126 = .ok (.iinc 1 1, 3) := by decide +kernel
theorem dX5_init_129 : decode cX5_init 129 = .ok (.goto (-22), 3) := by decide +kernel
theorem dX5_init_132 : decode cX5_init 132 = .ok (.iconst 0, 1) := by decide +kernel
theorem dX5_init_133 : decode cX5_init 133 = .ok (.istore_n 1, 1) := by decide +kernel
theorem dX5_init_134 : decode cX5_init 134 = .ok (.iload_n 1, 1) := by decide +kernel
theorem dX5_init_135 : decode cX5_init 135 = .ok (.bipush 12, 2) := by decide +kernel
theorem dX5_init_137 : decode cX5_init 137 = .ok (.if_icmp .ge 22, 3) := by decide +kernel
theorem dX5_init_140 : decode cX5_init 140 = .ok (.aload_n 0, 1) := by decide +kernel
theorem dX5_init_141 : decode cX5_init 141 = .ok (.getfield 31, 3) := by decide +kernel
theorem dX5_init_144 : decode cX5_init 144 = .ok (.iload_n 1, 1) := by decide +kernel
theorem dX5_init_145 : decode cX5_init 145 = .ok (.new 29, 3) := by decide +kernel
theorem dX5_init_148 : decode cX5_init 148 = .ok (.dup, 1) := by decide +kernel
theorem dX5_init_149 : decode cX5_init 149 = .ok (.invokespecial 45, 3) := by decide +kernel
theorem dX5_init_152 : decode cX5_init 152 = .ok (.aastore, 1) := by decide +kernel
theorem dX5_init_153 : decode cX5_init 153 = .ok (.iinc 1 1, 3) := by decide +kernel
theorem dX5_init_156 : decode cX5_init 156 = .ok (.goto (-22), 3) := by decide +kernel
theorem dX5_init_159 : decode cX5_init 159 = .ok (.aload_n 0, 1) := by decide +kernel
theorem dX5_init_160 : decode cX5_init 160 = .ok (.sipush 180, 3) := by decide +kernel
theorem dX5_init_163 : decode cX5_init 163 = .ok (.putfield 46, 3) := by decide +kernel
theorem dX5_init_166 : decode cX5_init 166 = .ok (.return_, 1) := by decide +kernel
theorem dX5_clear_0 : decode cX5_clear 0 = .ok (.aload_n 0, 1) := by decide +kernel
theorem dX5_clear_1 : decode cX5_clear 1 = .ok (.iconst 0, 1) := by decide +kernel
theorem dX5_clear_2 : decode cX5_clear 2 = .ok (.putfield 50, 3) := by decide +kernel
theorem dX5_clear_5 : decode cX5_clear 5 = .ok (.aload_n 0, 1) := by decide +kernel
theorem dX5_clear_6 : decode cX5_clear 6 = .ok (.iconst 0, 1) := by decide +kernel
theorem dX5_clear_7 : decode cX5_clear 7 = .ok (.putfield 53, 3) := by decide +kernel
theorem dX5_clear_10 : decode cX5_clear 10 = .ok (.aload_n 0, 1) := by decide +kernel
theorem dX5_clear_11 : decode cX5_clear 11 = .ok (.iconst 0, 1) := by decide +kernel
theorem dX5_clear_12 : decode cX5_clear 12 = .ok (.putfield 56, 3) := by decide +kernel
theorem dX5_clear_15 : decode cX5_clear 15 = .ok (.aload_n 0, 1) := by decide +kernel
theorem dX5_clear_16 : decode cX5_clear 16 = .ok (.iconst 0, 1) := by decide +kernel
theorem dX5_clear_17 : decode cX5_clear 17 = .ok (.putfield 59, 3) := by decide +kernel
theorem dX5_clear_20 : decode cX5_clear 20 = .ok (.aload_n 0, 1) := by decide +kernel
theorem dX5_clear_21 : decode cX5_clear 21 = .ok (.getfield 38, 3) := by decide +kernel
theorem dX5_clear_24 : decode cX5_clear 24 = .ok (.iconst 0, 1) := by decide +kernel
theorem dX5_clear_25 : decode cX5_clear 25 = .ok (.putfield 62, 3) := by decide +kernel
theorem dX5_clear_28 : decode cX5_clear 28 = .ok (.aload_n 0, 1) := by decide +kernel
theorem dX5_clear_29 : decode cX5_clear 29 = .ok (.iconst 0, 1) := by decide +kernel
theorem dX5_clear_30 : decode cX5_clear 30 = .ok (.putfield 65, 3) := by decide +kernel
theorem dX5_clear_33 : decode cX5_clear 33 = .ok (.aload_n 0, 1) := by decide +kernel
theorem dX5_clear_34 : decode cX5_clear 34 = .ok (.sipush 180, 3) := by decide +kernel
theorem dX5_clear_37 : decode cX5_clear 37 = .ok (.putfield 46, 3) := by decide +kernel
theorem dX5_clear_40 : decode cX5_clear 40 = .ok (.aload_n 0, 1) := by decide +kernel
theorem dX5_clear_41 : decode cX5_clear 41 = .ok (.lconst 0, 1) := by decide +kernel
theorem dX5_clear_42 : decode cX5_clear 42 = .ok (.putfield 68, 3) := by decide +kernel
theorem dX5_clear_45 : decode cX5_clear 45 = .ok (.aload_n 0, 1) := by decide +kernel
theorem dX5_clear_46 : decode cX5_clear 46 = .ok (.iconst 0, 1) := by decide +kernel
theorem dX5_clear_47 : decode cX5_clear 47 = .ok (.putfield 72, 3) := by decide +kernel
theorem dX5_clear_50 : decode cX5_clear 50 = .ok (.return_, 1) := by decide +kernel
theorem dX5_hasRigger_0 : decode cX5_hasRigger 0 = .ok (.iload_n 1, 1) := by decide +kernel
theorem dX5_hasRigger_1 : decode cX5_hasRigger 1 = .ok (.ifCond .lt 15, 3) := by decide +kernel
theorem dX5_hasRigger_4 : decode cX5_hasRigger 4 = .ok (.iload_n 1, 1) := by decide +kernel
theorem dX5_hasRigger_5 : decode cX5_hasRigger 5 = .ok (.aload_n 0, 1) := by decide +kernel
theorem dX5_hasRigger_6 : decode cX5_hasRigger 6 = .ok (.getfield 50, 3) := by decide +kernel
theorem dX5_hasRigger_9 : decode cX5_hasRigger 9 = .ok (.if_icmp .ge 7, 3) := by decide +kernel
theorem dX5_hasRigger_12 : decode cX5_hasRigger 12 = .ok (.iconst 1, 1) := by decide +kernel
theorem dX5_hasRigger_13 : decode cX5_hasRigger 13 = .ok (.goto 4, 3) := by decide +kernel
theorem dX5_hasRigger_16 : decode cX5_hasRigger 16 = .ok (.iconst 0, 1) := by decide +kernel
theorem dX5_hasRigger_17 : decode cX5_hasRigger 17 = .ok (.ireturn, 1) := by decide +kernel
theorem dX5_hasCanopy_0 : decode cX5_hasCanopy 0 = .ok (.iload_n 1, 1) := by decide +kernel
theorem dX5_hasCanopy_1 : decode cX5_hasCanopy 1 = .ok (.ifCond .lt 15, 3) := by decide +kernel
theorem dX5_hasCanopy_4 : decode cX5_hasCanopy 4 = .ok (.iload_n 1, 1) := by decide +kernel
theorem dX5_hasCanopy_5 : decode cX5_hasCanopy 5 = .ok (.aload_n 0, 1) := by decide +kernel
theorem dX5_hasCanopy_6 : decode cX5_hasCanopy 6 = .ok (.getfield 53, 3) := by decide +kernel
theorem dX5_hasCanopy_9 : decode cX5_hasCanopy 9 = .ok (.if_icmp .ge 7, 3) := by decide +kernel
theorem dX5_hasCanopy_12 : decode cX5_hasCanopy 12 = .ok (.iconst 1, 1) := by decide +kernel
theorem dX5_hasCanopy_13 : decode cX5_hasCanopy 13 = .ok (.goto 4, 3) := by decide +kernel
theorem dX5_hasCanopy_16 : decode cX5_hasCanopy 16 = .ok (.iconst 0, 1) := by decide +kernel
theorem dX5_hasCanopy_17 : decode cX5_hasCanopy 17 = .ok (.ireturn, 1) := by decide +kernel
theorem dX5_hasLoad_0 : decode cX5_hasLoad 0 = .ok (.iload_n 1, 1) := by decide +kernel
theorem dX5_hasLoad_1 : decode cX5_hasLoad 1 = .ok (.ifCond .lt 15, 3) := by decide +kernel
theorem dX5_hasLoad_4 : decode cX5_hasLoad 4 = .ok (.iload_n 1, 1) := by decide +kernel
theorem dX5_hasLoad_5 : decode cX5_hasLoad 5 = .ok (.aload_n 0, 1) := by decide +kernel
theorem dX5_hasLoad_6 : decode cX5_hasLoad 6 = .ok (.getfield 56, 3) := by decide +kernel
theorem dX5_hasLoad_9 : decode cX5_hasLoad 9 = .ok (.if_icmp .ge 7, 3) := by decide +kernel
theorem dX5_hasLoad_12 : decode cX5_hasLoad 12 = .ok (.iconst 1, 1) := by decide +kernel
theorem dX5_hasLoad_13 : decode cX5_hasLoad 13 = .ok (.goto 4, 3) := by decide +kernel
theorem dX5_hasLoad_16 : decode cX5_hasLoad 16 = .ok (.iconst 0, 1) := by decide +kernel
theorem dX5_hasLoad_17 : decode cX5_hasLoad 17 = .ok (.ireturn, 1) := by decide +kernel
theorem dX5_hasFinding_0 : decode cX5_hasFinding 0 = .ok (.iload_n 1, 1) := by decide +kernel
theorem dX5_hasFinding_1 : decode cX5_hasFinding 1 = .ok (.ifCond .lt 15, 3) := by decide +kernel
theorem dX5_hasFinding_4 : decode cX5_hasFinding 4 = .ok (.iload_n 1, 1) := by decide +kernel
theorem dX5_hasFinding_5 : decode cX5_hasFinding 5 = .ok (.aload_n 0, 1) := by decide +kernel
theorem dX5_hasFinding_6 : decode cX5_hasFinding 6 = .ok (.getfield 59, 3) := by decide +kernel
theorem dX5_hasFinding_9 : decode cX5_hasFinding 9 = .ok (.if_icmp .ge 7, 3) := by decide +kernel
theorem dX5_hasFinding_12 : decode cX5_hasFinding 12 = .ok (.iconst 1, 1) := by decide +kernel
theorem dX5_hasFinding_13 : decode cX5_hasFinding 13 = .ok (.goto 4, 3) := by decide +kernel
theorem dX5_hasFinding_16 : decode cX5_hasFinding 16 = .ok (.iconst 0, 1) := by decide +kernel
theorem dX5_hasFinding_17 : decode cX5_hasFinding 17 = .ok (.ireturn, 1) := by decide +kernel
theorem dX5_perform_0 : decode cX5_perform 0 = .ok (.aload_n 0, 1) := by decide +kernel
theorem dX5_perform_1 : decode cX5_perform 1 = .ok (.dup, 1) := by decide +kernel
theorem dX5_perform_2 : decode cX5_perform 2 = .ok (.getfield 72, 3) := by decide +kernel
theorem dX5_perform_5 : decode cX5_perform 5 = .ok (.iconst 1, 1) := by decide +kernel
theorem dX5_perform_6 : decode cX5_perform 6 = .ok (.iadd, 1) := by decide +kernel
theorem dX5_perform_7 : decode cX5_perform 7 = .ok (.putfield 72, 3) := by decide +kernel
theorem dX5_perform_10 : decode cX5_perform 10 = .ok (.iload_n 1, 1) := by decide +kernel
theorem dX5_perform_11 : decode cX5_perform 11 = .ok (.tableswitch 304 0 19 #[93, 100, 109, 121, 127, 133, 140, 147, 158, 163, 177, 188, 200, 206, 217, 230, 241, 247, 263, 277], 93) := by decide +kernel
theorem dX5_perform_104 : decode cX5_perform 104 = .ok (.aload_n 0, 1) := by decide +kernel
theorem dX5_perform_105 : decode cX5_perform 105 = .ok (.iload_n 2, 1) := by decide +kernel
theorem dX5_perform_106 : decode cX5_perform 106 = .ok (.iload_n 3, 1) := by decide +kernel
theorem dX5_perform_107 : decode cX5_perform 107 = .ok (.invokevirtual 75, 3) := by decide +kernel
theorem dX5_perform_110 : decode cX5_perform 110 = .ok (.ireturn, 1) := by decide +kernel
theorem dX5_perform_111 : decode cX5_perform 111 = .ok (.aload_n 0, 1) := by decide +kernel
theorem dX5_perform_112 : decode cX5_perform 112 = .ok (.iload_n 2, 1) := by decide +kernel
theorem dX5_perform_113 : decode cX5_perform 113 = .ok (.iload_n 3, 1) := by decide +kernel
theorem dX5_perform_114 : decode cX5_perform 114 = .ok (.iload 4, 2) := by decide +kernel
theorem dX5_perform_116 : decode cX5_perform 116 = .ok (.invokevirtual 79, 3) := by decide +kernel
theorem dX5_perform_119 : decode cX5_perform 119 = .ok (.ireturn, 1) := by decide +kernel
theorem dX5_perform_120 : decode cX5_perform 120 = .ok (.aload_n 0, 1) := by decide +kernel
theorem dX5_perform_121 : decode cX5_perform 121 = .ok (.iload_n 2, 1) := by decide +kernel
theorem dX5_perform_122 : decode cX5_perform 122 = .ok (.i2c, 1) := by decide +kernel
theorem dX5_perform_123 : decode cX5_perform 123 = .ok (.iload_n 3, 1) := by decide +kernel
theorem dX5_perform_124 : decode cX5_perform 124 = .ok (.iload 4, 2) := by decide +kernel
theorem dX5_perform_126 : decode cX5_perform 126 = .ok (.iload 5, 2) := by decide +kernel
theorem dX5_perform_128 : decode cX5_perform 128 = .ok (.invokevirtual 83, 3) := by decide +kernel
theorem dX5_perform_131 : decode cX5_perform 131 = .ok (.ireturn, 1) := by decide +kernel
theorem dX5_perform_132 : decode cX5_perform 132 = .ok (.aload_n 0, 1) := by decide +kernel
theorem dX5_perform_133 : decode cX5_perform 133 = .ok (.iload_n 2, 1) := by decide +kernel
theorem dX5_perform_134 : decode cX5_perform 134 = .ok (.invokevirtual 87, 3) := by decide +kernel
theorem dX5_perform_137 : decode cX5_perform 137 = .ok (.ireturn, 1) := by decide +kernel
theorem dX5_perform_138 : decode cX5_perform 138 = .ok (.aload_n 0, 1) := by decide +kernel
theorem dX5_perform_139 : decode cX5_perform 139 = .ok (.iload_n 2, 1) := by decide +kernel
theorem dX5_perform_140 : decode cX5_perform 140 = .ok (.invokevirtual 91, 3) := by decide +kernel
theorem dX5_perform_143 : decode cX5_perform 143 = .ok (.ireturn, 1) := by decide +kernel
theorem dX5_perform_144 : decode cX5_perform 144 = .ok (.aload_n 0, 1) := by decide +kernel
theorem dX5_perform_145 : decode cX5_perform 145 = .ok (.iload_n 2, 1) := by decide +kernel
theorem dX5_perform_146 : decode cX5_perform 146 = .ok (.iload_n 3, 1) := by decide +kernel
theorem dX5_perform_147 : decode cX5_perform 147 = .ok (.invokevirtual 94, 3) := by decide +kernel
theorem dX5_perform_150 : decode cX5_perform 150 = .ok (.ireturn, 1) := by decide +kernel
theorem dX5_perform_151 : decode cX5_perform 151 = .ok (.aload_n 0, 1) := by decide +kernel
theorem dX5_perform_152 : decode cX5_perform 152 = .ok (.iload_n 2, 1) := by decide +kernel
theorem dX5_perform_153 : decode cX5_perform 153 = .ok (.iload_n 3, 1) := by decide +kernel
theorem dX5_perform_154 : decode cX5_perform 154 = .ok (.invokevirtual 97, 3) := by decide +kernel
theorem dX5_perform_157 : decode cX5_perform 157 = .ok (.ireturn, 1) := by decide +kernel
theorem dX5_perform_158 : decode cX5_perform 158 = .ok (.aload_n 0, 1) := by decide +kernel
theorem dX5_perform_159 : decode cX5_perform 159 = .ok (.aload_n 0, 1) := by decide +kernel
theorem dX5_perform_160 : decode cX5_perform 160 = .ok (.getfield 19, 3) := by decide +kernel
theorem dX5_perform_163 : decode cX5_perform 163 = .ok (.iload_n 2, 1) := by decide +kernel
theorem dX5_perform_164 : decode cX5_perform 164 = .ok (.aaload, 1) := by decide +kernel
theorem dX5_perform_165 : decode cX5_perform 165 = .ok (.invokevirtual 100, 3) := by decide +kernel
theorem dX5_perform_168 : decode cX5_perform 168 = .ok (.ireturn, 1) := by decide +kernel
theorem dX5_perform_169 : decode cX5_perform 169 = .ok (.aload_n 0, 1) := by decide +kernel
theorem dX5_perform_170 : decode cX5_perform 170 = .ok (.invokevirtual 104, 3) := by decide +kernel
theorem dX5_perform_173 : decode cX5_perform 173 = .ok (.ireturn, 1) := by decide +kernel
theorem dX5_perform_174 : decode cX5_perform 174 = .ok (.aload_n 0, 1) := by decide +kernel
theorem dX5_perform_175 : decode cX5_perform 175 = .ok (.aload_n 0, 1) := by decide +kernel
theorem dX5_perform_176 : decode cX5_perform 176 = .ok (.getfield 25, 3) := by decide +kernel
theorem dX5_perform_179 : decode cX5_perform 179 = .ok (.iload_n 2, 1) := by decide +kernel
theorem dX5_perform_180 : decode cX5_perform 180 = .ok (.aaload, 1) := by decide +kernel
theorem dX5_perform_181 : decode cX5_perform 181 = .ok (.iload_n 3, 1) := by decide +kernel
theorem dX5_perform_182 : decode cX5_perform 182 = .ok (.iload 4, 2) := by decide +kernel
theorem dX5_perform_184 : decode cX5_perform 184 = .ok (.invokevirtual 108, 3) := by decide +kernel
theorem dX5_perform_187 : decode cX5_perform 187 = .ok (.ireturn, 1) := by decide +kernel
theorem dX5_perform_188 : decode cX5_perform 188 = .ok (.aload_n 0, 1) := by decide +kernel
theorem dX5_perform_189 : decode cX5_perform 189 = .ok (.aload_n 0, 1) := by decide +kernel
theorem dX5_perform_190 : decode cX5_perform 190 = .ok (.getfield 25, 3) := by decide +kernel
theorem dX5_perform_193 : decode cX5_perform 193 = .ok (.iload_n 2, 1) := by decide +kernel
theorem dX5_perform_194 : decode cX5_perform 194 = .ok (.aaload, 1) := by decide +kernel
theorem dX5_perform_195 : decode cX5_perform 195 = .ok (.invokevirtual 112, 3) := by decide +kernel
theorem dX5_perform_198 : decode cX5_perform 198 = .ok (.ireturn, 1) := by decide +kernel
theorem dX5_perform_199 : decode cX5_perform 199 = .ok (.aload_n 0, 1) := by decide +kernel
theorem dX5_perform_200 : decode cX5_perform 200 = .ok (.aload_n 0, 1) := by decide +kernel
theorem dX5_perform_201 : decode cX5_perform 201 = .ok (.getfield 25, 3) := by decide +kernel
theorem dX5_perform_204 : decode cX5_perform 204 = .ok (.iload_n 2, 1) := by decide +kernel
theorem dX5_perform_205 : decode cX5_perform 205 = .ok (.aaload, 1) := by decide +kernel
theorem dX5_perform_206 : decode cX5_perform 206 = .ok (.iload_n 3, 1) := by decide +kernel
theorem dX5_perform_207 : decode cX5_perform 207 = .ok (.invokevirtual 116, 3) := by decide +kernel
theorem dX5_perform_210 : decode cX5_perform 210 = .ok (.ireturn, 1) := by decide +kernel
theorem dX5_perform_211 : decode cX5_perform 211 = .ok (.aload_n 0, 1) := by decide +kernel
theorem dX5_perform_212 : decode cX5_perform 212 = .ok (.iload_n 2, 1) := by decide +kernel
theorem dX5_perform_213 : decode cX5_perform 213 = .ok (.invokevirtual 120, 3) := by decide +kernel
theorem dX5_perform_216 : decode cX5_perform 216 = .ok (.ireturn, 1) := by decide +kernel
theorem dX5_perform_217 : decode cX5_perform 217 = .ok (.aload_n 0, 1) := by decide +kernel
theorem dX5_perform_218 : decode cX5_perform 218 = .ok (.aload_n 0, 1) := by decide +kernel
theorem dX5_perform_219 : decode cX5_perform 219 = .ok (.getfield 31, 3) := by decide +kernel
theorem dX5_perform_222 : decode cX5_perform 222 = .ok (.iload_n 2, 1) := by decide +kernel
theorem dX5_perform_223 : decode cX5_perform 223 = .ok (.aaload, 1) := by decide +kernel
theorem dX5_perform_224 : decode cX5_perform 224 = .ok (.invokevirtual 123, 3) := by decide +kernel
theorem dX5_perform_227 : decode cX5_perform 227 = .ok (.ireturn, 1) := by decide +kernel
theorem dX5_perform_228 : decode cX5_perform 228 = .ok (.aload_n 0, 1) := by decide +kernel
theorem dX5_perform_229 : decode cX5_perform 229 = .ok (.aload_n 0, 1) := by decide +kernel
theorem dX5_perform_230 : decode cX5_perform 230 = .ok (.getfield 31, 3) := by decide +kernel
theorem dX5_perform_233 : decode cX5_perform 233 = .ok (.iload_n 2, 1) := by decide +kernel
theorem dX5_perform_234 : decode cX5_perform 234 = .ok (.aaload, 1) := by decide +kernel
theorem dX5_perform_235 : decode cX5_perform 235 = .ok (.iload_n 3, 1) := by decide +kernel
theorem dX5_perform_236 : decode cX5_perform 236 = .ok (.i2c, 1) := by decide +kernel
theorem dX5_perform_237 : decode cX5_perform 237 = .ok (.invokevirtual 127, 3) := by decide +kernel
theorem dX5_perform_240 : decode cX5_perform 240 = .ok (.ireturn, 1) := by decide +kernel
theorem dX5_perform_241 : decode cX5_perform 241 = .ok (.aload_n 0, 1) := by decide +kernel
theorem dX5_perform_242 : decode cX5_perform 242 = .ok (.aload_n 0, 1) := by decide +kernel
theorem dX5_perform_243 : decode cX5_perform 243 = .ok (.getfield 31, 3) := by decide +kernel
theorem dX5_perform_246 : decode cX5_perform 246 = .ok (.iload_n 2, 1) := by decide +kernel
theorem dX5_perform_247 : decode cX5_perform 247 = .ok (.aaload, 1) := by decide +kernel
theorem dX5_perform_248 : decode cX5_perform 248 = .ok (.invokevirtual 131, 3) := by decide +kernel
theorem dX5_perform_251 : decode cX5_perform 251 = .ok (.ireturn, 1) := by decide +kernel
theorem dX5_perform_252 : decode cX5_perform 252 = .ok (.aload_n 0, 1) := by decide +kernel
theorem dX5_perform_253 : decode cX5_perform 253 = .ok (.iload_n 2, 1) := by decide +kernel
theorem dX5_perform_254 : decode cX5_perform 254 = .ok (.invokevirtual 134, 3) := by decide +kernel
theorem dX5_perform_257 : decode cX5_perform 257 = .ok (.ireturn, 1) := by decide +kernel
theorem dX5_perform_258 : decode cX5_perform 258 = .ok (.aload_n 0, 1) := by decide +kernel
theorem dX5_perform_259 : decode cX5_perform 259 = .ok (.iload_n 2, 1) := by decide +kernel
theorem dX5_perform_260 : decode cX5_perform 260 = .ok (.iload_n 3, 1) := by decide +kernel
theorem dX5_perform_261 : decode cX5_perform 261 = .ok (.iconst 1, 1) := by decide +kernel
theorem dX5_perform_262 : decode cX5_perform 262 = .ok (.if_icmp .ne 7, 3) := by decide +kernel
theorem dX5_perform_265 : decode cX5_perform 265 = .ok (.iconst 1, 1) := by decide +kernel
theorem dX5_perform_266 : decode cX5_perform 266 = .ok (.goto 4, 3) := by decide +kernel
theorem dX5_perform_269 : decode cX5_perform 269 = .ok (.iconst 0, 1) := by decide +kernel
theorem dX5_perform_270 : decode cX5_perform 270 = .ok (.invokevirtual 137, 3) := by decide +kernel
theorem dX5_perform_273 : decode cX5_perform 273 = .ok (.ireturn, 1) := by decide +kernel
theorem dX5_perform_274 : decode cX5_perform 274 = .ok (.aload_n 0, 1) := by decide +kernel
theorem dX5_perform_275 : decode cX5_perform 275 = .ok (.aload_n 0, 1) := by decide +kernel
theorem dX5_perform_276 : decode cX5_perform 276 = .ok (.getfield 19, 3) := by decide +kernel
theorem dX5_perform_279 : decode cX5_perform 279 = .ok (.iload_n 2, 1) := by decide +kernel
theorem dX5_perform_280 : decode cX5_perform 280 = .ok (.aaload, 1) := by decide +kernel
theorem dX5_perform_281 : decode cX5_perform 281 = .ok (.iload_n 3, 1) := by decide +kernel
theorem dX5_perform_282 : decode cX5_perform 282 = .ok (.iload 4, 2) := by decide +kernel
theorem dX5_perform_284 : decode cX5_perform 284 = .ok (.invokevirtual 141, 3) := by decide +kernel
theorem dX5_perform_287 : decode cX5_perform 287 = .ok (.ireturn, 1) := by decide +kernel
theorem dX5_perform_288 : decode cX5_perform 288 = .ok (.aload_n 0, 1) := by decide +kernel
theorem dX5_perform_289 : decode cX5_perform 289 = .ok (.iload_n 2, 1) := by decide +kernel
theorem dX5_perform_290 : decode cX5_perform 290 = .ok (.iload_n 3, 1) := by decide +kernel
theorem dX5_perform_291 : decode cX5_perform 291 = .ok (.iconst 1, 1) := by decide +kernel
theorem dX5_perform_292 : decode cX5_perform 292 = .ok (.if_icmp .ne 7, 3) := by decide +kernel
theorem dX5_perform_295 : decode cX5_perform 295 = .ok (.iconst 1, 1) := by decide +kernel
theorem dX5_perform_296 : decode cX5_perform 296 = .ok (.goto 4, 3) := by decide +kernel
theorem dX5_perform_299 : decode cX5_perform 299 = .ok (.iconst 0, 1) := by decide +kernel
theorem dX5_perform_300 : decode cX5_perform 300 = .ok (.iload 4, 2) := by decide +kernel
theorem dX5_perform_302 : decode cX5_perform 302 = .ok (.iconst 1, 1) := by decide +kernel
theorem dX5_perform_303 : decode cX5_perform 303 = .ok (.if_icmp .ne 7, 3) := by decide +kernel
theorem dX5_perform_306 : decode cX5_perform 306 = .ok (.iconst 1, 1) := by decide +kernel
theorem dX5_perform_307 : decode cX5_perform 307 = .ok (.goto 4, 3) := by decide +kernel
theorem dX5_perform_310 : decode cX5_perform 310 = .ok (.iconst 0, 1) := by decide +kernel
theorem dX5_perform_311 : decode cX5_perform 311 = .ok (.invokevirtual 145, 3) := by decide +kernel
theorem dX5_perform_314 : decode cX5_perform 314 = .ok (.ireturn, 1) := by decide +kernel
theorem dX5_perform_315 : decode cX5_perform 315 = .ok (.iconst 0, 1) := by decide +kernel
theorem dX5_perform_316 : decode cX5_perform 316 = .ok (.ireturn, 1) := by decide +kernel
theorem dX5_enrol_0 : decode cX5_enrol 0 = .ok (.aload_n 0, 1) := by decide +kernel
theorem dX5_enrol_1 : decode cX5_enrol 1 = .ok (.getfield 11, 3) := by decide +kernel
theorem dX5_enrol_4 : decode cX5_enrol 4 = .ok (.aload_n 0, 1) := by decide +kernel
theorem dX5_enrol_5 : decode cX5_enrol 5 = .ok (.getfield 50, 3) := by decide +kernel
theorem dX5_enrol_8 : decode cX5_enrol 8 = .ok (.aaload, 1) := by decide +kernel
theorem dX5_enrol_9 : decode cX5_enrol 9 = .ok (.iload_n 1, 1) := by decide +kernel
theorem dX5_enrol_10 : decode cX5_enrol 10 = .ok (.iload_n 2, 1) := by decide +kernel
theorem dX5_enrol_11 : decode cX5_enrol 11 = .ok (.invokevirtual 149, 3) := by decide +kernel
theorem dX5_enrol_14 : decode cX5_enrol 14 = .ok (.aload_n 0, 1) := by decide +kernel
theorem dX5_enrol_15 : decode cX5_enrol 15 = .ok (.dup, 1) := by decide +kernel
theorem dX5_enrol_16 : decode cX5_enrol 16 = .ok (.getfield 50, 3) := by decide +kernel
theorem dX5_enrol_19 : decode cX5_enrol 19 = .ok (.iconst 1, 1) := by decide +kernel
theorem dX5_enrol_20 : decode cX5_enrol 20 = .ok (.iadd, 1) := by decide +kernel
theorem dX5_enrol_21 : decode cX5_enrol 21 = .ok (.putfield 50, 3) := by decide +kernel
theorem dX5_enrol_24 : decode cX5_enrol 24 = .ok (.aload_n 0, 1) := by decide +kernel
theorem dX5_enrol_25 : decode cX5_enrol 25 = .ok (.getfield 50, 3) := by decide +kernel
theorem dX5_enrol_28 : decode cX5_enrol 28 = .ok (.iconst 1, 1) := by decide +kernel
theorem dX5_enrol_29 : decode cX5_enrol 29 = .ok (.isub, 1) := by decide +kernel
theorem dX5_enrol_30 : decode cX5_enrol 30 = .ok (.ireturn, 1) := by decide +kernel
theorem dX5_relicense_0 : decode cX5_relicense 0 = .ok (.aload_n 0, 1) := by decide +kernel
theorem dX5_relicense_1 : decode cX5_relicense 1 = .ok (.getfield 11, 3) := by decide +kernel
theorem dX5_relicense_4 : decode cX5_relicense 4 = .ok (.iload_n 1, 1) := by decide +kernel
theorem dX5_relicense_5 : decode cX5_relicense 5 = .ok (.aaload, 1) := by decide +kernel
theorem dX5_relicense_6 : decode cX5_relicense 6 = .ok (.getfield 153, 3) := by decide +kernel
theorem dX5_relicense_9 : decode cX5_relicense 9 = .ok (.istore 4, 2) := by decide +kernel
theorem dX5_relicense_11 : decode cX5_relicense 11 = .ok (.aload_n 0, 1) := by decide +kernel
theorem dX5_relicense_12 : decode cX5_relicense 12 = .ok (.getfield 11, 3) := by decide +kernel
theorem dX5_relicense_15 : decode cX5_relicense 15 = .ok (.iload_n 1, 1) := by decide +kernel
theorem dX5_relicense_16 : decode cX5_relicense 16 = .ok (.aaload, 1) := by decide +kernel
theorem dX5_relicense_17 : decode cX5_relicense 17 = .ok (.iload_n 2, 1) := by decide +kernel
theorem dX5_relicense_18 : decode cX5_relicense 18 = .ok (.iload_n 3, 1) := by decide +kernel
theorem dX5_relicense_19 : decode cX5_relicense 19 = .ok (.invokevirtual 149, 3) := by decide +kernel
theorem dX5_relicense_22 : decode cX5_relicense 22 = .ok (.iload 4, 2) := by decide +kernel
theorem dX5_relicense_24 : decode cX5_relicense 24 = .ok (.ireturn, 1) := by decide +kernel
theorem dX5_enter_0 : decode cX5_enter 0 = .ok (.aload_n 0, 1) := by decide +kernel
theorem dX5_enter_1 : decode cX5_enter 1 = .ok (.getfield 19, 3) := by decide +kernel
theorem dX5_enter_4 : decode cX5_enter 4 = .ok (.aload_n 0, 1) := by decide +kernel
theorem dX5_enter_5 : decode cX5_enter 5 = .ok (.getfield 53, 3) := by decide +kernel
theorem dX5_enter_8 : decode cX5_enter 8 = .ok (.aaload, 1) := by decide +kernel
theorem dX5_enter_9 : decode cX5_enter 9 = .ok (.iload_n 1, 1) := by decide +kernel
theorem dX5_enter_10 : decode cX5_enter 10 = .ok (.iload_n 2, 1) := by decide +kernel
theorem dX5_enter_11 : decode cX5_enter 11 = .ok (.iload_n 3, 1) := by decide +kernel
theorem dX5_enter_12 : decode cX5_enter 12 = .ok (.iload 4, 2) := by decide +kernel
theorem dX5_enter_14 : decode cX5_enter 14 = .ok (.aload_n 0, 1) := by decide +kernel
theorem dX5_enter_15 : decode cX5_enter 15 = .ok (.getfield 65, 3) := by decide +kernel
theorem dX5_enter_18 : decode cX5_enter 18 = .ok (.invokevirtual 156, 3) := by decide +kernel
theorem dX5_enter_21 : decode cX5_enter 21 = .ok (.aload_n 0, 1) := by decide +kernel
theorem dX5_enter_22 : decode cX5_enter 22 = .ok (.dup, 1) := by decide +kernel
theorem dX5_enter_23 : decode cX5_enter 23 = .ok (.getfield 53, 3) := by decide +kernel
theorem dX5_enter_26 : decode cX5_enter 26 = .ok (.iconst 1, 1) := by decide +kernel
theorem dX5_enter_27 : decode cX5_enter 27 = .ok (.iadd, 1) := by decide +kernel
theorem dX5_enter_28 : decode cX5_enter 28 = .ok (.putfield 53, 3) := by decide +kernel
theorem dX5_enter_31 : decode cX5_enter 31 = .ok (.aload_n 0, 1) := by decide +kernel
theorem dX5_enter_32 : decode cX5_enter 32 = .ok (.getfield 53, 3) := by decide +kernel
theorem dX5_enter_35 : decode cX5_enter 35 = .ok (.iconst 1, 1) := by decide +kernel
theorem dX5_enter_36 : decode cX5_enter 36 = .ok (.isub, 1) := by decide +kernel
theorem dX5_enter_37 : decode cX5_enter 37 = .ok (.ireturn, 1) := by decide +kernel
theorem dX5_changePeriod_0 : decode cX5_changePeriod 0 = .ok (.aload_n 0, 1) := by decide +kernel
theorem dX5_changePeriod_1 : decode cX5_changePeriod 1 = .ok (.getfield 46, 3) := by decide +kernel
theorem dX5_changePeriod_4 : decode cX5_changePeriod 4 = .ok (.istore_n 2, 1) := by decide +kernel
theorem dX5_changePeriod_5 : decode cX5_changePeriod 5 = .ok (.aload_n 0, 1) := by decide +kernel
theorem dX5_changePeriod_6 : decode cX5_changePeriod 6 = .ok (.iload_n 1, 1) := by decide +kernel
theorem dX5_changePeriod_7 : decode cX5_changePeriod 7 = .ok (.putfield 46, 3) := by decide +kernel
theorem dX5_changePeriod_10 : decode cX5_changePeriod 10 = .ok (.iload_n 2, 1) := by decide +kernel
theorem dX5_changePeriod_11 : decode cX5_changePeriod 11 = .ok (.ireturn, 1) := by decide +kernel
theorem dX5_letDaysPass_0 : decode cX5_letDaysPass 0 = .ok (.aload_n 0, 1) := by decide +kernel
theorem dX5_letDaysPass_1 : decode cX5_letDaysPass 1 = .ok (.dup, 1) := by decide +kernel
theorem dX5_letDaysPass_2 : decode cX5_letDaysPass 2 = .ok (.getfield 65, 3) := by decide +kernel
theorem dX5_letDaysPass_5 : decode cX5_letDaysPass 5 = .ok (.iload_n 1, 1) := by decide +kernel
theorem dX5_letDaysPass_6 : decode cX5_letDaysPass 6 = .ok (.iadd, 1) := by decide +kernel
theorem dX5_letDaysPass_7 : decode cX5_letDaysPass 7 = .ok (.putfield 65, 3) := by decide +kernel
theorem dX5_letDaysPass_10 : decode cX5_letDaysPass 10 = .ok (.aload_n 0, 1) := by decide +kernel
theorem dX5_letDaysPass_11 : decode cX5_letDaysPass 11 = .ok (.getfield 65, 3) := by decide +kernel
theorem dX5_letDaysPass_14 : decode cX5_letDaysPass 14 = .ok (.ireturn, 1) := by decide +kernel
theorem dX5_putOnHook_0 : decode cX5_putOnHook 0 = .ok (.aload_n 0, 1) := by decide +kernel
theorem dX5_putOnHook_1 : decode cX5_putOnHook 1 = .ok (.getfield 19, 3) := by decide +kernel
theorem dX5_putOnHook_4 : decode cX5_putOnHook 4 = .ok (.iload_n 1, 1) := by decide +kernel
theorem dX5_putOnHook_5 : decode cX5_putOnHook 5 = .ok (.aaload, 1) := by decide +kernel
theorem dX5_putOnHook_6 : decode cX5_putOnHook 6 = .ok (.astore_n 3, 1) := by decide +kernel
theorem dX5_putOnHook_7 : decode cX5_putOnHook 7 = .ok (.aload_n 3, 1) := by decide +kernel
theorem dX5_putOnHook_8 : decode cX5_putOnHook 8 = .ok (.bipush 112, 2) := by decide +kernel
theorem dX5_putOnHook_10 : decode cX5_putOnHook 10 = .ok (.putfield 160, 3) := by decide +kernel
theorem dX5_putOnHook_13 : decode cX5_putOnHook 13 = .ok (.aload_n 3, 1) := by decide +kernel
theorem dX5_putOnHook_14 : decode cX5_putOnHook 14 = .ok (.iload_n 2, 1) := by decide +kernel
theorem dX5_putOnHook_15 : decode cX5_putOnHook 15 = .ok (.putfield 164, 3) := by decide +kernel
theorem dX5_putOnHook_18 : decode cX5_putOnHook 18 = .ok (.aload_n 3, 1) := by decide +kernel
theorem dX5_putOnHook_19 : decode cX5_putOnHook 19 = .ok (.iconst 0, 1) := by decide +kernel
theorem dX5_putOnHook_20 : decode cX5_putOnHook 20 = .ok (.putfield 167, 3) := by decide +kernel
theorem dX5_putOnHook_23 : decode cX5_putOnHook 23 = .ok (.iconst 0, 1) := by decide +kernel
theorem dX5_putOnHook_24 : decode cX5_putOnHook 24 = .ok (.istore 4, 2) := by decide +kernel
theorem dX5_putOnHook_26 : decode cX5_putOnHook 26 = .ok (.iconst 0, 1) := by decide +kernel
theorem dX5_putOnHook_27 : decode cX5_putOnHook 27 = .ok (.istore 5, 2) := by decide +kernel
theorem dX5_putOnHook_29 : decode cX5_putOnHook 29 = .ok (.iload 5, 2) := by decide +kernel
theorem dX5_putOnHook_31 : decode cX5_putOnHook 31 = .ok (.aload_n 0, 1) := by decide +kernel
theorem dX5_putOnHook_32 : decode cX5_putOnHook 32 = .ok (.getfield 53, 3) := by decide +kernel
theorem dX5_putOnHook_35 : decode cX5_putOnHook 35 = .ok (.if_icmp .ge 27, 3) := by decide +kernel
theorem dX5_putOnHook_38 : decode cX5_putOnHook 38 = .ok (.aload_n 0, 1) := by decide +kernel
theorem dX5_putOnHook_39 : decode cX5_putOnHook 39 = .ok (.getfield 19, 3) := by decide +kernel
theorem dX5_putOnHook_42 : decode cX5_putOnHook 42 = .ok (.iload 5, 2) := by decide +kernel
theorem dX5_putOnHook_44 : decode cX5_putOnHook 44 = .ok (.aaload, 1) := by decide +kernel
theorem dX5_putOnHook_45 : decode cX5_putOnHook 45 = .ok (.getfield 160, 3) := by decide +kernel
theorem dX5_putOnHook_48 : decode cX5_putOnHook 48 = .ok (.bipush 112, 2) := by decide +kernel
theorem dX5_putOnHook_50 : decode cX5_putOnHook 50 = .ok (.if_icmp .ne 6, 3) := by decide +kernel
theorem dX5_putOnHook_53 : decode cX5_putOnHook 53 = .ok (.iinc 4 1, 3) := by decide +kernel
theorem dX5_putOnHook_56 : decode cX5_putOnHook 56 = .ok (.iinc 5 1, 3) := by decide +kernel
theorem dX5_putOnHook_59 : decode cX5_putOnHook 59 = .ok (.goto (-30), 3) := by decide +kernel
theorem dX5_putOnHook_62 : decode cX5_putOnHook 62 = .ok (.iload 4, 2) := by decide +kernel
theorem dX5_putOnHook_64 : decode cX5_putOnHook 64 = .ok (.ireturn, 1) := by decide +kernel
theorem dX5_isHookFree_0 : decode cX5_isHookFree 0 = .ok (.iconst 0, 1) := by decide +kernel
theorem dX5_isHookFree_1 : decode cX5_isHookFree 1 = .ok (.istore_n 2, 1) := by decide +kernel
theorem dX5_isHookFree_2 : decode cX5_isHookFree 2 = .ok (.iload_n 2, 1) := by decide +kernel
theorem dX5_isHookFree_3 : decode cX5_isHookFree 3 = .ok (.aload_n 0, 1) := by decide +kernel
theorem dX5_isHookFree_4 : decode cX5_isHookFree 4 = .ok (.getfield 53, 3) := by decide +kernel
theorem dX5_isHookFree_7 : decode cX5_isHookFree 7 = .ok (.if_icmp .ge 24, 3) := by decide +kernel
theorem dX5_isHookFree_10 : decode cX5_isHookFree 10 = .ok (.aload_n 0, 1) := by decide +kernel
theorem dX5_isHookFree_11 : decode cX5_isHookFree 11 = .ok (.getfield 19, 3) := by decide +kernel
theorem dX5_isHookFree_14 : decode cX5_isHookFree 14 = .ok (.iload_n 2, 1) := by decide +kernel
theorem dX5_isHookFree_15 : decode cX5_isHookFree 15 = .ok (.aaload, 1) := by decide +kernel
theorem dX5_isHookFree_16 : decode cX5_isHookFree 16 = .ok (.getfield 164, 3) := by decide +kernel
theorem dX5_isHookFree_19 : decode cX5_isHookFree 19 = .ok (.iload_n 1, 1) := by decide +kernel
theorem dX5_isHookFree_20 : decode cX5_isHookFree 20 = .ok (.if_icmp .ne 5, 3) := by decide +kernel
theorem dX5_isHookFree_23 : decode cX5_isHookFree 23 = .ok (.iconst 0, 1) := by decide +kernel
theorem dX5_isHookFree_24 : decode cX5_isHookFree 24 = .ok (.ireturn, 1) := by decide +kernel
theorem dX5_isHookFree_25 : decode cX5_isHookFree 25 = .ok (.iinc 2 1, 3) := by decide +kernel
theorem dX5_isHookFree_28 : decode cX5_isHookFree 28 = .ok (.goto (-26), 3) := by decide +kernel
theorem dX5_isHookFree_31 : decode cX5_isHookFree 31 = .ok (.iconst 1, 1) := by decide +kernel
theorem dX5_isHookFree_32 : decode cX5_isHookFree 32 = .ok (.ireturn, 1) := by decide +kernel
theorem dX5_doStep_0 : decode cX5_doStep 0 = .ok (.aload_n 0, 1) := by decide +kernel
theorem dX5_doStep_1 : decode cX5_doStep 1 = .ok (.getfield 19, 3) := by decide +kernel
theorem dX5_doStep_4 : decode cX5_doStep 4 = .ok (.iload_n 1, 1) := by decide +kernel
theorem dX5_doStep_5 : decode cX5_doStep 5 = .ok (.aaload, 1) := by decide +kernel
theorem dX5_doStep_6 : decode cX5_doStep 6 = .ok (.astore_n 3, 1) := by decide +kernel
theorem dX5_doStep_7 : decode cX5_doStep 7 = .ok (.aload_n 3, 1) := by decide +kernel
theorem dX5_doStep_8 : decode cX5_doStep 8 = .ok (.getfield 170, 3) := by decide +kernel
theorem dX5_doStep_11 : decode cX5_doStep 11 = .ok (.aload_n 3, 1) := by decide +kernel
theorem dX5_doStep_12 : decode cX5_doStep 12 = .ok (.getfield 167, 3) := by decide +kernel
theorem dX5_doStep_15 : decode cX5_doStep 15 = .ok (.iload_n 2, 1) := by decide +kernel
theorem dX5_doStep_16 : decode cX5_doStep 16 = .ok (.iastore, 1) := by decide +kernel
theorem dX5_doStep_17 : decode cX5_doStep 17 = .ok (.aload_n 3, 1) := by decide +kernel
theorem dX5_doStep_18 : decode cX5_doStep 18 = .ok (.dup, 1) := by decide +kernel
theorem dX5_doStep_19 : decode cX5_doStep 19 = .ok (.getfield 167, 3) := by decide +kernel
theorem dX5_doStep_22 : decode cX5_doStep 22 = .ok (.iconst 1, 1) := by decide +kernel
theorem dX5_doStep_23 : decode cX5_doStep 23 = .ok (.iadd, 1) := by decide +kernel
theorem dX5_doStep_24 : decode cX5_doStep 24 = .ok (.putfield 167, 3) := by decide +kernel
theorem dX5_doStep_27 : decode cX5_doStep 27 = .ok (.aload_n 3, 1) := by decide +kernel
theorem dX5_doStep_28 : decode cX5_doStep 28 = .ok (.getfield 167, 3) := by decide +kernel
theorem dX5_doStep_31 : decode cX5_doStep 31 = .ok (.istore 4, 2) := by decide +kernel
theorem dX5_doStep_33 : decode cX5_doStep 33 = .ok (.iload 4, 2) := by decide +kernel
theorem dX5_doStep_35 : decode cX5_doStep 35 = .ok (.iconst 5, 1) := by decide +kernel
theorem dX5_doStep_36 : decode cX5_doStep 36 = .ok (.if_icmp .ne 8, 3) := by decide +kernel
theorem dX5_doStep_39 : decode cX5_doStep 39 = .ok (.aload_n 0, 1) := by decide +kernel
theorem dX5_doStep_40 : decode cX5_doStep 40 = .ok (.iload_n 1, 1) := by decide +kernel
theorem dX5_doStep_41 : decode cX5_doStep 41 = .ok (.invokevirtual 174, 3) := by decide +kernel
theorem dX5_doStep_44 : decode cX5_doStep 44 = .ok (.iload 4, 2) := by decide +kernel
theorem dX5_doStep_46 : decode cX5_doStep 46 = .ok (.ireturn, 1) := by decide +kernel
theorem dX5_endPacking_0 : decode cX5_endPacking 0 = .ok (.aload_n 0, 1) := by decide +kernel
theorem dX5_endPacking_1 : decode cX5_endPacking 1 = .ok (.getfield 19, 3) := by decide +kernel
theorem dX5_endPacking_4 : decode cX5_endPacking 4 = .ok (.iload_n 1, 1) := by decide +kernel
theorem dX5_endPacking_5 : decode cX5_endPacking 5 = .ok (.aaload, 1) := by decide +kernel
theorem dX5_endPacking_6 : decode cX5_endPacking 6 = .ok (.astore_n 2, 1) := by decide +kernel
theorem dX5_endPacking_7 : decode cX5_endPacking 7 = .ok (.aload_n 0, 1) := by decide +kernel
theorem dX5_endPacking_8 : decode cX5_endPacking 8 = .ok (.getfield 38, 3) := by decide +kernel
theorem dX5_endPacking_11 : decode cX5_endPacking 11 = .ok (.iload_n 1, 1) := by decide +kernel
theorem dX5_endPacking_12 : decode cX5_endPacking 12 = .ok (.aload_n 2, 1) := by decide +kernel
theorem dX5_endPacking_13 : decode cX5_endPacking 13 = .ok (.getfield 164, 3) := by decide +kernel
theorem dX5_endPacking_16 : decode cX5_endPacking 16 = .ok (.aload_n 0, 1) := by decide +kernel
theorem dX5_endPacking_17 : decode cX5_endPacking 17 = .ok (.getfield 65, 3) := by decide +kernel
theorem dX5_endPacking_20 : decode cX5_endPacking 20 = .ok (.aload_n 2, 1) := by decide +kernel
theorem dX5_endPacking_21 : decode cX5_endPacking 21 = .ok (.getfield 170, 3) := by decide +kernel
theorem dX5_endPacking_24 : decode cX5_endPacking 24 = .ok (.invokevirtual 178, 3) := by decide +kernel
theorem dX5_endPacking_27 : decode cX5_endPacking 27 = .ok (.istore_n 3, 1) := by decide +kernel
theorem dX5_endPacking_28 : decode cX5_endPacking 28 = .ok (.aload_n 0, 1) := by decide +kernel
theorem dX5_endPacking_29 : decode cX5_endPacking 29 = .ok (.getfield 38, 3) := by decide +kernel
theorem dX5_endPacking_32 : decode cX5_endPacking 32 = .ok (.iload_n 3, 1) := by decide +kernel
theorem dX5_endPacking_33 : decode cX5_endPacking 33 = .ok (.invokevirtual 182, 3) := by decide +kernel
theorem dX5_endPacking_36 : decode cX5_endPacking 36 = .ok (.ifCond .eq 50, 3) := by decide +kernel
theorem dX5_endPacking_39 : decode cX5_endPacking 39 = .ok (.aload_n 2, 1) := by decide +kernel
theorem dX5_endPacking_40 : decode cX5_endPacking 40 = .ok (.iload_n 3, 1) := by decide +kernel
theorem dX5_endPacking_41 : decode cX5_endPacking 41 = .ok (.putfield 186, 3) := by decide +kernel
theorem dX5_endPacking_44 : decode cX5_endPacking 44 = .ok (.aload_n 2, 1) := by decide +kernel
theorem dX5_endPacking_45 : decode cX5_endPacking 45 = .ok (.dup, 1) := by decide +kernel
theorem dX5_endPacking_46 : decode cX5_endPacking 46 = .ok (.getfield 189, 3) := by decide +kernel
theorem dX5_endPacking_49 : decode cX5_endPacking 49 = .ok (.iconst 1, 1) := by decide +kernel
theorem dX5_endPacking_50 : decode cX5_endPacking 50 = .ok (.iadd, 1) := by decide +kernel
theorem dX5_endPacking_51 : decode cX5_endPacking 51 = .ok (.putfield 189, 3) := by decide +kernel
theorem dX5_endPacking_54 : decode cX5_endPacking 54 = .ok (.aload_n 2, 1) := by decide +kernel
theorem dX5_endPacking_55 : decode cX5_endPacking 55 = .ok (.dup, 1) := by decide +kernel
theorem dX5_endPacking_56 : decode cX5_endPacking 56 = .ok (.getfield 192, 3) := by decide +kernel
theorem dX5_endPacking_59 : decode cX5_endPacking 59 = .ok (.iconst 1, 1) := by decide +kernel
theorem dX5_endPacking_60 : decode cX5_endPacking 60 = .ok (.aload_n 2, 1) := by decide +kernel
theorem dX5_endPacking_61 : decode cX5_endPacking 61 = .ok (.getfield 164, 3) := by decide +kernel
theorem dX5_endPacking_64 : decode cX5_endPacking 64 = .ok (.ishl, 1) := by decide +kernel
theorem dX5_endPacking_65 : decode cX5_endPacking 65 = .ok (.ior, 1) := by decide +kernel
theorem dX5_endPacking_66 : decode cX5_endPacking 66 = .ok (.putfield 192, 3) := by decide +kernel
theorem dX5_endPacking_69 : decode cX5_endPacking 69 = .ok (.aload_n 2, 1) := by decide +kernel
theorem dX5_endPacking_70 : decode cX5_endPacking 70 = .ok (.dup, 1) := by decide +kernel
theorem dX5_endPacking_71 : decode cX5_endPacking 71 = .ok (.getfield 195, 3) := by decide +kernel
theorem dX5_endPacking_74 : decode cX5_endPacking 74 = .ok (.aload_n 0, 1) := by decide +kernel
theorem dX5_endPacking_75 : decode cX5_endPacking 75 = .ok (.getfield 38, 3) := by decide +kernel
theorem dX5_endPacking_78 : decode cX5_endPacking 78 = .ok (.iload_n 3, 1) := by decide +kernel
theorem dX5_endPacking_79 : decode cX5_endPacking 79 = .ok (.invokevirtual 198, 3) := by decide +kernel
theorem dX5_endPacking_82 : decode cX5_endPacking 82 = .ok (.lor, 1) := by decide +kernel
theorem dX5_endPacking_83 : decode cX5_endPacking 83 = .ok (.putfield 195, 3) := by decide +kernel
theorem dX5_endPacking_86 : decode cX5_endPacking 86 = .ok (.aload_n 0, 1) := by decide +kernel
theorem dX5_endPacking_87 : decode cX5_endPacking 87 = .ok (.aload_n 2, 1) := by decide +kernel
theorem dX5_endPacking_88 : decode cX5_endPacking 88 = .ok (.invokevirtual 100, 3) := by decide +kernel
theorem dX5_endPacking_91 : decode cX5_endPacking 91 = .ok (.pop, 1) := by decide +kernel
theorem dX5_endPacking_92 : decode cX5_endPacking 92 = .ok (.aload_n 2, 1) := by decide +kernel
theorem dX5_endPacking_93 : decode cX5_endPacking 93 = .ok (.bipush 107, 2) := by decide +kernel
theorem dX5_endPacking_95 : decode cX5_endPacking 95 = .ok (.putfield 160, 3) := by decide +kernel
theorem dX5_endPacking_98 : decode cX5_endPacking 98 = .ok (.return_, 1) := by decide +kernel
theorem dX5_takeOffHook_0 : decode cX5_takeOffHook 0 = .ok (.aload_n 1, 1) := by decide +kernel
theorem dX5_takeOffHook_1 : decode cX5_takeOffHook 1 = .ok (.getfield 167, 3) := by decide +kernel
theorem dX5_takeOffHook_4 : decode cX5_takeOffHook 4 = .ok (.istore_n 2, 1) := by decide +kernel
theorem dX5_takeOffHook_5 : decode cX5_takeOffHook 5 = .ok (.aload_n 1, 1) := by decide +kernel
theorem dX5_takeOffHook_6 : decode cX5_takeOffHook 6 = .ok (.bipush 111, 2) := by decide +kernel
theorem dX5_takeOffHook_8 : decode cX5_takeOffHook 8 = .ok (.putfield 160, 3) := by decide +kernel
theorem dX5_takeOffHook_11 : decode cX5_takeOffHook 11 = .ok (.aload_n 1, 1) := by decide +kernel
theorem dX5_takeOffHook_12 : decode cX5_takeOffHook 12 = .ok (.iconst (-1), 1) := by decide +kernel
theorem dX5_takeOffHook_13 : decode cX5_takeOffHook 13 = .ok (.putfield 164, 3) := by decide +kernel
theorem dX5_takeOffHook_16 : decode cX5_takeOffHook 16 = .ok (.aload_n 1, 1) := by decide +kernel
theorem dX5_takeOffHook_17 : decode cX5_takeOffHook 17 = .ok (.iconst 0, 1) := by decide +kernel
theorem dX5_takeOffHook_18 : decode cX5_takeOffHook 18 = .ok (.putfield 167, 3) := by decide +kernel
theorem dX5_takeOffHook_21 : decode cX5_takeOffHook 21 = .ok (.iload_n 2, 1) := by decide +kernel
theorem dX5_takeOffHook_22 : decode cX5_takeOffHook 22 = .ok (.ireturn, 1) := by decide +kernel
theorem dX5_beginLoad_0 : decode cX5_beginLoad 0 = .ok (.aload_n 0, 1) := by decide +kernel
theorem dX5_beginLoad_1 : decode cX5_beginLoad 1 = .ok (.getfield 25, 3) := by decide +kernel
theorem dX5_beginLoad_4 : decode cX5_beginLoad 4 = .ok (.aload_n 0, 1) := by decide +kernel
theorem dX5_beginLoad_5 : decode cX5_beginLoad 5 = .ok (.getfield 56, 3) := by decide +kernel
theorem dX5_beginLoad_8 : decode cX5_beginLoad 8 = .ok (.aaload, 1) := by decide +kernel
theorem dX5_beginLoad_9 : decode cX5_beginLoad 9 = .ok (.invokevirtual 202, 3) := by decide +kernel
theorem dX5_beginLoad_12 : decode cX5_beginLoad 12 = .ok (.aload_n 0, 1) := by decide +kernel
theorem dX5_beginLoad_13 : decode cX5_beginLoad 13 = .ok (.dup, 1) := by decide +kernel
theorem dX5_beginLoad_14 : decode cX5_beginLoad 14 = .ok (.getfield 56, 3) := by decide +kernel
theorem dX5_beginLoad_17 : decode cX5_beginLoad 17 = .ok (.iconst 1, 1) := by decide +kernel
theorem dX5_beginLoad_18 : decode cX5_beginLoad 18 = .ok (.iadd, 1) := by decide +kernel
theorem dX5_beginLoad_19 : decode cX5_beginLoad 19 = .ok (.putfield 56, 3) := by decide +kernel
theorem dX5_beginLoad_22 : decode cX5_beginLoad 22 = .ok (.aload_n 0, 1) := by decide +kernel
theorem dX5_beginLoad_23 : decode cX5_beginLoad 23 = .ok (.getfield 56, 3) := by decide +kernel
theorem dX5_beginLoad_26 : decode cX5_beginLoad 26 = .ok (.iconst 1, 1) := by decide +kernel
theorem dX5_beginLoad_27 : decode cX5_beginLoad 27 = .ok (.isub, 1) := by decide +kernel
theorem dX5_beginLoad_28 : decode cX5_beginLoad 28 = .ok (.ireturn, 1) := by decide +kernel
theorem dX5_putAboard_0 : decode cX5_putAboard 0 = .ok (.aload_n 1, 1) := by decide +kernel
theorem dX5_putAboard_1 : decode cX5_putAboard 1 = .ok (.getfield 204, 3) := by decide +kernel
theorem dX5_putAboard_4 : decode cX5_putAboard 4 = .ok (.aload_n 1, 1) := by decide +kernel
theorem dX5_putAboard_5 : decode cX5_putAboard 5 = .ok (.getfield 207, 3) := by decide +kernel
theorem dX5_putAboard_8 : decode cX5_putAboard 8 = .ok (.iload_n 2, 1) := by decide +kernel
theorem dX5_putAboard_9 : decode cX5_putAboard 9 = .ok (.iastore, 1) := by decide +kernel
theorem dX5_putAboard_10 : decode cX5_putAboard 10 = .ok (.aload_n 1, 1) := by decide +kernel
theorem dX5_putAboard_11 : decode cX5_putAboard 11 = .ok (.getfield 210, 3) := by decide +kernel
theorem dX5_putAboard_14 : decode cX5_putAboard 14 = .ok (.aload_n 1, 1) := by decide +kernel
theorem dX5_putAboard_15 : decode cX5_putAboard 15 = .ok (.getfield 207, 3) := by decide +kernel
theorem dX5_putAboard_18 : decode cX5_putAboard 18 = .ok (.iload_n 3, 1) := by decide +kernel
theorem dX5_putAboard_19 : decode cX5_putAboard 19 = .ok (.iastore, 1) := by decide +kernel
theorem dX5_putAboard_20 : decode cX5_putAboard 20 = .ok (.aload_n 1, 1) := by decide +kernel
theorem dX5_putAboard_21 : decode cX5_putAboard 21 = .ok (.dup, 1) := by decide +kernel
theorem dX5_putAboard_22 : decode cX5_putAboard 22 = .ok (.getfield 207, 3) := by decide +kernel
theorem dX5_putAboard_25 : decode cX5_putAboard 25 = .ok (.iconst 1, 1) := by decide +kernel
theorem dX5_putAboard_26 : decode cX5_putAboard 26 = .ok (.iadd, 1) := by decide +kernel
theorem dX5_putAboard_27 : decode cX5_putAboard 27 = .ok (.putfield 207, 3) := by decide +kernel
theorem dX5_putAboard_30 : decode cX5_putAboard 30 = .ok (.aload_n 0, 1) := by decide +kernel
theorem dX5_putAboard_31 : decode cX5_putAboard 31 = .ok (.getfield 19, 3) := by decide +kernel
theorem dX5_putAboard_34 : decode cX5_putAboard 34 = .ok (.iload_n 2, 1) := by decide +kernel
theorem dX5_putAboard_35 : decode cX5_putAboard 35 = .ok (.aaload, 1) := by decide +kernel
theorem dX5_putAboard_36 : decode cX5_putAboard 36 = .ok (.bipush 97, 2) := by decide +kernel
theorem dX5_putAboard_38 : decode cX5_putAboard 38 = .ok (.putfield 160, 3) := by decide +kernel
theorem dX5_putAboard_41 : decode cX5_putAboard 41 = .ok (.aload_n 0, 1) := by decide +kernel
theorem dX5_putAboard_42 : decode cX5_putAboard 42 = .ok (.getfield 19, 3) := by decide +kernel
theorem dX5_putAboard_45 : decode cX5_putAboard 45 = .ok (.iload_n 3, 1) := by decide +kernel
theorem dX5_putAboard_46 : decode cX5_putAboard 46 = .ok (.aaload, 1) := by decide +kernel
theorem dX5_putAboard_47 : decode cX5_putAboard 47 = .ok (.bipush 97, 2) := by decide +kernel
theorem dX5_putAboard_49 : decode cX5_putAboard 49 = .ok (.putfield 160, 3) := by decide +kernel
theorem dX5_putAboard_52 : decode cX5_putAboard 52 = .ok (.aload_n 1, 1) := by decide +kernel
theorem dX5_putAboard_53 : decode cX5_putAboard 53 = .ok (.getfield 207, 3) := by decide +kernel
theorem dX5_putAboard_56 : decode cX5_putAboard 56 = .ok (.ireturn, 1) := by decide +kernel
theorem dX5_takeLastOff_0 : decode cX5_takeLastOff 0 = .ok (.aload_n 1, 1) := by decide +kernel
theorem dX5_takeLastOff_1 : decode cX5_takeLastOff 1 = .ok (.dup, 1) := by decide +kernel
theorem dX5_takeLastOff_2 : decode cX5_takeLastOff 2 = .ok (.getfield 207, 3) := by decide +kernel
theorem dX5_takeLastOff_5 : decode cX5_takeLastOff 5 = .ok (.iconst 1, 1) := by decide +kernel
theorem dX5_takeLastOff_6 : decode cX5_takeLastOff 6 = .ok (.isub, 1) := by decide +kernel
theorem dX5_takeLastOff_7 : decode cX5_takeLastOff 7 = .ok (.putfield 207, 3) := by decide +kernel
theorem dX5_takeLastOff_10 : decode cX5_takeLastOff 10 = .ok (.aload_n 0, 1) := by decide +kernel
theorem dX5_takeLastOff_11 : decode cX5_takeLastOff 11 = .ok (.getfield 19, 3) := by decide +kernel
theorem dX5_takeLastOff_14 : decode cX5_takeLastOff 14 = .ok (.aload_n 1, 1) := by decide +kernel
theorem dX5_takeLastOff_15 : decode cX5_takeLastOff 15 = .ok (.getfield 204, 3) := by decide +kernel
theorem dX5_takeLastOff_18 : decode cX5_takeLastOff 18 = .ok (.aload_n 1, 1) := by decide +kernel
theorem dX5_takeLastOff_19 : decode cX5_takeLastOff 19 = .ok (.getfield 207, 3) := by decide +kernel
theorem dX5_takeLastOff_22 : decode cX5_takeLastOff 22 = .ok (.iaload, 1) := by decide +kernel
theorem dX5_takeLastOff_23 : decode cX5_takeLastOff 23 = .ok (.aaload, 1) := by decide +kernel
theorem dX5_takeLastOff_24 : decode cX5_takeLastOff 24 = .ok (.bipush 107, 2) := by decide +kernel
theorem dX5_takeLastOff_26 : decode cX5_takeLastOff 26 = .ok (.putfield 160, 3) := by decide +kernel
theorem dX5_takeLastOff_29 : decode cX5_takeLastOff 29 = .ok (.aload_n 0, 1) := by decide +kernel
theorem dX5_takeLastOff_30 : decode cX5_takeLastOff 30 = .ok (.getfield 19, 3) := by decide +kernel
theorem dX5_takeLastOff_33 : decode cX5_takeLastOff 33 = .ok (.aload_n 1, 1) := by decide +kernel
theorem dX5_takeLastOff_34 : decode cX5_takeLastOff 34 = .ok (.getfield 210, 3) := by decide +kernel
theorem dX5_takeLastOff_37 : decode cX5_takeLastOff 37 = .ok (.aload_n 1, 1) := by decide +kernel
theorem dX5_takeLastOff_38 : decode cX5_takeLastOff 38 = .ok (.getfield 207, 3) := by decide +kernel
theorem dX5_takeLastOff_41 : decode cX5_takeLastOff 41 = .ok (.iaload, 1) := by decide +kernel
theorem dX5_takeLastOff_42 : decode cX5_takeLastOff 42 = .ok (.aaload, 1) := by decide +kernel
theorem dX5_takeLastOff_43 : decode cX5_takeLastOff 43 = .ok (.bipush 107, 2) := by decide +kernel
theorem dX5_takeLastOff_45 : decode cX5_takeLastOff 45 = .ok (.putfield 160, 3) := by decide +kernel
theorem dX5_takeLastOff_48 : decode cX5_takeLastOff 48 = .ok (.aload_n 1, 1) := by decide +kernel
theorem dX5_takeLastOff_49 : decode cX5_takeLastOff 49 = .ok (.getfield 207, 3) := by decide +kernel
theorem dX5_takeLastOff_52 : decode cX5_takeLastOff 52 = .ok (.ireturn, 1) := by decide +kernel
theorem dX5_letJump_0 : decode cX5_letJump 0 = .ok (.iconst 0, 1) := by decide +kernel
theorem dX5_letJump_1 : decode cX5_letJump 1 = .ok (.istore_n 3, 1) := by decide +kernel
theorem dX5_letJump_2 : decode cX5_letJump 2 = .ok (.iload_n 3, 1) := by decide +kernel
theorem dX5_letJump_3 : decode cX5_letJump 3 = .ok (.aload_n 1, 1) := by decide +kernel
theorem dX5_letJump_4 : decode cX5_letJump 4 = .ok (.getfield 207, 3) := by decide +kernel
theorem dX5_letJump_7 : decode cX5_letJump 7 = .ok (.if_icmp .ge 66, 3) := by decide +kernel
theorem dX5_letJump_10 : decode cX5_letJump 10 = .ok (.iload_n 3, 1) := by decide +kernel
theorem dX5_letJump_11 : decode cX5_letJump 11 = .ok (.bipush 6, 2) := by decide +kernel
theorem dX5_letJump_13 : decode cX5_letJump 13 = .ok (.if_icmp .ge 60, 3) := by decide +kernel
theorem dX5_letJump_16 : decode cX5_letJump 16 = .ok (.aload_n 0, 1) := by decide +kernel
theorem dX5_letJump_17 : decode cX5_letJump 17 = .ok (.getfield 19, 3) := by decide +kernel
theorem dX5_letJump_20 : decode cX5_letJump 20 = .ok (.aload_n 1, 1) := by decide +kernel
theorem dX5_letJump_21 : decode cX5_letJump 21 = .ok (.getfield 204, 3) := by decide +kernel
theorem dX5_letJump_24 : decode cX5_letJump 24 = .ok (.iload_n 3, 1) := by decide +kernel
theorem dX5_letJump_25 : decode cX5_letJump 25 = .ok (.iaload, 1) := by decide +kernel
theorem dX5_letJump_26 : decode cX5_letJump 26 = .ok (.aaload, 1) := by decide +kernel
theorem dX5_letJump_27 : decode cX5_letJump 27 = .ok (.invokevirtual 213, 3) := by decide +kernel
theorem dX5_letJump_30 : decode cX5_letJump 30 = .ok (.aload_n 0, 1) := by decide +kernel
theorem dX5_letJump_31 : decode cX5_letJump 31 = .ok (.getfield 19, 3) := by decide +kernel
theorem dX5_letJump_34 : decode cX5_letJump 34 = .ok (.aload_n 1, 1) := by decide +kernel
theorem dX5_letJump_35 : decode cX5_letJump 35 = .ok (.getfield 210, 3) := by decide +kernel
theorem dX5_letJump_38 : decode cX5_letJump 38 = .ok (.iload_n 3, 1) := by decide +kernel
theorem dX5_letJump_39 : decode cX5_letJump 39 = .ok (.iaload, 1) := by decide +kernel
theorem dX5_letJump_40 : decode cX5_letJump 40 = .ok (.aaload, 1) := by decide +kernel
theorem dX5_letJump_41 : decode cX5_letJump 41 = .ok (.astore 4, 2) := by decide +kernel
theorem dX5_letJump_43 : decode cX5_letJump 43 = .ok (.iload_n 2, 1) := by decide +kernel
theorem dX5_letJump_44 : decode cX5_letJump 44 = .ok (.iload_n 3, 1) := by decide +kernel
theorem dX5_letJump_45 : decode cX5_letJump 45 = .ok (.ishr, 1) := by decide +kernel
theorem dX5_letJump_46 : decode cX5_letJump 46 = .ok (.iconst 1, 1) := by decide +kernel
theorem dX5_letJump_47 : decode cX5_letJump 47 = .ok (.iand, 1) := by decide +kernel
theorem dX5_letJump_48 : decode cX5_letJump 48 = .ok (.iconst 1, 1) := by decide +kernel
theorem dX5_letJump_49 : decode cX5_letJump 49 = .ok (.if_icmp .ne 11, 3) := by decide +kernel
theorem dX5_letJump_52 : decode cX5_letJump 52 = .ok (.aload 4, 2) := by decide +kernel
theorem dX5_letJump_54 : decode cX5_letJump 54 = .ok (.invokevirtual 213, 3) := by decide +kernel
theorem dX5_letJump_57 : decode cX5_letJump 57 = .ok (.goto 10, 3) := by decide +kernel
theorem dX5_letJump_60 : decode cX5_letJump 60 = .ok (.aload 4, 2) := by decide +kernel
theorem dX5_letJump_62 : decode cX5_letJump 62 = .ok (.bipush 107, 2) := by decide +kernel
theorem dX5_letJump_64 : decode cX5_letJump 64 = .ok (.putfield 160, 3) := by decide +kernel
theorem dX5_letJump_67 : decode cX5_letJump 67 = .ok (.iinc 3 1, 3) := by decide +kernel
theorem dX5_letJump_70 : decode cX5_letJump 70 = .ok (.goto (-68), 3) := by decide +kernel
theorem dX5_letJump_73 : decode cX5_letJump 73 = .ok (.aload_n 1, 1) := by decide +kernel
theorem dX5_letJump_74 : decode cX5_letJump 74 = .ok (.iconst 1, 1) := by decide +kernel
theorem dX5_letJump_75 : decode cX5_letJump 75 = .ok (.putfield 216, 3) := by decide +kernel
theorem dX5_letJump_78 : decode cX5_letJump 78 = .ok (.aload_n 1, 1) := by decide +kernel
theorem dX5_letJump_79 : decode cX5_letJump 79 = .ok (.getfield 207, 3) := by decide +kernel
theorem dX5_letJump_82 : decode cX5_letJump 82 = .ok (.ireturn, 1) := by decide +kernel
theorem dX5_noteFinding_0 : decode cX5_noteFinding 0 = .ok (.aload_n 0, 1) := by decide +kernel
theorem dX5_noteFinding_1 : decode cX5_noteFinding 1 = .ok (.getfield 31, 3) := by decide +kernel
theorem dX5_noteFinding_4 : decode cX5_noteFinding 4 = .ok (.aload_n 0, 1) := by decide +kernel
theorem dX5_noteFinding_5 : decode cX5_noteFinding 5 = .ok (.getfield 59, 3) := by decide +kernel
theorem dX5_noteFinding_8 : decode cX5_noteFinding 8 = .ok (.aaload, 1) := by decide +kernel
theorem dX5_noteFinding_9 : decode cX5_noteFinding 9 = .ok (.iload_n 1, 1) := by decide +kernel
theorem dX5_noteFinding_10 : decode cX5_noteFinding 10 = .ok (.aload_n 0, 1) := by decide +kernel
theorem dX5_noteFinding_11 : decode cX5_noteFinding 11 = .ok (.getfield 19, 3) := by decide +kernel
theorem dX5_noteFinding_14 : decode cX5_noteFinding 14 = .ok (.iload_n 1, 1) := by decide +kernel
theorem dX5_noteFinding_15 : decode cX5_noteFinding 15 = .ok (.aaload, 1) := by decide +kernel
theorem dX5_noteFinding_16 : decode cX5_noteFinding 16 = .ok (.getfield 186, 3) := by decide +kernel
theorem dX5_noteFinding_19 : decode cX5_noteFinding 19 = .ok (.aload_n 0, 1) := by decide +kernel
theorem dX5_noteFinding_20 : decode cX5_noteFinding 20 = .ok (.getfield 72, 3) := by decide +kernel
theorem dX5_noteFinding_23 : decode cX5_noteFinding 23 = .ok (.invokevirtual 220, 3) := by decide +kernel
theorem dX5_noteFinding_26 : decode cX5_noteFinding 26 = .ok (.aload_n 0, 1) := by decide +kernel
theorem dX5_noteFinding_27 : decode cX5_noteFinding 27 = .ok (.dup, 1) := by decide +kernel
theorem dX5_noteFinding_28 : decode cX5_noteFinding 28 = .ok (.getfield 59, 3) := by decide +kernel
theorem dX5_noteFinding_31 : decode cX5_noteFinding 31 = .ok (.iconst 1, 1) := by decide +kernel
theorem dX5_noteFinding_32 : decode cX5_noteFinding 32 = .ok (.iadd, 1) := by decide +kernel
theorem dX5_noteFinding_33 : decode cX5_noteFinding 33 = .ok (.putfield 59, 3) := by decide +kernel
theorem dX5_noteFinding_36 : decode cX5_noteFinding 36 = .ok (.aload_n 0, 1) := by decide +kernel
theorem dX5_noteFinding_37 : decode cX5_noteFinding 37 = .ok (.getfield 59, 3) := by decide +kernel
theorem dX5_noteFinding_40 : decode cX5_noteFinding 40 = .ok (.iconst 1, 1) := by decide +kernel
theorem dX5_noteFinding_41 : decode cX5_noteFinding 41 = .ok (.isub, 1) := by decide +kernel
theorem dX5_noteFinding_42 : decode cX5_noteFinding 42 = .ok (.ireturn, 1) := by decide +kernel
theorem dX5_noteFindingIfRoom_0 : decode cX5_noteFindingIfRoom 0 = .ok (.aload_n 0, 1) := by decide +kernel
theorem dX5_noteFindingIfRoom_1 : decode cX5_noteFindingIfRoom 1 = .ok (.getfield 59, 3) := by decide +kernel
theorem dX5_noteFindingIfRoom_4 : decode cX5_noteFindingIfRoom 4 = .ok (.bipush 12, 2) := by decide +kernel
theorem dX5_noteFindingIfRoom_6 : decode cX5_noteFindingIfRoom 6 = .ok (.if_icmp .ge 9, 3) := by decide +kernel
theorem dX5_noteFindingIfRoom_9 : decode cX5_noteFindingIfRoom 9 = .ok (.aload_n 0, 1) := by decide +kernel
theorem dX5_noteFindingIfRoom_10 : decode cX5_noteFindingIfRoom 10 = .ok (.iload_n 1, 1) := by decide +kernel
theorem dX5_noteFindingIfRoom_11 : decode cX5_noteFindingIfRoom 11 = .ok (.invokevirtual 120, 3) := by decide +kernel
theorem dX5_noteFindingIfRoom_14 : decode cX5_noteFindingIfRoom 14 = .ok (.pop, 1) := by decide +kernel
theorem dX5_noteFindingIfRoom_15 : decode cX5_noteFindingIfRoom 15 = .ok (.return_, 1) := by decide +kernel
theorem dX5_raiseLevel_0 : decode cX5_raiseLevel 0 = .ok (.aload_n 1, 1) := by decide +kernel
theorem dX5_raiseLevel_1 : decode cX5_raiseLevel 1 = .ok (.dup, 1) := by decide +kernel
theorem dX5_raiseLevel_2 : decode cX5_raiseLevel 2 = .ok (.getfield 223, 3) := by decide +kernel
theorem dX5_raiseLevel_5 : decode cX5_raiseLevel 5 = .ok (.iconst 1, 1) := by decide +kernel
theorem dX5_raiseLevel_6 : decode cX5_raiseLevel 6 = .ok (.iadd, 1) := by decide +kernel
theorem dX5_raiseLevel_7 : decode cX5_raiseLevel 7 = .ok (.putfield 223, 3) := by decide +kernel
theorem dX5_raiseLevel_10 : decode cX5_raiseLevel 10 = .ok (.aload_n 1, 1) := by decide +kernel
theorem dX5_raiseLevel_11 : decode cX5_raiseLevel 11 = .ok (.getfield 223, 3) := by decide +kernel
theorem dX5_raiseLevel_14 : decode cX5_raiseLevel 14 = .ok (.ireturn, 1) := by decide +kernel
theorem dX5_noteCause_0 : decode cX5_noteCause 0 = .ok (.aload_n 1, 1) := by decide +kernel
theorem dX5_noteCause_1 : decode cX5_noteCause 1 = .ok (.getfield 226, 3) := by decide +kernel
theorem dX5_noteCause_4 : decode cX5_noteCause 4 = .ok (.istore_n 3, 1) := by decide +kernel
theorem dX5_noteCause_5 : decode cX5_noteCause 5 = .ok (.aload_n 1, 1) := by decide +kernel
theorem dX5_noteCause_6 : decode cX5_noteCause 6 = .ok (.iload_n 2, 1) := by decide +kernel
theorem dX5_noteCause_7 : decode cX5_noteCause 7 = .ok (.putfield 226, 3) := by decide +kernel
theorem dX5_noteCause_10 : decode cX5_noteCause 10 = .ok (.iload_n 3, 1) := by decide +kernel
theorem dX5_noteCause_11 : decode cX5_noteCause 11 = .ok (.ireturn, 1) := by decide +kernel
theorem dX5_shut_0 : decode cX5_shut 0 = .ok (.aload_n 1, 1) := by decide +kernel
theorem dX5_shut_1 : decode cX5_shut 1 = .ok (.getfield 229, 3) := by decide +kernel
theorem dX5_shut_4 : decode cX5_shut 4 = .ok (.ifCond .ne 7, 3) := by decide +kernel
theorem dX5_shut_7 : decode cX5_shut 7 = .ok (.iconst 1, 1) := by decide +kernel
theorem dX5_shut_8 : decode cX5_shut 8 = .ok (.goto 4, 3) := by decide +kernel
theorem dX5_shut_11 : decode cX5_shut 11 = .ok (.iconst 0, 1) := by decide +kernel
theorem dX5_shut_12 : decode cX5_shut 12 = .ok (.istore_n 2, 1) := by decide +kernel
theorem dX5_shut_13 : decode cX5_shut 13 = .ok (.aload_n 1, 1) := by decide +kernel
theorem dX5_shut_14 : decode cX5_shut 14 = .ok (.iconst 1, 1) := by decide +kernel
theorem dX5_shut_15 : decode cX5_shut 15 = .ok (.putfield 229, 3) := by decide +kernel
theorem dX5_shut_18 : decode cX5_shut 18 = .ok (.iload_n 2, 1) := by decide +kernel
theorem dX5_shut_19 : decode cX5_shut 19 = .ok (.ifCond .eq 7, 3) := by decide +kernel
theorem dX5_shut_22 : decode cX5_shut 22 = .ok (.iconst 1, 1) := by decide +kernel
theorem dX5_shut_23 : decode cX5_shut 23 = .ok (.goto 4, 3) := by decide +kernel
theorem dX5_shut_26 : decode cX5_shut 26 = .ok (.iconst 0, 1) := by decide +kernel
theorem dX5_shut_27 : decode cX5_shut 27 = .ok (.ireturn, 1) := by decide +kernel
theorem dX5_mend_0 : decode cX5_mend 0 = .ok (.iconst 0, 1) := by decide +kernel
theorem dX5_mend_1 : decode cX5_mend 1 = .ok (.istore_n 2, 1) := by decide +kernel
theorem dX5_mend_2 : decode cX5_mend 2 = .ok (.iload_n 2, 1) := by decide +kernel
theorem dX5_mend_3 : decode cX5_mend 3 = .ok (.aload_n 0, 1) := by decide +kernel
theorem dX5_mend_4 : decode cX5_mend 4 = .ok (.getfield 59, 3) := by decide +kernel
theorem dX5_mend_7 : decode cX5_mend 7 = .ok (.if_icmp .ge 47, 3) := by decide +kernel
theorem dX5_mend_10 : decode cX5_mend 10 = .ok (.aload_n 0, 1) := by decide +kernel
theorem dX5_mend_11 : decode cX5_mend 11 = .ok (.getfield 31, 3) := by decide +kernel
theorem dX5_mend_14 : decode cX5_mend 14 = .ok (.iload_n 2, 1) := by decide +kernel
theorem dX5_mend_15 : decode cX5_mend 15 = .ok (.aaload, 1) := by decide +kernel
theorem dX5_mend_16 : decode cX5_mend 16 = .ok (.getfield 232, 3) := by decide +kernel
theorem dX5_mend_19 : decode cX5_mend 19 = .ok (.iload_n 1, 1) := by decide +kernel
theorem dX5_mend_20 : decode cX5_mend 20 = .ok (.if_icmp .ne 28, 3) := by decide +kernel
theorem dX5_mend_23 : decode cX5_mend 23 = .ok (.aload_n 0, 1) := by decide +kernel
theorem dX5_mend_24 : decode cX5_mend 24 = .ok (.getfield 31, 3) := by decide +kernel
theorem dX5_mend_27 : decode cX5_mend 27 = .ok (.iload_n 2, 1) := by decide +kernel
theorem dX5_mend_28 : decode cX5_mend 28 = .ok (.aaload, 1) := by decide +kernel
theorem dX5_mend_29 : decode cX5_mend 29 = .ok (.getfield 235, 3) := by decide +kernel
theorem dX5_mend_32 : decode cX5_mend 32 = .ok (.ifCond .ne 16, 3) := by decide +kernel
theorem dX5_mend_35 : decode cX5_mend 35 = .ok (.aload_n 0, 1) := by decide +kernel
theorem dX5_mend_36 : decode cX5_mend 36 = .ok (.getfield 31, 3) := by decide +kernel
theorem dX5_mend_39 : decode cX5_mend 39 = .ok (.iload_n 2, 1) := by decide +kernel
theorem dX5_mend_40 : decode cX5_mend 40 = .ok (.aaload, 1) := by decide +kernel
theorem dX5_mend_41 : decode cX5_mend 41 = .ok (.aload_n 0, 1) := by decide +kernel
theorem dX5_mend_42 : decode cX5_mend 42 = .ok (.getfield 72, 3) := by decide +kernel
theorem dX5_mend_45 : decode cX5_mend 45 = .ok (.putfield 235, 3) := by decide +kernel
theorem dX5_mend_48 : decode cX5_mend 48 = .ok (.iinc 2 1, 3) := by decide +kernel
theorem dX5_mend_51 : decode cX5_mend 51 = .ok (.goto (-49), 3) := by decide +kernel
theorem dX5_mend_54 : decode cX5_mend 54 = .ok (.aload_n 0, 1) := by decide +kernel
theorem dX5_mend_55 : decode cX5_mend 55 = .ok (.getfield 19, 3) := by decide +kernel
theorem dX5_mend_58 : decode cX5_mend 58 = .ok (.iload_n 1, 1) := by decide +kernel
theorem dX5_mend_59 : decode cX5_mend 59 = .ok (.aaload, 1) := by decide +kernel
theorem dX5_mend_60 : decode cX5_mend 60 = .ok (.dup, 1) := by decide +kernel
theorem dX5_mend_61 : decode cX5_mend 61 = .ok (.getfield 238, 3) := by decide +kernel
theorem dX5_mend_64 : decode cX5_mend 64 = .ok (.iconst 1, 1) := by decide +kernel
theorem dX5_mend_65 : decode cX5_mend 65 = .ok (.iadd, 1) := by decide +kernel
theorem dX5_mend_66 : decode cX5_mend 66 = .ok (.putfield 238, 3) := by decide +kernel
theorem dX5_mend_69 : decode cX5_mend 69 = .ok (.aload_n 0, 1) := by decide +kernel
theorem dX5_mend_70 : decode cX5_mend 70 = .ok (.getfield 19, 3) := by decide +kernel
theorem dX5_mend_73 : decode cX5_mend 73 = .ok (.iload_n 1, 1) := by decide +kernel
theorem dX5_mend_74 : decode cX5_mend 74 = .ok (.aaload, 1) := by decide +kernel
theorem dX5_mend_75 : decode cX5_mend 75 = .ok (.getfield 238, 3) := by decide +kernel
theorem dX5_mend_78 : decode cX5_mend 78 = .ok (.ireturn, 1) := by decide +kernel
theorem dX5_tryOut_0 : decode cX5_tryOut 0 = .ok (.aload_n 0, 1) := by decide +kernel
theorem dX5_tryOut_1 : decode cX5_tryOut 1 = .ok (.getfield 19, 3) := by decide +kernel
theorem dX5_tryOut_4 : decode cX5_tryOut 4 = .ok (.iload_n 1, 1) := by decide +kernel
theorem dX5_tryOut_5 : decode cX5_tryOut 5 = .ok (.aaload, 1) := by decide +kernel
theorem dX5_tryOut_6 : decode cX5_tryOut 6 = .ok (.astore_n 3, 1) := by decide +kernel
theorem dX5_tryOut_7 : decode cX5_tryOut 7 = .ok (.aload_n 3, 1) := by decide +kernel
theorem dX5_tryOut_8 : decode cX5_tryOut 8 = .ok (.bipush 111, 2) := by decide +kernel
theorem dX5_tryOut_10 : decode cX5_tryOut 10 = .ok (.putfield 160, 3) := by decide +kernel
theorem dX5_tryOut_13 : decode cX5_tryOut 13 = .ok (.aload_n 3, 1) := by decide +kernel
theorem dX5_tryOut_14 : decode cX5_tryOut 14 = .ok (.iload_n 2, 1) := by decide +kernel
theorem dX5_tryOut_15 : decode cX5_tryOut 15 = .ok (.aload_n 0, 1) := by decide +kernel
theorem dX5_tryOut_16 : decode cX5_tryOut 16 = .ok (.getfield 72, 3) := by decide +kernel
theorem dX5_tryOut_19 : decode cX5_tryOut 19 = .ok (.invokevirtual 241, 3) := by decide +kernel
theorem dX5_tryOut_22 : decode cX5_tryOut 22 = .ok (.iload_n 2, 1) := by decide +kernel
theorem dX5_tryOut_23 : decode cX5_tryOut 23 = .ok (.ifCond .ne 8, 3) := by decide +kernel
theorem dX5_tryOut_26 : decode cX5_tryOut 26 = .ok (.aload_n 0, 1) := by decide +kernel
theorem dX5_tryOut_27 : decode cX5_tryOut 27 = .ok (.iload_n 1, 1) := by decide +kernel
theorem dX5_tryOut_28 : decode cX5_tryOut 28 = .ok (.invokevirtual 245, 3) := by decide +kernel
theorem dX5_tryOut_31 : decode cX5_tryOut 31 = .ok (.aload_n 3, 1) := by decide +kernel
theorem dX5_tryOut_32 : decode cX5_tryOut 32 = .ok (.getfield 248, 3) := by decide +kernel
theorem dX5_tryOut_35 : decode cX5_tryOut 35 = .ok (.ireturn, 1) := by decide +kernel
theorem dX5_handOut_0 : decode cX5_handOut 0 = .ok (.aload_n 1, 1) := by decide +kernel
theorem dX5_handOut_1 : decode cX5_handOut 1 = .ok (.bipush 104, 2) := by decide +kernel
theorem dX5_handOut_3 : decode cX5_handOut 3 = .ok (.putfield 160, 3) := by decide +kernel
theorem dX5_handOut_6 : decode cX5_handOut 6 = .ok (.aload_n 1, 1) := by decide +kernel
theorem dX5_handOut_7 : decode cX5_handOut 7 = .ok (.aload_n 0, 1) := by decide +kernel
theorem dX5_handOut_8 : decode cX5_handOut 8 = .ok (.getfield 65, 3) := by decide +kernel
theorem dX5_handOut_11 : decode cX5_handOut 11 = .ok (.iload_n 2, 1) := by decide +kernel
theorem dX5_handOut_12 : decode cX5_handOut 12 = .ok (.iadd, 1) := by decide +kernel
theorem dX5_handOut_13 : decode cX5_handOut 13 = .ok (.putfield 251, 3) := by decide +kernel
theorem dX5_handOut_16 : decode cX5_handOut 16 = .ok (.aload_n 1, 1) := by decide +kernel
theorem dX5_handOut_17 : decode cX5_handOut 17 = .ok (.iload_n 3, 1) := by decide +kernel
theorem dX5_handOut_18 : decode cX5_handOut 18 = .ok (.putfield 254, 3) := by decide +kernel
theorem dX5_handOut_21 : decode cX5_handOut 21 = .ok (.aload_n 1, 1) := by decide +kernel
theorem dX5_handOut_22 : decode cX5_handOut 22 = .ok (.getfield 251, 3) := by decide +kernel
theorem dX5_handOut_25 : decode cX5_handOut 25 = .ok (.ireturn, 1) := by decide +kernel
theorem dX5_takeIn_0 : decode cX5_takeIn 0 = .ok (.aload_n 0, 1) := by decide +kernel
theorem dX5_takeIn_1 : decode cX5_takeIn 1 = .ok (.getfield 19, 3) := by decide +kernel
theorem dX5_takeIn_4 : decode cX5_takeIn 4 = .ok (.iload_n 1, 1) := by decide +kernel
theorem dX5_takeIn_5 : decode cX5_takeIn 5 = .ok (.aaload, 1) := by decide +kernel
theorem dX5_takeIn_6 : decode cX5_takeIn 6 = .ok (.astore 4, 2) := by decide +kernel
theorem dX5_takeIn_8 : decode cX5_takeIn 8 = .ok (.iconst 0, 1) := by decide +kernel
theorem dX5_takeIn_9 : decode cX5_takeIn 9 = .ok (.aload_n 0, 1) := by decide +kernel
theorem dX5_takeIn_10 : decode cX5_takeIn 10 = .ok (.getfield 65, 3) := by decide +kernel
theorem dX5_takeIn_13 : decode cX5_takeIn 13 = .ok (.aload 4, 2) := by decide +kernel
theorem dX5_takeIn_15 : decode cX5_takeIn 15 = .ok (.getfield 251, 3) := by decide +kernel
theorem dX5_takeIn_18 : decode cX5_takeIn 18 = .ok (.isub, 1) := by decide +kernel
theorem dX5_takeIn_19 : decode cX5_takeIn 19 = .ok (.invokestatic 257, 3) := by decide +kernel
theorem dX5_takeIn_22 : decode cX5_takeIn 22 = .ok (.istore 5, 2) := by decide +kernel
theorem dX5_takeIn_24 : decode cX5_takeIn 24 = .ok (.iconst 5, 1) := by decide +kernel
theorem dX5_takeIn_25 : decode cX5_takeIn 25 = .ok (.iload 5, 2) := by decide +kernel
theorem dX5_takeIn_27 : decode cX5_takeIn 27 = .ok (.imul, 1) := by decide +kernel
theorem dX5_takeIn_28 : decode cX5_takeIn 28 = .ok (.iload_n 3, 1) := by decide +kernel
theorem dX5_takeIn_29 : decode cX5_takeIn 29 = .ok (.ifCond .eq 8, 3) := by decide +kernel
theorem dX5_takeIn_32 : decode cX5_takeIn 32 = .ok (.bipush 50, 2) := by decide +kernel
theorem dX5_takeIn_34 : decode cX5_takeIn 34 = .ok (.goto 4, 3) := by decide +kernel
theorem dX5_takeIn_37 : decode cX5_takeIn 37 = .ok (.iconst 0, 1) := by decide +kernel
theorem dX5_takeIn_38 : decode cX5_takeIn 38 = .ok (.iadd, 1) := by decide +kernel
theorem dX5_takeIn_39 : decode cX5_takeIn 39 = .ok (.istore 6, 2) := by decide +kernel
theorem dX5_takeIn_41 : decode cX5_takeIn 41 = .ok (.iconst 0, 1) := by decide +kernel
theorem dX5_takeIn_42 : decode cX5_takeIn 42 = .ok (.aload 4, 2) := by decide +kernel
theorem dX5_takeIn_44 : decode cX5_takeIn 44 = .ok (.getfield 254, 3) := by decide +kernel
theorem dX5_takeIn_47 : decode cX5_takeIn 47 = .ok (.iload 6, 2) := by decide +kernel
theorem dX5_takeIn_49 : decode cX5_takeIn 49 = .ok (.isub, 1) := by decide +kernel
theorem dX5_takeIn_50 : decode cX5_takeIn 50 = .ok (.invokestatic 257, 3) := by decide +kernel
theorem dX5_takeIn_53 : decode cX5_takeIn 53 = .ok (.istore 7, 2) := by decide +kernel
theorem dX5_takeIn_55 : decode cX5_takeIn 55 = .ok (.aload_n 0, 1) := by decide +kernel
theorem dX5_takeIn_56 : decode cX5_takeIn 56 = .ok (.dup, 1) := by decide +kernel
theorem dX5_takeIn_57 : decode cX5_takeIn 57 = .ok (.getfield 68, 3) := by decide +kernel
theorem dX5_takeIn_60 : decode cX5_takeIn 60 = .ok (.aload 4, 2) := by decide +kernel
theorem dX5_takeIn_62 : decode cX5_takeIn 62 = .ok (.getfield 254, 3) := by decide +kernel
theorem dX5_takeIn_65 : decode cX5_takeIn 65 = .ok (.iload 7, 2) := by decide +kernel
theorem dX5_takeIn_67 : decode cX5_takeIn 67 = .ok (.isub, 1) := by decide +kernel
theorem dX5_takeIn_68 : decode cX5_takeIn 68 = .ok (.i2l, 1) := by decide +kernel
theorem dX5_takeIn_69 : decode cX5_takeIn 69 = .ok (.ladd, 1) := by decide +kernel
theorem dX5_takeIn_70 : decode cX5_takeIn 70 = .ok (.putfield 68, 3) := by decide +kernel
theorem dX5_takeIn_73 : decode cX5_takeIn 73 = .ok (.aload 4, 2) := by decide +kernel
theorem dX5_takeIn_75 : decode cX5_takeIn 75 = .ok (.iload_n 2, 1) := by decide +kernel
theorem dX5_takeIn_76 : decode cX5_takeIn 76 = .ok (.ifCond .eq 8, 3) := by decide +kernel
theorem dX5_takeIn_79 : decode cX5_takeIn 79 = .ok (.bipush 111, 2) := by decide +kernel
theorem dX5_takeIn_81 : decode cX5_takeIn 81 = .ok (.goto 5, 3) := by decide +kernel
theorem dX5_takeIn_84 : decode cX5_takeIn 84 = .ok (.bipush 107, 2) := by decide +kernel
theorem dX5_takeIn_86 : decode cX5_takeIn 86 = .ok (.putfield 160, 3) := by decide +kernel
theorem dX5_takeIn_89 : decode cX5_takeIn 89 = .ok (.aload 4, 2) := by decide +kernel
theorem dX5_takeIn_91 : decode cX5_takeIn 91 = .ok (.iconst 0, 1) := by decide +kernel
theorem dX5_takeIn_92 : decode cX5_takeIn 92 = .ok (.putfield 251, 3) := by decide +kernel
theorem dX5_takeIn_95 : decode cX5_takeIn 95 = .ok (.aload 4, 2) := by decide +kernel
theorem dX5_takeIn_97 : decode cX5_takeIn 97 = .ok (.iconst 0, 1) := by decide +kernel
theorem dX5_takeIn_98 : decode cX5_takeIn 98 = .ok (.putfield 254, 3) := by decide +kernel
theorem dX5_takeIn_101 : decode cX5_takeIn 101 = .ok (.iload_n 3, 1) := by decide +kernel
theorem dX5_takeIn_102 : decode cX5_takeIn 102 = .ok (.ifCond .eq 8, 3) := by decide +kernel
theorem dX5_takeIn_105 : decode cX5_takeIn 105 = .ok (.aload_n 0, 1) := by decide +kernel
theorem dX5_takeIn_106 : decode cX5_takeIn 106 = .ok (.iload_n 1, 1) := by decide +kernel
theorem dX5_takeIn_107 : decode cX5_takeIn 107 = .ok (.invokevirtual 245, 3) := by decide +kernel
theorem dX5_takeIn_110 : decode cX5_takeIn 110 = .ok (.iload 7, 2) := by decide +kernel
theorem dX5_takeIn_112 : decode cX5_takeIn 112 = .ok (.ireturn, 1) := by decide +kernel
theorem dX5_isFitToJump_0 : decode cX5_isFitToJump 0 = .ok (.aload_n 0, 1) := by decide +kernel
theorem dX5_isFitToJump_1 : decode cX5_isFitToJump 1 = .ok (.aload_n 0, 1) := by decide +kernel
theorem dX5_isFitToJump_2 : decode cX5_isFitToJump 2 = .ok (.getfield 19, 3) := by decide +kernel
theorem dX5_isFitToJump_5 : decode cX5_isFitToJump 5 = .ok (.iload_n 1, 1) := by decide +kernel
theorem dX5_isFitToJump_6 : decode cX5_isFitToJump 6 = .ok (.aaload, 1) := by decide +kernel
theorem dX5_isFitToJump_7 : decode cX5_isFitToJump 7 = .ok (.invokevirtual 262, 3) := by decide +kernel
theorem dX5_isFitToJump_10 : decode cX5_isFitToJump 10 = .ok (.ifCond .ne 15, 3) := by decide +kernel
theorem dX5_isFitToJump_13 : decode cX5_isFitToJump 13 = .ok (.aload_n 0, 1) := by decide +kernel
theorem dX5_isFitToJump_14 : decode cX5_isFitToJump 14 = .ok (.iload_n 1, 1) := by decide +kernel
theorem dX5_isFitToJump_15 : decode cX5_isFitToJump 15 = .ok (.invokevirtual 266, 3) := by decide +kernel
theorem dX5_isFitToJump_18 : decode cX5_isFitToJump 18 = .ok (.ifCond .ne 7, 3) := by decide +kernel
theorem dX5_isFitToJump_21 : decode cX5_isFitToJump 21 = .ok (.iconst 1, 1) := by decide +kernel
theorem dX5_isFitToJump_22 : decode cX5_isFitToJump 22 = .ok (.goto 4, 3) := by decide +kernel
theorem dX5_isFitToJump_25 : decode cX5_isFitToJump 25 = .ok (.iconst 0, 1) := by decide +kernel
theorem dX5_isFitToJump_26 : decode cX5_isFitToJump 26 = .ok (.ireturn, 1) := by decide +kernel
theorem dX5_isTooOld_0 : decode cX5_isTooOld 0 = .ok (.aload_n 0, 1) := by decide +kernel
theorem dX5_isTooOld_1 : decode cX5_isTooOld 1 = .ok (.getfield 65, 3) := by decide +kernel
theorem dX5_isTooOld_4 : decode cX5_isTooOld 4 = .ok (.aload_n 1, 1) := by decide +kernel
theorem dX5_isTooOld_5 : decode cX5_isTooOld 5 = .ok (.getfield 269, 3) := by decide +kernel
theorem dX5_isTooOld_8 : decode cX5_isTooOld 8 = .ok (.isub, 1) := by decide +kernel
theorem dX5_isTooOld_9 : decode cX5_isTooOld 9 = .ok (.aload_n 1, 1) := by decide +kernel
theorem dX5_isTooOld_10 : decode cX5_isTooOld 10 = .ok (.getfield 272, 3) := by decide +kernel
theorem dX5_isTooOld_13 : decode cX5_isTooOld 13 = .ok (.if_icmp .le 5, 3) := by decide +kernel
theorem dX5_isTooOld_16 : decode cX5_isTooOld 16 = .ok (.iconst 1, 1) := by decide +kernel
theorem dX5_isTooOld_17 : decode cX5_isTooOld 17 = .ok (.ireturn, 1) := by decide +kernel
theorem dX5_isTooOld_18 : decode cX5_isTooOld 18 = .ok (.aload_n 1, 1) := by decide +kernel
theorem dX5_isTooOld_19 : decode cX5_isTooOld 19 = .ok (.getfield 160, 3) := by decide +kernel
theorem dX5_isTooOld_22 : decode cX5_isTooOld 22 = .ok (.bipush 111, 2) := by decide +kernel
theorem dX5_isTooOld_24 : decode cX5_isTooOld 24 = .ok (.if_icmp .eq 16, 3) := by decide +kernel
theorem dX5_isTooOld_27 : decode cX5_isTooOld 27 = .ok (.aload_n 1, 1) := by decide +kernel
theorem dX5_isTooOld_28 : decode cX5_isTooOld 28 = .ok (.getfield 160, 3) := by decide +kernel
theorem dX5_isTooOld_31 : decode cX5_isTooOld 31 = .ok (.bipush 112, 2) := by decide +kernel
theorem dX5_isTooOld_33 : decode cX5_isTooOld 33 = .ok (.if_icmp .eq 7, 3) := by decide +kernel
theorem dX5_isTooOld_36 : decode cX5_isTooOld 36 = .ok (.iconst 1, 1) := by decide +kernel
theorem dX5_isTooOld_37 : decode cX5_isTooOld 37 = .ok (.goto 4, 3) := by decide +kernel
theorem dX5_isTooOld_40 : decode cX5_isTooOld 40 = .ok (.iconst 0, 1) := by decide +kernel
theorem dX5_isTooOld_41 : decode cX5_isTooOld 41 = .ok (.istore_n 2, 1) := by decide +kernel
theorem dX5_isTooOld_42 : decode cX5_isTooOld 42 = .ok (.aload_n 1, 1) := by decide +kernel
theorem dX5_isTooOld_43 : decode cX5_isTooOld 43 = .ok (.getfield 275, 3) := by decide +kernel
theorem dX5_isTooOld_46 : decode cX5_isTooOld 46 = .ok (.bipush 114, 2) := by decide +kernel
theorem dX5_isTooOld_48 : decode cX5_isTooOld 48 = .ok (.if_icmp .ne 19, 3) := by decide +kernel
theorem dX5_isTooOld_51 : decode cX5_isTooOld 51 = .ok (.iload_n 2, 1) := by decide +kernel
theorem dX5_isTooOld_52 : decode cX5_isTooOld 52 = .ok (.ifCond .eq 15, 3) := by decide +kernel
theorem dX5_isTooOld_55 : decode cX5_isTooOld 55 = .ok (.aload_n 0, 1) := by decide +kernel
theorem dX5_isTooOld_56 : decode cX5_isTooOld 56 = .ok (.aload_n 1, 1) := by decide +kernel
theorem dX5_isTooOld_57 : decode cX5_isTooOld 57 = .ok (.invokevirtual 278, 3) := by decide +kernel
theorem dX5_isTooOld_60 : decode cX5_isTooOld 60 = .ok (.ifCond .ge 7, 3) := by decide +kernel
theorem dX5_isTooOld_63 : decode cX5_isTooOld 63 = .ok (.iconst 1, 1) := by decide +kernel
theorem dX5_isTooOld_64 : decode cX5_isTooOld 64 = .ok (.goto 4, 3) := by decide +kernel
theorem dX5_isTooOld_67 : decode cX5_isTooOld 67 = .ok (.iconst 0, 1) := by decide +kernel
theorem dX5_isTooOld_68 : decode cX5_isTooOld 68 = .ok (.ireturn, 1) := by decide +kernel
theorem dX5_daysLeft_0 : decode cX5_daysLeft 0 = .ok (.aload_n 0, 1) := by decide +kernel
theorem dX5_daysLeft_1 : decode cX5_daysLeft 1 = .ok (.getfield 38, 3) := by decide +kernel
theorem dX5_daysLeft_4 : decode cX5_daysLeft 4 = .ok (.aload_n 1, 1) := by decide +kernel
theorem dX5_daysLeft_5 : decode cX5_daysLeft 5 = .ok (.getfield 186, 3) := by decide +kernel
theorem dX5_daysLeft_8 : decode cX5_daysLeft 8 = .ok (.invokevirtual 182, 3) := by decide +kernel
theorem dX5_daysLeft_11 : decode cX5_daysLeft 11 = .ok (.ifCond .ne 5, 3) := by decide +kernel
theorem dX5_daysLeft_14 : decode cX5_daysLeft 14 = .ok (.iconst 0, 1) := by decide +kernel
theorem dX5_daysLeft_15 : decode cX5_daysLeft 15 = .ok (.ireturn, 1) := by decide +kernel
theorem dX5_daysLeft_16 : decode cX5_daysLeft 16 = .ok (.aload_n 0, 1) := by decide +kernel
theorem dX5_daysLeft_17 : decode cX5_daysLeft 17 = .ok (.getfield 46, 3) := by decide +kernel
theorem dX5_daysLeft_20 : decode cX5_daysLeft 20 = .ok (.aload_n 0, 1) := by decide +kernel
theorem dX5_daysLeft_21 : decode cX5_daysLeft 21 = .ok (.getfield 65, 3) := by decide +kernel
theorem dX5_daysLeft_24 : decode cX5_daysLeft 24 = .ok (.aload_n 0, 1) := by decide +kernel
theorem dX5_daysLeft_25 : decode cX5_daysLeft 25 = .ok (.getfield 38, 3) := by decide +kernel
theorem dX5_daysLeft_28 : decode cX5_daysLeft 28 = .ok (.getfield 281, 3) := by decide +kernel
theorem dX5_daysLeft_31 : decode cX5_daysLeft 31 = .ok (.aload_n 1, 1) := by decide +kernel
theorem dX5_daysLeft_32 : decode cX5_daysLeft 32 = .ok (.getfield 186, 3) := by decide +kernel
theorem dX5_daysLeft_35 : decode cX5_daysLeft 35 = .ok (.iaload, 1) := by decide +kernel
theorem dX5_daysLeft_36 : decode cX5_daysLeft 36 = .ok (.isub, 1) := by decide +kernel
theorem dX5_daysLeft_37 : decode cX5_daysLeft 37 = .ok (.isub, 1) := by decide +kernel
theorem dX5_daysLeft_38 : decode cX5_daysLeft 38 = .ok (.ireturn, 1) := by decide +kernel
theorem dX5_isOnGround_0 : decode cX5_isOnGround 0 = .ok (.iconst 0, 1) := by decide +kernel
theorem dX5_isOnGround_1 : decode cX5_isOnGround 1 = .ok (.istore_n 2, 1) := by decide +kernel
theorem dX5_isOnGround_2 : decode cX5_isOnGround 2 = .ok (.iload_n 2, 1) := by decide +kernel
theorem dX5_isOnGround_3 : decode cX5_isOnGround 3 = .ok (.aload_n 0, 1) := by decide +kernel
theorem dX5_isOnGround_4 : decode cX5_isOnGround 4 = .ok (.getfield 59, 3) := by decide +kernel
theorem dX5_isOnGround_7 : decode cX5_isOnGround 7 = .ok (.if_icmp .ge 39, 3) := by decide +kernel
theorem dX5_isOnGround_10 : decode cX5_isOnGround 10 = .ok (.aload_n 0, 1) := by decide +kernel
theorem dX5_isOnGround_11 : decode cX5_isOnGround 11 = .ok (.aload_n 0, 1) := by decide +kernel
theorem dX5_isOnGround_12 : decode cX5_isOnGround 12 = .ok (.getfield 31, 3) := by decide +kernel
theorem dX5_isOnGround_15 : decode cX5_isOnGround 15 = .ok (.iload_n 2, 1) := by decide +kernel
theorem dX5_isOnGround_16 : decode cX5_isOnGround 16 = .ok (.aaload, 1) := by decide +kernel
theorem dX5_isOnGround_17 : decode cX5_isOnGround 17 = .ok (.iload_n 1, 1) := by decide +kernel
theorem dX5_isOnGround_18 : decode cX5_isOnGround 18 = .ok (.invokevirtual 284, 3) := by decide +kernel
theorem dX5_isOnGround_21 : decode cX5_isOnGround 21 = .ok (.ifCond .eq 19, 3) := by decide +kernel
theorem dX5_isOnGround_24 : decode cX5_isOnGround 24 = .ok (.aload_n 0, 1) := by decide +kernel
theorem dX5_isOnGround_25 : decode cX5_isOnGround 25 = .ok (.aload_n 0, 1) := by decide +kernel
theorem dX5_isOnGround_26 : decode cX5_isOnGround 26 = .ok (.getfield 31, 3) := by decide +kernel
theorem dX5_isOnGround_29 : decode cX5_isOnGround 29 = .ok (.iload_n 2, 1) := by decide +kernel
theorem dX5_isOnGround_30 : decode cX5_isOnGround 30 = .ok (.aaload, 1) := by decide +kernel
theorem dX5_isOnGround_31 : decode cX5_isOnGround 31 = .ok (.iload_n 1, 1) := by decide +kernel
theorem dX5_isOnGround_32 : decode cX5_isOnGround 32 = .ok (.invokevirtual 288, 3) := by decide +kernel
theorem dX5_isOnGround_35 : decode cX5_isOnGround 35 = .ok (.ifCond .ne 5, 3) := by decide +kernel
theorem dX5_isOnGround_38 : decode cX5_isOnGround 38 = .ok (.iconst 1, 1) := by decide +kernel
theorem dX5_isOnGround_39 : decode cX5_isOnGround 39 = .ok (.ireturn, 1) := by decide +kernel
theorem dX5_isOnGround_40 : decode cX5_isOnGround 40 = .ok (.iinc 2 1, 3) := by decide +kernel
theorem dX5_isOnGround_43 : decode cX5_isOnGround 43 = .ok (.goto (-41), 3) := by decide +kernel
theorem dX5_isOnGround_46 : decode cX5_isOnGround 46 = .ok (.iconst 0, 1) := by decide +kernel
theorem dX5_isOnGround_47 : decode cX5_isOnGround 47 = .ok (.ireturn, 1) := by decide +kernel
theorem dX5_countGroundedBy_0 : decode cX5_countGroundedBy 0 = .ok (.iconst 0, 1) := by decide +kernel
theorem dX5_countGroundedBy_1 : decode cX5_countGroundedBy 1 = .ok (.istore_n 2, 1) := by decide +kernel
theorem dX5_countGroundedBy_2 : decode cX5_countGroundedBy 2 = .ok (.iconst 0, 1) := by decide +kernel
theorem dX5_countGroundedBy_3 : decode cX5_countGroundedBy 3 = .ok (.istore_n 3, 1) := by decide +kernel
theorem dX5_countGroundedBy_4 : decode cX5_countGroundedBy 4 = .ok (.iload_n 3, 1) := by decide +kernel
theorem dX5_countGroundedBy_5 : decode cX5_countGroundedBy 5 = .ok (.aload_n 0, 1) := by decide +kernel
theorem dX5_countGroundedBy_6 : decode cX5_countGroundedBy 6 = .ok (.getfield 53, 3) := by decide +kernel
theorem dX5_countGroundedBy_9 : decode cX5_countGroundedBy 9 = .ok (.if_icmp .ge 40, 3) := by decide +kernel
theorem dX5_countGroundedBy_12 : decode cX5_countGroundedBy 12 = .ok (.aload_n 0, 1) := by decide +kernel
theorem dX5_countGroundedBy_13 : decode cX5_countGroundedBy 13 = .ok (.aload_n 0, 1) := by decide +kernel
theorem dX5_countGroundedBy_14 : decode cX5_countGroundedBy 14 = .ok (.getfield 31, 3) := by decide +kernel
theorem dX5_countGroundedBy_17 : decode cX5_countGroundedBy 17 = .ok (.iload_n 1, 1) := by decide +kernel
theorem dX5_countGroundedBy_18 : decode cX5_countGroundedBy 18 = .ok (.aaload, 1) := by decide +kernel
theorem dX5_countGroundedBy_19 : decode cX5_countGroundedBy 19 = .ok (.iload_n 3, 1) := by decide +kernel
theorem dX5_countGroundedBy_20 : decode cX5_countGroundedBy 20 = .ok (.invokevirtual 284, 3) := by decide +kernel
theorem dX5_countGroundedBy_23 : decode cX5_countGroundedBy 23 = .ok (.ifCond .eq 20, 3) := by decide +kernel
theorem dX5_countGroundedBy_26 : decode cX5_countGroundedBy 26 = .ok (.aload_n 0, 1) := by decide +kernel
theorem dX5_countGroundedBy_27 : decode cX5_countGroundedBy 27 = .ok (.aload_n 0, 1) := by decide +kernel
theorem dX5_countGroundedBy_28 : decode cX5_countGroundedBy 28 = .ok (.getfield 31, 3) := by decide +kernel
theorem dX5_countGroundedBy_31 : decode cX5_countGroundedBy 31 = .ok (.iload_n 1, 1) := by decide +kernel
theorem dX5_countGroundedBy_32 : decode cX5_countGroundedBy 32 = .ok (.aaload, 1) := by decide +kernel
theorem dX5_countGroundedBy_33 : decode cX5_countGroundedBy 33 = .ok (.iload_n 3, 1) := by decide +kernel
theorem dX5_countGroundedBy_34 : decode cX5_countGroundedBy 34 = .ok (.invokevirtual 288, 3) := by decide +kernel
theorem dX5_countGroundedBy_37 : decode cX5_countGroundedBy 37 = .ok (.ifCond .ne 6, 3) := by decide +kernel
theorem dX5_countGroundedBy_40 : decode cX5_countGroundedBy 40 = .ok (.iinc 2 1, 3) := by decide +kernel
theorem dX5_countGroundedBy_43 : decode cX5_countGroundedBy 43 = .ok (.iinc 3 1, 3) := by decide +kernel
theorem dX5_countGroundedBy_46 : decode cX5_countGroundedBy 46 = .ok (.goto (-42), 3) := by decide +kernel
theorem dX5_countGroundedBy_49 : decode cX5_countGroundedBy 49 = .ok (.iload_n 2, 1) := by decide +kernel
theorem dX5_countGroundedBy_50 : decode cX5_countGroundedBy 50 = .ok (.ireturn, 1) := by decide +kernel
theorem dX5_isReachedBy_0 : decode cX5_isReachedBy 0 = .ok (.aload_n 1, 1) := by decide +kernel
theorem dX5_isReachedBy_1 : decode cX5_isReachedBy 1 = .ok (.getfield 229, 3) := by decide +kernel
theorem dX5_isReachedBy_4 : decode cX5_isReachedBy 4 = .ok (.ifCond .eq 5, 3) := by decide +kernel
theorem dX5_isReachedBy_7 : decode cX5_isReachedBy 7 = .ok (.iconst 0, 1) := by decide +kernel
theorem dX5_isReachedBy_8 : decode cX5_isReachedBy 8 = .ok (.ireturn, 1) := by decide +kernel
theorem dX5_isReachedBy_9 : decode cX5_isReachedBy 9 = .ok (.aload_n 1, 1) := by decide +kernel
theorem dX5_isReachedBy_10 : decode cX5_isReachedBy 10 = .ok (.getfield 232, 3) := by decide +kernel
theorem dX5_isReachedBy_13 : decode cX5_isReachedBy 13 = .ok (.iload_n 2, 1) := by decide +kernel
theorem dX5_isReachedBy_14 : decode cX5_isReachedBy 14 = .ok (.if_icmp .ne 5, 3) := by decide +kernel
theorem dX5_isReachedBy_17 : decode cX5_isReachedBy 17 = .ok (.iconst 1, 1) := by decide +kernel
theorem dX5_isReachedBy_18 : decode cX5_isReachedBy 18 = .ok (.ireturn, 1) := by decide +kernel
theorem dX5_isReachedBy_19 : decode cX5_isReachedBy 19 = .ok (.aload_n 0, 1) := by decide +kernel
theorem dX5_isReachedBy_20 : decode cX5_isReachedBy 20 = .ok (.getfield 19, 3) := by decide +kernel
theorem dX5_isReachedBy_23 : decode cX5_isReachedBy 23 = .ok (.aload_n 1, 1) := by decide +kernel
theorem dX5_isReachedBy_24 : decode cX5_isReachedBy 24 = .ok (.getfield 232, 3) := by decide +kernel
theorem dX5_isReachedBy_27 : decode cX5_isReachedBy 27 = .ok (.aaload, 1) := by decide +kernel
theorem dX5_isReachedBy_28 : decode cX5_isReachedBy 28 = .ok (.astore_n 3, 1) := by decide +kernel
theorem dX5_isReachedBy_29 : decode cX5_isReachedBy 29 = .ok (.aload_n 0, 1) := by decide +kernel
theorem dX5_isReachedBy_30 : decode cX5_isReachedBy 30 = .ok (.getfield 19, 3) := by decide +kernel
theorem dX5_isReachedBy_33 : decode cX5_isReachedBy 33 = .ok (.iload_n 2, 1) := by decide +kernel
theorem dX5_isReachedBy_34 : decode cX5_isReachedBy 34 = .ok (.aaload, 1) := by decide +kernel
theorem dX5_isReachedBy_35 : decode cX5_isReachedBy 35 = .ok (.astore 4, 2) := by decide +kernel
theorem dX5_isReachedBy_37 : decode cX5_isReachedBy 37 = .ok (.aload_n 1, 1) := by decide +kernel
theorem dX5_isReachedBy_38 : decode cX5_isReachedBy 38 = .ok (.iconst 1, 1) := by decide +kernel
theorem dX5_isReachedBy_39 : decode cX5_isReachedBy 39 = .ok (.bipush 108, 2) := by decide +kernel
theorem dX5_isReachedBy_41 : decode cX5_isReachedBy 41 = .ok (.invokevirtual 291, 3) := by decide +kernel
theorem dX5_isReachedBy_44 : decode cX5_isReachedBy 44 = .ok (.ifCond .eq 17, 3) := by decide +kernel
theorem dX5_isReachedBy_47 : decode cX5_isReachedBy 47 = .ok (.aload 4, 2) := by decide +kernel
theorem dX5_isReachedBy_49 : decode cX5_isReachedBy 49 = .ok (.getfield 295, 3) := by decide +kernel
theorem dX5_isReachedBy_52 : decode cX5_isReachedBy 52 = .ok (.aload_n 3, 1) := by decide +kernel
theorem dX5_isReachedBy_53 : decode cX5_isReachedBy 53 = .ok (.getfield 295, 3) := by decide +kernel
theorem dX5_isReachedBy_56 : decode cX5_isReachedBy 56 = .ok (.if_icmp .ne 5, 3) := by decide +kernel
theorem dX5_isReachedBy_59 : decode cX5_isReachedBy 59 = .ok (.iconst 1, 1) := by decide +kernel
theorem dX5_isReachedBy_60 : decode cX5_isReachedBy 60 = .ok (.ireturn, 1) := by decide +kernel
theorem dX5_isReachedBy_61 : decode cX5_isReachedBy 61 = .ok (.aload_n 1, 1) := by decide +kernel
theorem dX5_isReachedBy_62 : decode cX5_isReachedBy 62 = .ok (.iconst 4, 1) := by decide +kernel
theorem dX5_isReachedBy_63 : decode cX5_isReachedBy 63 = .ok (.bipush 99, 2) := by decide +kernel
theorem dX5_isReachedBy_65 : decode cX5_isReachedBy 65 = .ok (.invokevirtual 291, 3) := by decide +kernel
theorem dX5_isReachedBy_68 : decode cX5_isReachedBy 68 = .ok (.ifCond .eq 17, 3) := by decide +kernel
theorem dX5_isReachedBy_71 : decode cX5_isReachedBy 71 = .ok (.aload 4, 2) := by decide +kernel
theorem dX5_isReachedBy_73 : decode cX5_isReachedBy 73 = .ok (.getfield 298, 3) := by decide +kernel
theorem dX5_isReachedBy_76 : decode cX5_isReachedBy 76 = .ok (.aload_n 3, 1) := by decide +kernel
theorem dX5_isReachedBy_77 : decode cX5_isReachedBy 77 = .ok (.getfield 298, 3) := by decide +kernel
theorem dX5_isReachedBy_80 : decode cX5_isReachedBy 80 = .ok (.if_icmp .ne 5, 3) := by decide +kernel
theorem dX5_isReachedBy_83 : decode cX5_isReachedBy 83 = .ok (.iconst 1, 1) := by decide +kernel
theorem dX5_isReachedBy_84 : decode cX5_isReachedBy 84 = .ok (.ireturn, 1) := by decide +kernel
theorem dX5_isReachedBy_85 : decode cX5_isReachedBy 85 = .ok (.aload_n 1, 1) := by decide +kernel
theorem dX5_isReachedBy_86 : decode cX5_isReachedBy 86 = .ok (.getfield 301, 3) := by decide +kernel
theorem dX5_isReachedBy_89 : decode cX5_isReachedBy 89 = .ok (.istore 5, 2) := by decide +kernel
theorem dX5_isReachedBy_91 : decode cX5_isReachedBy 91 = .ok (.aload_n 0, 1) := by decide +kernel
theorem dX5_isReachedBy_92 : decode cX5_isReachedBy 92 = .ok (.getfield 38, 3) := by decide +kernel
theorem dX5_isReachedBy_95 : decode cX5_isReachedBy 95 = .ok (.iload 5, 2) := by decide +kernel
theorem dX5_isReachedBy_97 : decode cX5_isReachedBy 97 = .ok (.invokevirtual 182, 3) := by decide +kernel
theorem dX5_isReachedBy_100 : decode cX5_isReachedBy 100 = .ok (.ifCond .ne 5, 3) := by decide +kernel
theorem dX5_isReachedBy_103 : decode cX5_isReachedBy 103 = .ok (.iconst 0, 1) := by decide +kernel
theorem dX5_isReachedBy_104 : decode cX5_isReachedBy 104 = .ok (.ireturn, 1) := by decide +kernel
theorem dX5_isReachedBy_105 : decode cX5_isReachedBy 105 = .ok (.aload_n 1, 1) := by decide +kernel
theorem dX5_isReachedBy_106 : decode cX5_isReachedBy 106 = .ok (.iconst 2, 1) := by decide +kernel
theorem dX5_isReachedBy_107 : decode cX5_isReachedBy 107 = .ok (.bipush 104, 2) := by decide +kernel
theorem dX5_isReachedBy_109 : decode cX5_isReachedBy 109 = .ok (.invokevirtual 291, 3) := by decide +kernel
theorem dX5_isReachedBy_112 : decode cX5_isReachedBy 112 = .ok (.ifCond .eq 27, 3) := by decide +kernel
theorem dX5_isReachedBy_115 : decode cX5_isReachedBy 115 = .ok (.aload 4, 2) := by decide +kernel
theorem dX5_isReachedBy_117 : decode cX5_isReachedBy 117 = .ok (.getfield 192, 3) := by decide +kernel
theorem dX5_isReachedBy_120 : decode cX5_isReachedBy 120 = .ok (.aload_n 0, 1) := by decide +kernel
theorem dX5_isReachedBy_121 : decode cX5_isReachedBy 121 = .ok (.getfield 38, 3) := by decide +kernel
theorem dX5_isReachedBy_124 : decode cX5_isReachedBy 124 = .ok (.getfield 304, 3) := by decide +kernel
theorem dX5_isReachedBy_127 : decode cX5_isReachedBy 127 = .ok (.iload 5, 2) := by decide +kernel
theorem dX5_isReachedBy_129 : decode cX5_isReachedBy 129 = .ok (.iaload, 1) := by decide +kernel
theorem dX5_isReachedBy_130 : decode cX5_isReachedBy 130 = .ok (.ishr, 1) := by decide +kernel
theorem dX5_isReachedBy_131 : decode cX5_isReachedBy 131 = .ok (.iconst 1, 1) := by decide +kernel
theorem dX5_isReachedBy_132 : decode cX5_isReachedBy 132 = .ok (.iand, 1) := by decide +kernel
theorem dX5_isReachedBy_133 : decode cX5_isReachedBy 133 = .ok (.iconst 1, 1) := by decide +kernel
theorem dX5_isReachedBy_134 : decode cX5_isReachedBy 134 = .ok (.if_icmp .ne 5, 3) := by decide +kernel
theorem dX5_isReachedBy_137 : decode cX5_isReachedBy 137 = .ok (.iconst 1, 1) := by decide +kernel
theorem dX5_isReachedBy_138 : decode cX5_isReachedBy 138 = .ok (.ireturn, 1) := by decide +kernel
theorem dX5_isReachedBy_139 : decode cX5_isReachedBy 139 = .ok (.aload_n 1, 1) := by decide +kernel
theorem dX5_isReachedBy_140 : decode cX5_isReachedBy 140 = .ok (.iconst 3, 1) := by decide +kernel
theorem dX5_isReachedBy_141 : decode cX5_isReachedBy 141 = .ok (.bipush 114, 2) := by decide +kernel
theorem dX5_isReachedBy_143 : decode cX5_isReachedBy 143 = .ok (.invokevirtual 291, 3) := by decide +kernel
theorem dX5_isReachedBy_146 : decode cX5_isReachedBy 146 = .ok (.ifCond .eq 27, 3) := by decide +kernel
theorem dX5_isReachedBy_149 : decode cX5_isReachedBy 149 = .ok (.aload 4, 2) := by decide +kernel
theorem dX5_isReachedBy_151 : decode cX5_isReachedBy 151 = .ok (.getfield 195, 3) := by decide +kernel
theorem dX5_isReachedBy_154 : decode cX5_isReachedBy 154 = .ok (.aload_n 0, 1) := by decide +kernel
theorem dX5_isReachedBy_155 : decode cX5_isReachedBy 155 = .ok (.getfield 38, 3) := by decide +kernel
theorem dX5_isReachedBy_158 : decode cX5_isReachedBy 158 = .ok (.iload 5, 2) := by decide +kernel
theorem dX5_isReachedBy_160 : decode cX5_isReachedBy 160 = .ok (.invokevirtual 198, 3) := by decide +kernel
theorem dX5_isReachedBy_163 : decode cX5_isReachedBy 163 = .ok (.land, 1) := by decide +kernel
theorem dX5_isReachedBy_164 : decode cX5_isReachedBy 164 = .ok (.lconst 0, 1) := by decide +kernel
theorem dX5_isReachedBy_165 : decode cX5_isReachedBy 165 = .ok (.lcmp, 1) := by decide +kernel
theorem dX5_isReachedBy_166 : decode cX5_isReachedBy 166 = .ok (.ifCond .eq 7, 3) := by decide +kernel
theorem dX5_isReachedBy_169 : decode cX5_isReachedBy 169 = .ok (.iconst 1, 1) := by decide +kernel
theorem dX5_isReachedBy_170 : decode cX5_isReachedBy 170 = .ok (.goto 4, 3) := by decide +kernel
theorem dX5_isReachedBy_173 : decode cX5_isReachedBy 173 = .ok (.iconst 0, 1) := by decide +kernel
theorem dX5_isReachedBy_174 : decode cX5_isReachedBy 174 = .ok (.ireturn, 1) := by decide +kernel
theorem dX5_isFreeOf_0 : decode cX5_isFreeOf 0 = .ok (.aload_n 1, 1) := by decide +kernel
theorem dX5_isFreeOf_1 : decode cX5_isFreeOf 1 = .ok (.getfield 232, 3) := by decide +kernel
theorem dX5_isFreeOf_4 : decode cX5_isFreeOf 4 = .ok (.iload_n 2, 1) := by decide +kernel
theorem dX5_isFreeOf_5 : decode cX5_isFreeOf 5 = .ok (.if_icmp .ne 10, 3) := by decide +kernel
theorem dX5_isFreeOf_8 : decode cX5_isFreeOf 8 = .ok (.aload_n 1, 1) := by decide +kernel
theorem dX5_isFreeOf_9 : decode cX5_isFreeOf 9 = .ok (.getfield 235, 3) := by decide +kernel
theorem dX5_isFreeOf_12 : decode cX5_isFreeOf 12 = .ok (.goto 7, 3) := by decide +kernel
theorem dX5_isFreeOf_15 : decode cX5_isFreeOf 15 = .ok (.aload_n 1, 1) := by decide +kernel
theorem dX5_isFreeOf_16 : decode cX5_isFreeOf 16 = .ok (.getfield 307, 3) := by decide +kernel
theorem dX5_isFreeOf_19 : decode cX5_isFreeOf 19 = .ok (.istore_n 3, 1) := by decide +kernel
theorem dX5_isFreeOf_20 : decode cX5_isFreeOf 20 = .ok (.iload_n 3, 1) := by decide +kernel
theorem dX5_isFreeOf_21 : decode cX5_isFreeOf 21 = .ok (.ifCond .le 20, 3) := by decide +kernel
theorem dX5_isFreeOf_24 : decode cX5_isFreeOf 24 = .ok (.aload_n 0, 1) := by decide +kernel
theorem dX5_isFreeOf_25 : decode cX5_isFreeOf 25 = .ok (.getfield 19, 3) := by decide +kernel
theorem dX5_isFreeOf_28 : decode cX5_isFreeOf 28 = .ok (.iload_n 2, 1) := by decide +kernel
theorem dX5_isFreeOf_29 : decode cX5_isFreeOf 29 = .ok (.aaload, 1) := by decide +kernel
theorem dX5_isFreeOf_30 : decode cX5_isFreeOf 30 = .ok (.getfield 310, 3) := by decide +kernel
theorem dX5_isFreeOf_33 : decode cX5_isFreeOf 33 = .ok (.iload_n 3, 1) := by decide +kernel
theorem dX5_isFreeOf_34 : decode cX5_isFreeOf 34 = .ok (.if_icmp .le 7, 3) := by decide +kernel
theorem dX5_isFreeOf_37 : decode cX5_isFreeOf 37 = .ok (.iconst 1, 1) := by decide +kernel
theorem dX5_isFreeOf_38 : decode cX5_isFreeOf 38 = .ok (.goto 4, 3) := by decide +kernel
theorem dX5_isFreeOf_41 : decode cX5_isFreeOf 41 = .ok (.iconst 0, 1) := by decide +kernel
theorem dX5_isFreeOf_42 : decode cX5_isFreeOf 42 = .ok (.ireturn, 1) := by decide +kernel
theorem dX5_countSharers_0 : decode cX5_countSharers 0 = .ok (.iconst 0, 1) := by decide +kernel
theorem dX5_countSharers_1 : decode cX5_countSharers 1 = .ok (.istore_n 2, 1) := by decide +kernel
theorem dX5_countSharers_2 : decode cX5_countSharers 2 = .ok (.iconst 0, 1) := by decide +kernel
theorem dX5_countSharers_3 : decode cX5_countSharers 3 = .ok (.istore_n 3, 1) := by decide +kernel
theorem dX5_countSharers_4 : decode cX5_countSharers 4 = .ok (.iload_n 3, 1) := by decide +kernel
theorem dX5_countSharers_5 : decode cX5_countSharers 5 = .ok (.aload_n 0, 1) := by decide +kernel
theorem dX5_countSharers_6 : decode cX5_countSharers 6 = .ok (.getfield 53, 3) := by decide +kernel
theorem dX5_countSharers_9 : decode cX5_countSharers 9 = .ok (.if_icmp .ge 39, 3) := by decide +kernel
theorem dX5_countSharers_12 : decode cX5_countSharers 12 = .ok (.iload_n 3, 1) := by decide +kernel
theorem dX5_countSharers_13 : decode cX5_countSharers 13 = .ok (.iload_n 1, 1) := by decide +kernel
theorem dX5_countSharers_14 : decode cX5_countSharers 14 = .ok (.if_icmp .eq 28, 3) := by decide +kernel
theorem dX5_countSharers_17 : decode cX5_countSharers 17 = .ok (.aload_n 0, 1) := by decide +kernel
theorem dX5_countSharers_18 : decode cX5_countSharers 18 = .ok (.getfield 19, 3) := by decide +kernel
theorem dX5_countSharers_21 : decode cX5_countSharers 21 = .ok (.iload_n 3, 1) := by decide +kernel
theorem dX5_countSharers_22 : decode cX5_countSharers 22 = .ok (.aaload, 1) := by decide +kernel
theorem dX5_countSharers_23 : decode cX5_countSharers 23 = .ok (.getfield 192, 3) := by decide +kernel
theorem dX5_countSharers_26 : decode cX5_countSharers 26 = .ok (.aload_n 0, 1) := by decide +kernel
theorem dX5_countSharers_27 : decode cX5_countSharers 27 = .ok (.getfield 19, 3) := by decide +kernel
theorem dX5_countSharers_30 : decode cX5_countSharers 30 = .ok (.iload_n 1, 1) := by decide +kernel
theorem dX5_countSharers_31 : decode cX5_countSharers 31 = .ok (.aaload, 1) := by decide +kernel
theorem dX5_countSharers_32 : decode cX5_countSharers 32 = .ok (.getfield 192, 3) := by decide +kernel
theorem dX5_countSharers_35 : decode cX5_countSharers 35 = .ok (.iand, 1) := by decide +kernel
theorem dX5_countSharers_36 : decode cX5_countSharers 36 = .ok (.ifCond .eq 6, 3) := by decide +kernel
theorem dX5_countSharers_39 : decode cX5_countSharers 39 = .ok (.iinc 2 1, 3) := by decide +kernel
theorem dX5_countSharers_42 : decode cX5_countSharers 42 = .ok (.iinc 3 1, 3) := by decide +kernel
theorem dX5_countSharers_45 : decode cX5_countSharers 45 = .ok (.goto (-41), 3) := by decide +kernel
theorem dX5_countSharers_48 : decode cX5_countSharers 48 = .ok (.iload_n 2, 1) := by decide +kernel
theorem dX5_countSharers_49 : decode cX5_countSharers 49 = .ok (.ireturn, 1) := by decide +kernel
theorem dX5_firstReserveToRepack_0 : decode cX5_firstReserveToRepack 0 = .ok (.iconst (-1), 1) := by decide +kernel
theorem dX5_firstReserveToRepack_1 : decode cX5_firstReserveToRepack 1 = .ok (.istore_n 1, 1) := by decide +kernel
theorem dX5_firstReserveToRepack_2 : decode cX5_firstReserveToRepack 2 = .ok (.iconst 0, 1) := by decide +kernel
theorem dX5_firstReserveToRepack_3 : decode cX5_firstReserveToRepack 3 = .ok (.istore_n 2, 1) := by decide +kernel
theorem dX5_firstReserveToRepack_4 : decode cX5_firstReserveToRepack 4 = .ok (.iconst 0, 1) := by decide +kernel
theorem dX5_firstReserveToRepack_5 : decode cX5_firstReserveToRepack 5 = .ok (.istore_n 3, 1) := by decide +kernel
theorem dX5_firstReserveToRepack_6 : decode cX5_firstReserveToRepack 6 = .ok (.iload_n 3, 1) := by decide +kernel
theorem dX5_firstReserveToRepack_7 : decode cX5_firstReserveToRepack 7 = .ok (.aload_n 0, 1) := by decide +kernel
theorem dX5_firstReserveToRepack_8 : decode cX5_firstReserveToRepack 8 = .ok (.getfield 53, 3) := by decide +kernel
theorem dX5_firstReserveToRepack_11 : decode cX5_firstReserveToRepack 11 = .ok (.if_icmp .ge 69, 3) := by decide +kernel
theorem dX5_firstReserveToRepack_14 : decode cX5_firstReserveToRepack 14 = .ok (.aload_n 0, 1) := by decide +kernel
theorem dX5_firstReserveToRepack_15 : decode cX5_firstReserveToRepack 15 = .ok (.getfield 19, 3) := by decide +kernel
theorem dX5_firstReserveToRepack_18 : decode cX5_firstReserveToRepack 18 = .ok (.iload_n 3, 1) := by decide +kernel
theorem dX5_firstReserveToRepack_19 : decode cX5_firstReserveToRepack 19 = .ok (.aaload, 1) := by decide +kernel
theorem dX5_firstReserveToRepack_20 : decode cX5_firstReserveToRepack 20 = .ok (.astore 4, 2) := by decide +kernel
theorem dX5_firstReserveToRepack_22 : decode cX5_firstReserveToRepack 22 = .ok (.aload 4, 2) := by decide +kernel
theorem dX5_firstReserveToRepack_24 : decode cX5_firstReserveToRepack 24 = .ok (.getfield 275, 3) := by decide +kernel
theorem dX5_firstReserveToRepack_27 : decode cX5_firstReserveToRepack 27 = .ok (.bipush 114, 2) := by decide +kernel
theorem dX5_firstReserveToRepack_29 : decode cX5_firstReserveToRepack 29 = .ok (.if_icmp .ne 45, 3) := by decide +kernel
theorem dX5_firstReserveToRepack_32 : decode cX5_firstReserveToRepack 32 = .ok (.aload 4, 2) := by decide +kernel
theorem dX5_firstReserveToRepack_34 : decode cX5_firstReserveToRepack 34 = .ok (.getfield 160, 3) := by decide +kernel
theorem dX5_firstReserveToRepack_37 : decode cX5_firstReserveToRepack 37 = .ok (.bipush 107, 2) := by decide +kernel
theorem dX5_firstReserveToRepack_39 : decode cX5_firstReserveToRepack 39 = .ok (.if_icmp .ne 35, 3) := by decide +kernel
theorem dX5_firstReserveToRepack_42 : decode cX5_firstReserveToRepack 42 = .ok (.aload_n 0, 1) := by decide +kernel
theorem dX5_firstReserveToRepack_43 : decode cX5_firstReserveToRepack 43 = .ok (.aload 4, 2) := by decide +kernel
theorem dX5_firstReserveToRepack_45 : decode cX5_firstReserveToRepack 45 = .ok (.invokevirtual 262, 3) := by decide +kernel
theorem dX5_firstReserveToRepack_48 : decode cX5_firstReserveToRepack 48 = .ok (.ifCond .ne 26, 3) := by decide +kernel
theorem dX5_firstReserveToRepack_51 : decode cX5_firstReserveToRepack 51 = .ok (.aload_n 0, 1) := by decide +kernel
theorem dX5_firstReserveToRepack_52 : decode cX5_firstReserveToRepack 52 = .ok (.aload 4, 2) := by decide +kernel
theorem dX5_firstReserveToRepack_54 : decode cX5_firstReserveToRepack 54 = .ok (.invokevirtual 278, 3) := by decide +kernel
theorem dX5_firstReserveToRepack_57 : decode cX5_firstReserveToRepack 57 = .ok (.istore 5, 2) := by decide +kernel
theorem dX5_firstReserveToRepack_59 : decode cX5_firstReserveToRepack 59 = .ok (.iload_n 1, 1) := by decide +kernel
theorem dX5_firstReserveToRepack_60 : decode cX5_firstReserveToRepack 60 = .ok (.ifCond .lt 9, 3) := by decide +kernel
theorem dX5_firstReserveToRepack_63 : decode cX5_firstReserveToRepack 63 = .ok (.iload 5, 2) := by decide +kernel
theorem dX5_firstReserveToRepack_65 : decode cX5_firstReserveToRepack 65 = .ok (.iload_n 2, 1) := by decide +kernel
theorem dX5_firstReserveToRepack_66 : decode cX5_firstReserveToRepack 66 = .ok (.if_icmp .ge 8, 3) := by decide +kernel
theorem dX5_firstReserveToRepack_69 : decode cX5_firstReserveToRepack 69 = .ok (.iload_n 3, 1) := by decide +kernel
theorem dX5_firstReserveToRepack_70 : decode cX5_firstReserveToRepack 70 = .ok (.istore_n 1, 1) := by decide +kernel
theorem dX5_firstReserveToRepack_71 : decode cX5_firstReserveToRepack 71 = .ok (.iload 5, 2) := by decide +kernel
theorem dX5_firstReserveToRepack_73 : decode cX5_firstReserveToRepack 73 = .ok (.istore_n 2, 1) := by decide +kernel
theorem dX5_firstReserveToRepack_74 : decode cX5_firstReserveToRepack 74 = .ok (.iinc 3 1, 3) := by decide +kernel
theorem dX5_firstReserveToRepack_77 : decode cX5_firstReserveToRepack 77 = .ok (.goto (-71), 3) := by decide +kernel
theorem dX5_firstReserveToRepack_80 : decode cX5_firstReserveToRepack 80 = .ok (.iload_n 1, 1) := by decide +kernel
theorem dX5_firstReserveToRepack_81 : decode cX5_firstReserveToRepack 81 = .ok (.ireturn, 1) := by decide +kernel
theorem dX5_sumOfDeposits_0 : decode cX5_sumOfDeposits 0 = .ok (.lconst 0, 1) := by decide +kernel
theorem dX5_sumOfDeposits_1 : decode cX5_sumOfDeposits 1 = .ok (.lstore_n 1, 1) := by decide +kernel
theorem dX5_sumOfDeposits_2 : decode cX5_sumOfDeposits 2 = .ok (.iconst 0, 1) := by decide +kernel
theorem dX5_sumOfDeposits_3 : decode cX5_sumOfDeposits 3 = .ok (.istore_n 3, 1) := by decide +kernel
theorem dX5_sumOfDeposits_4 : decode cX5_sumOfDeposits 4 = .ok (.iload_n 3, 1) := by decide +kernel
theorem dX5_sumOfDeposits_5 : decode cX5_sumOfDeposits 5 = .ok (.aload_n 0, 1) := by decide +kernel
theorem dX5_sumOfDeposits_6 : decode cX5_sumOfDeposits 6 = .ok (.getfield 53, 3) := by decide +kernel
theorem dX5_sumOfDeposits_9 : decode cX5_sumOfDeposits 9 = .ok (.if_icmp .ge 22, 3) := by decide +kernel
theorem dX5_sumOfDeposits_12 : decode cX5_sumOfDeposits 12 = .ok (.lload_n 1, 1) := by decide +kernel
theorem dX5_sumOfDeposits_13 : decode cX5_sumOfDeposits 13 = .ok (.aload_n 0, 1) := by decide +kernel
theorem dX5_sumOfDeposits_14 : decode cX5_sumOfDeposits 14 = .ok (.getfield 19, 3) := by decide +kernel
theorem dX5_sumOfDeposits_17 : decode cX5_sumOfDeposits 17 = .ok (.iload_n 3, 1) := by decide +kernel
theorem dX5_sumOfDeposits_18 : decode cX5_sumOfDeposits 18 = .ok (.aaload, 1) := by decide +kernel
theorem dX5_sumOfDeposits_19 : decode cX5_sumOfDeposits 19 = .ok (.getfield 254, 3) := by decide +kernel
theorem dX5_sumOfDeposits_22 : decode cX5_sumOfDeposits 22 = .ok (.i2l, 1) := by decide +kernel
theorem dX5_sumOfDeposits_23 : decode cX5_sumOfDeposits 23 = .ok (.ladd, 1) := by decide +kernel
theorem dX5_sumOfDeposits_24 : decode cX5_sumOfDeposits 24 = .ok (.lstore_n 1, 1) := by decide +kernel
theorem dX5_sumOfDeposits_25 : decode cX5_sumOfDeposits 25 = .ok (.iinc 3 1, 3) := by decide +kernel
theorem dX5_sumOfDeposits_28 : decode cX5_sumOfDeposits 28 = .ok (.goto (-24), 3) := by decide +kernel
theorem dX5_sumOfDeposits_31 : decode cX5_sumOfDeposits 31 = .ok (.lload_n 1, 1) := by decide +kernel
theorem dX5_sumOfDeposits_32 : decode cX5_sumOfDeposits 32 = .ok (.lreturn, 1) := by decide +kernel
theorem dX5_countGrounded_0 : decode cX5_countGrounded 0 = .ok (.iconst 0, 1) := by decide +kernel
theorem dX5_countGrounded_1 : decode cX5_countGrounded 1 = .ok (.istore_n 1, 1) := by decide +kernel
theorem dX5_countGrounded_2 : decode cX5_countGrounded 2 = .ok (.iconst 0, 1) := by decide +kernel
theorem dX5_countGrounded_3 : decode cX5_countGrounded 3 = .ok (.istore_n 2, 1) := by decide +kernel
theorem dX5_countGrounded_4 : decode cX5_countGrounded 4 = .ok (.iload_n 2, 1) := by decide +kernel
theorem dX5_countGrounded_5 : decode cX5_countGrounded 5 = .ok (.aload_n 0, 1) := by decide +kernel
theorem dX5_countGrounded_6 : decode cX5_countGrounded 6 = .ok (.getfield 53, 3) := by decide +kernel
theorem dX5_countGrounded_9 : decode cX5_countGrounded 9 = .ok (.if_icmp .ge 20, 3) := by decide +kernel
theorem dX5_countGrounded_12 : decode cX5_countGrounded 12 = .ok (.aload_n 0, 1) := by decide +kernel
theorem dX5_countGrounded_13 : decode cX5_countGrounded 13 = .ok (.iload_n 2, 1) := by decide +kernel
theorem dX5_countGrounded_14 : decode cX5_countGrounded 14 = .ok (.invokevirtual 266, 3) := by decide +kernel
theorem dX5_countGrounded_17 : decode cX5_countGrounded 17 = .ok (.ifCond .eq 6, 3) := by decide +kernel
theorem dX5_countGrounded_20 : decode cX5_countGrounded 20 = .ok (.iinc 1 1, 3) := by decide +kernel
theorem dX5_countGrounded_23 : decode cX5_countGrounded 23 = .ok (.iinc 2 1, 3) := by decide +kernel
theorem dX5_countGrounded_26 : decode cX5_countGrounded 26 = .ok (.goto (-22), 3) := by decide +kernel
theorem dX5_countGrounded_29 : decode cX5_countGrounded 29 = .ok (.iload_n 1, 1) := by decide +kernel
theorem dX5_countGrounded_30 : decode cX5_countGrounded 30 = .ok (.ireturn, 1) := by decide +kernel
theorem dX5_sumOfGoodDrops_0 : decode cX5_sumOfGoodDrops 0 = .ok (.iconst 0, 1) := by decide +kernel
theorem dX5_sumOfGoodDrops_1 : decode cX5_sumOfGoodDrops 1 = .ok (.istore_n 1, 1) := by decide +kernel
theorem dX5_sumOfGoodDrops_2 : decode cX5_sumOfGoodDrops 2 = .ok (.iconst 0, 1) := by decide +kernel
theorem dX5_sumOfGoodDrops_3 : decode cX5_sumOfGoodDrops 3 = .ok (.istore_n 2, 1) := by decide +kernel
theorem dX5_sumOfGoodDrops_4 : decode cX5_sumOfGoodDrops 4 = .ok (.iload_n 2, 1) := by decide +kernel
theorem dX5_sumOfGoodDrops_5 : decode cX5_sumOfGoodDrops 5 = .ok (.aload_n 0, 1) := by decide +kernel
theorem dX5_sumOfGoodDrops_6 : decode cX5_sumOfGoodDrops 6 = .ok (.getfield 53, 3) := by decide +kernel
theorem dX5_sumOfGoodDrops_9 : decode cX5_sumOfGoodDrops 9 = .ok (.if_icmp .ge 21, 3) := by decide +kernel
theorem dX5_sumOfGoodDrops_12 : decode cX5_sumOfGoodDrops 12 = .ok (.iload_n 1, 1) := by decide +kernel
theorem dX5_sumOfGoodDrops_13 : decode cX5_sumOfGoodDrops 13 = .ok (.aload_n 0, 1) := by decide +kernel
theorem dX5_sumOfGoodDrops_14 : decode cX5_sumOfGoodDrops 14 = .ok (.getfield 19, 3) := by decide +kernel
theorem dX5_sumOfGoodDrops_17 : decode cX5_sumOfGoodDrops 17 = .ok (.iload_n 2, 1) := by decide +kernel
theorem dX5_sumOfGoodDrops_18 : decode cX5_sumOfGoodDrops 18 = .ok (.aaload, 1) := by decide +kernel
theorem dX5_sumOfGoodDrops_19 : decode cX5_sumOfGoodDrops 19 = .ok (.getfield 248, 3) := by decide +kernel
theorem dX5_sumOfGoodDrops_22 : decode cX5_sumOfGoodDrops 22 = .ok (.iadd, 1) := by decide +kernel
theorem dX5_sumOfGoodDrops_23 : decode cX5_sumOfGoodDrops 23 = .ok (.istore_n 1, 1) := by decide +kernel
theorem dX5_sumOfGoodDrops_24 : decode cX5_sumOfGoodDrops 24 = .ok (.iinc 2 1, 3) := by decide +kernel
theorem dX5_sumOfGoodDrops_27 : decode cX5_sumOfGoodDrops 27 = .ok (.goto (-23), 3) := by decide +kernel
theorem dX5_sumOfGoodDrops_30 : decode cX5_sumOfGoodDrops 30 = .ok (.iload_n 1, 1) := by decide +kernel
theorem dX5_sumOfGoodDrops_31 : decode cX5_sumOfGoodDrops 31 = .ok (.ireturn, 1) := by decide +kernel
theorem dX5_isLike_0 : decode cX5_isLike 0 = .ok (.aload_n 0, 1) := by decide +kernel
theorem dX5_isLike_1 : decode cX5_isLike 1 = .ok (.getfield 65, 3) := by decide +kernel
theorem dX5_isLike_4 : decode cX5_isLike 4 = .ok (.aload_n 1, 1) := by decide +kernel
theorem dX5_isLike_5 : decode cX5_isLike 5 = .ok (.getfield 65, 3) := by decide +kernel
theorem dX5_isLike_8 : decode cX5_isLike 8 = .ok (.if_icmp .ne 37, 3) := by decide +kernel
theorem dX5_isLike_11 : decode cX5_isLike 11 = .ok (.aload_n 0, 1) := by decide +kernel
theorem dX5_isLike_12 : decode cX5_isLike 12 = .ok (.getfield 46, 3) := by decide +kernel
theorem dX5_isLike_15 : decode cX5_isLike 15 = .ok (.aload_n 1, 1) := by decide +kernel
theorem dX5_isLike_16 : decode cX5_isLike 16 = .ok (.getfield 46, 3) := by decide +kernel
theorem dX5_isLike_19 : decode cX5_isLike 19 = .ok (.if_icmp .ne 26, 3) := by decide +kernel
theorem dX5_isLike_22 : decode cX5_isLike 22 = .ok (.aload_n 0, 1) := by decide +kernel
theorem dX5_isLike_23 : decode cX5_isLike 23 = .ok (.getfield 68, 3) := by decide +kernel
theorem dX5_isLike_26 : decode cX5_isLike 26 = .ok (.aload_n 1, 1) := by decide +kernel
theorem dX5_isLike_27 : decode cX5_isLike 27 = .ok (.getfield 68, 3) := by decide +kernel
theorem dX5_isLike_30 : decode cX5_isLike 30 = .ok (.lcmp, 1) := by decide +kernel
theorem dX5_isLike_31 : decode cX5_isLike 31 = .ok (.ifCond .ne 14, 3) := by decide +kernel
theorem dX5_isLike_34 : decode cX5_isLike 34 = .ok (.aload_n 0, 1) := by decide +kernel
theorem dX5_isLike_35 : decode cX5_isLike 35 = .ok (.getfield 72, 3) := by decide +kernel
theorem dX5_isLike_38 : decode cX5_isLike 38 = .ok (.aload_n 1, 1) := by decide +kernel
theorem dX5_isLike_39 : decode cX5_isLike 39 = .ok (.getfield 72, 3) := by decide +kernel
theorem dX5_isLike_42 : decode cX5_isLike 42 = .ok (.if_icmp .eq 5, 3) := by decide +kernel
theorem dX5_isLike_45 : decode cX5_isLike 45 = .ok (.iconst 0, 1) := by decide +kernel
theorem dX5_isLike_46 : decode cX5_isLike 46 = .ok (.ireturn, 1) := by decide +kernel
theorem dX5_isLike_47 : decode cX5_isLike 47 = .ok (.aload_n 0, 1) := by decide +kernel
theorem dX5_isLike_48 : decode cX5_isLike 48 = .ok (.aload_n 1, 1) := by decide +kernel
theorem dX5_isLike_49 : decode cX5_isLike 49 = .ok (.invokevirtual 313, 3) := by decide +kernel
theorem dX5_isLike_52 : decode cX5_isLike 52 = .ok (.ifCond .eq 45, 3) := by decide +kernel
theorem dX5_isLike_55 : decode cX5_isLike 55 = .ok (.aload_n 0, 1) := by decide +kernel
theorem dX5_isLike_56 : decode cX5_isLike 56 = .ok (.aload_n 1, 1) := by decide +kernel
theorem dX5_isLike_57 : decode cX5_isLike 57 = .ok (.invokevirtual 317, 3) := by decide +kernel
theorem dX5_isLike_60 : decode cX5_isLike 60 = .ok (.ifCond .eq 37, 3) := by decide +kernel
theorem dX5_isLike_63 : decode cX5_isLike 63 = .ok (.aload_n 0, 1) := by decide +kernel
theorem dX5_isLike_64 : decode cX5_isLike 64 = .ok (.aload_n 1, 1) := by decide +kernel
theorem dX5_isLike_65 : decode cX5_isLike 65 = .ok (.invokevirtual 320, 3) := by decide +kernel
theorem dX5_isLike_68 : decode cX5_isLike 68 = .ok (.ifCond .eq 29, 3) := by decide +kernel
theorem dX5_isLike_71 : decode cX5_isLike 71 = .ok (.aload_n 0, 1) := by decide +kernel
theorem dX5_isLike_72 : decode cX5_isLike 72 = .ok (.aload_n 1, 1) := by decide +kernel
theorem dX5_isLike_73 : decode cX5_isLike 73 = .ok (.invokevirtual 323, 3) := by decide +kernel
theorem dX5_isLike_76 : decode cX5_isLike 76 = .ok (.ifCond .eq 21, 3) := by decide +kernel
theorem dX5_isLike_79 : decode cX5_isLike 79 = .ok (.aload_n 0, 1) := by decide +kernel
theorem dX5_isLike_80 : decode cX5_isLike 80 = .ok (.getfield 38, 3) := by decide +kernel
theorem dX5_isLike_83 : decode cX5_isLike 83 = .ok (.aload_n 1, 1) := by decide +kernel
theorem dX5_isLike_84 : decode cX5_isLike 84 = .ok (.getfield 38, 3) := by decide +kernel
theorem dX5_isLike_87 : decode cX5_isLike 87 = .ok (.invokevirtual 326, 3) := by decide +kernel
theorem dX5_isLike_90 : decode cX5_isLike 90 = .ok (.ifCond .eq 7, 3) := by decide +kernel
theorem dX5_isLike_93 : decode cX5_isLike 93 = .ok (.iconst 1, 1) := by decide +kernel
theorem dX5_isLike_94 : decode cX5_isLike 94 = .ok (.goto 4, 3) := by decide +kernel
theorem dX5_isLike_97 : decode cX5_isLike 97 = .ok (.iconst 0, 1) := by decide +kernel
theorem dX5_isLike_98 : decode cX5_isLike 98 = .ok (.ireturn, 1) := by decide +kernel
theorem dX5_hasRiggersLike_0 : decode cX5_hasRiggersLike 0 = .ok (.aload_n 0, 1) := by decide +kernel
theorem dX5_hasRiggersLike_1 : decode cX5_hasRiggersLike 1 = .ok (.getfield 50, 3) := by decide +kernel
theorem dX5_hasRiggersLike_4 : decode cX5_hasRiggersLike 4 = .ok (.aload_n 1, 1) := by decide +kernel
theorem dX5_hasRiggersLike_5 : decode cX5_hasRiggersLike 5 = .ok (.getfield 50, 3) := by decide +kernel
theorem dX5_hasRiggersLike_8 : decode cX5_hasRiggersLike 8 = .ok (.if_icmp .eq 5, 3) := by decide +kernel
theorem dX5_hasRiggersLike_11 : decode cX5_hasRiggersLike 11 = .ok (.iconst 0, 1) := by decide +kernel
theorem dX5_hasRiggersLike_12 : decode cX5_hasRiggersLike 12 = .ok (.ireturn, 1) := by decide +kernel
theorem dX5_hasRiggersLike_13 : decode cX5_hasRiggersLike 13 = .ok (.iconst 0, 1) := by decide +kernel
theorem dX5_hasRiggersLike_14 : decode cX5_hasRiggersLike 14 = .ok (.istore_n 2, 1) := by decide +kernel
theorem dX5_hasRiggersLike_15 : decode cX5_hasRiggersLike 15 = .ok (.iload_n 2, 1) := by decide +kernel
theorem dX5_hasRiggersLike_16 : decode cX5_hasRiggersLike 16 = .ok (.aload_n 0, 1) := by decide +kernel
theorem dX5_hasRiggersLike_17 : decode cX5_hasRiggersLike 17 = .ok (.getfield 50, 3) := by decide +kernel
theorem dX5_hasRiggersLike_20 : decode cX5_hasRiggersLike 20 = .ok (.if_icmp .ge 29, 3) := by decide +kernel
theorem dX5_hasRiggersLike_23 : decode cX5_hasRiggersLike 23 = .ok (.aload_n 0, 1) := by decide +kernel
theorem dX5_hasRiggersLike_24 : decode cX5_hasRiggersLike 24 = .ok (.getfield 11, 3) := by decide +kernel
theorem dX5_hasRiggersLike_27 : decode cX5_hasRiggersLike 27 = .ok (.iload_n 2, 1) := by decide +kernel
theorem dX5_hasRiggersLike_28 : decode cX5_hasRiggersLike 28 = .ok (.aaload, 1) := by decide +kernel
theorem dX5_hasRiggersLike_29 : decode cX5_hasRiggersLike 29 = .ok (.aload_n 1, 1) := by decide +kernel
theorem dX5_hasRiggersLike_30 : decode cX5_hasRiggersLike 30 = .ok (.getfield 11, 3) := by decide +kernel
theorem dX5_hasRiggersLike_33 : decode cX5_hasRiggersLike 33 = .ok (.iload_n 2, 1) := by decide +kernel
theorem dX5_hasRiggersLike_34 : decode cX5_hasRiggersLike 34 = .ok (.aaload, 1) := by decide +kernel
theorem dX5_hasRiggersLike_35 : decode cX5_hasRiggersLike 35 = .ok (.invokevirtual 330, 3) := by decide +kernel
theorem dX5_hasRiggersLike_38 : decode cX5_hasRiggersLike 38 = .ok (.ifCond .ne 5, 3) := by decide +kernel
theorem dX5_hasRiggersLike_41 : decode cX5_hasRiggersLike 41 = .ok (.iconst 0, 1) := by decide +kernel
theorem dX5_hasRiggersLike_42 : decode cX5_hasRiggersLike 42 = .ok (.ireturn, 1) := by decide +kernel
theorem dX5_hasRiggersLike_43 : decode cX5_hasRiggersLike 43 = .ok (.iinc 2 1, 3) := by decide +kernel
theorem dX5_hasRiggersLike_46 : decode cX5_hasRiggersLike 46 = .ok (.goto (-31), 3) := by decide +kernel
theorem dX5_hasRiggersLike_49 : decode cX5_hasRiggersLike 49 = .ok (.iconst 1, 1) := by decide +kernel
theorem dX5_hasRiggersLike_50 : decode cX5_hasRiggersLike 50 = .ok (.ireturn, 1) := by decide +kernel
theorem dX5_hasCanopiesLike_0 : decode cX5_hasCanopiesLike 0 = .ok (.aload_n 0, 1) := by decide +kernel
theorem dX5_hasCanopiesLike_1 : decode cX5_hasCanopiesLike 1 = .ok (.getfield 53, 3) := by decide +kernel
theorem dX5_hasCanopiesLike_4 : decode cX5_hasCanopiesLike 4 = .ok (.aload_n 1, 1) := by decide +kernel
theorem dX5_hasCanopiesLike_5 : decode cX5_hasCanopiesLike 5 = .ok (.getfield 53, 3) := by decide +kernel
theorem dX5_hasCanopiesLike_8 : decode cX5_hasCanopiesLike 8 = .ok (.if_icmp .eq 5, 3) := by decide +kernel
theorem dX5_hasCanopiesLike_11 : decode cX5_hasCanopiesLike 11 = .ok (.iconst 0, 1) := by decide +kernel
theorem dX5_hasCanopiesLike_12 : decode cX5_hasCanopiesLike 12 = .ok (.ireturn, 1) := by decide +kernel
theorem dX5_hasCanopiesLike_13 : decode cX5_hasCanopiesLike 13 = .ok (.iconst 0, 1) := by decide +kernel
theorem dX5_hasCanopiesLike_14 : decode cX5_hasCanopiesLike 14 = .ok (.istore_n 2, 1) := by decide +kernel
theorem dX5_hasCanopiesLike_15 : decode cX5_hasCanopiesLike 15 = .ok (.iload_n 2, 1) := by decide +kernel
theorem dX5_hasCanopiesLike_16 : decode cX5_hasCanopiesLike 16 = .ok (.aload_n 0, 1) := by decide +kernel
theorem dX5_hasCanopiesLike_17 : decode cX5_hasCanopiesLike 17 = .ok (.getfield 53, 3) := by decide +kernel
theorem dX5_hasCanopiesLike_20 : decode cX5_hasCanopiesLike 20 = .ok (.if_icmp .ge 42, 3) := by decide +kernel
theorem dX5_hasCanopiesLike_23 : decode cX5_hasCanopiesLike 23 = .ok (.aload_n 0, 1) := by decide +kernel
theorem dX5_hasCanopiesLike_24 : decode cX5_hasCanopiesLike 24 = .ok (.getfield 19, 3) := by decide +kernel
theorem dX5_hasCanopiesLike_27 : decode cX5_hasCanopiesLike 27 = .ok (.iload_n 2, 1) := by decide +kernel
theorem dX5_hasCanopiesLike_28 : decode cX5_hasCanopiesLike 28 = .ok (.aaload, 1) := by decide +kernel
theorem dX5_hasCanopiesLike_29 : decode cX5_hasCanopiesLike 29 = .ok (.aload_n 1, 1) := by decide +kernel
theorem dX5_hasCanopiesLike_30 : decode cX5_hasCanopiesLike 30 = .ok (.getfield 19, 3) := by decide +kernel
theorem dX5_hasCanopiesLike_33 : decode cX5_hasCanopiesLike 33 = .ok (.iload_n 2, 1) := by decide +kernel
theorem dX5_hasCanopiesLike_34 : decode cX5_hasCanopiesLike 34 = .ok (.aaload, 1) := by decide +kernel
theorem dX5_hasCanopiesLike_35 : decode cX5_hasCanopiesLike 35 = .ok (.invokevirtual 333, 3) := by decide +kernel
theorem dX5_hasCanopiesLike_38 : decode cX5_hasCanopiesLike 38 = .ok (.ifCond .eq 16, 3) := by decide +kernel
theorem dX5_hasCanopiesLike_41 : decode cX5_hasCanopiesLike 41 = .ok (.aload_n 0, 1) := by decide +kernel
theorem dX5_hasCanopiesLike_42 : decode cX5_hasCanopiesLike 42 = .ok (.iload_n 2, 1) := by decide +kernel
theorem dX5_hasCanopiesLike_43 : decode cX5_hasCanopiesLike 43 = .ok (.invokevirtual 266, 3) := by decide +kernel
theorem dX5_hasCanopiesLike_46 : decode cX5_hasCanopiesLike 46 = .ok (.aload_n 1, 1) := by decide +kernel
theorem dX5_hasCanopiesLike_47 : decode cX5_hasCanopiesLike 47 = .ok (.iload_n 2, 1) := by decide +kernel
theorem dX5_hasCanopiesLike_48 : decode cX5_hasCanopiesLike 48 = .ok (.invokevirtual 266, 3) := by decide +kernel
theorem dX5_hasCanopiesLike_51 : decode cX5_hasCanopiesLike 51 = .ok (.if_icmp .eq 5, 3) := by decide +kernel
theorem dX5_hasCanopiesLike_54 : decode cX5_hasCanopiesLike 54 = .ok (.iconst 0, 1) := by decide +kernel
theorem dX5_hasCanopiesLike_55 : decode cX5_hasCanopiesLike 55 = .ok (.ireturn, 1) := by decide +kernel
theorem dX5_hasCanopiesLike_56 : decode cX5_hasCanopiesLike 56 = .ok (.iinc 2 1, 3) := by decide +kernel
theorem dX5_hasCanopiesLike_59 : decode cX5_hasCanopiesLike 59 = .ok (.goto (-44), 3) := by decide +kernel
theorem dX5_hasCanopiesLike_62 : decode cX5_hasCanopiesLike 62 = .ok (.iconst 1, 1) := by decide +kernel
theorem dX5_hasCanopiesLike_63 : decode cX5_hasCanopiesLike 63 = .ok (.ireturn, 1) := by decide +kernel
theorem dX5_hasLoadsLike_0 : decode cX5_hasLoadsLike 0 = .ok (.aload_n 0, 1) := by decide +kernel
theorem dX5_hasLoadsLike_1 : decode cX5_hasLoadsLike 1 = .ok (.getfield 56, 3) := by decide +kernel
theorem dX5_hasLoadsLike_4 : decode cX5_hasLoadsLike 4 = .ok (.aload_n 1, 1) := by decide +kernel
theorem dX5_hasLoadsLike_5 : decode cX5_hasLoadsLike 5 = .ok (.getfield 56, 3) := by decide +kernel
theorem dX5_hasLoadsLike_8 : decode cX5_hasLoadsLike 8 = .ok (.if_icmp .eq 5, 3) := by decide +kernel
theorem dX5_hasLoadsLike_11 : decode cX5_hasLoadsLike 11 = .ok (.iconst 0, 1) := by decide +kernel
theorem dX5_hasLoadsLike_12 : decode cX5_hasLoadsLike 12 = .ok (.ireturn, 1) := by decide +kernel
theorem dX5_hasLoadsLike_13 : decode cX5_hasLoadsLike 13 = .ok (.iconst 0, 1) := by decide +kernel
theorem dX5_hasLoadsLike_14 : decode cX5_hasLoadsLike 14 = .ok (.istore_n 2, 1) := by decide +kernel
theorem dX5_hasLoadsLike_15 : decode cX5_hasLoadsLike 15 = .ok (.iload_n 2, 1) := by decide +kernel
theorem dX5_hasLoadsLike_16 : decode cX5_hasLoadsLike 16 = .ok (.aload_n 0, 1) := by decide +kernel
theorem dX5_hasLoadsLike_17 : decode cX5_hasLoadsLike 17 = .ok (.getfield 56, 3) := by decide +kernel
theorem dX5_hasLoadsLike_20 : decode cX5_hasLoadsLike 20 = .ok (.if_icmp .ge 29, 3) := by decide +kernel
theorem dX5_hasLoadsLike_23 : decode cX5_hasLoadsLike 23 = .ok (.aload_n 0, 1) := by decide +kernel
theorem dX5_hasLoadsLike_24 : decode cX5_hasLoadsLike 24 = .ok (.getfield 25, 3) := by decide +kernel
theorem dX5_hasLoadsLike_27 : decode cX5_hasLoadsLike 27 = .ok (.iload_n 2, 1) := by decide +kernel
theorem dX5_hasLoadsLike_28 : decode cX5_hasLoadsLike 28 = .ok (.aaload, 1) := by decide +kernel
theorem dX5_hasLoadsLike_29 : decode cX5_hasLoadsLike 29 = .ok (.aload_n 1, 1) := by decide +kernel
theorem dX5_hasLoadsLike_30 : decode cX5_hasLoadsLike 30 = .ok (.getfield 25, 3) := by decide +kernel
theorem dX5_hasLoadsLike_33 : decode cX5_hasLoadsLike 33 = .ok (.iload_n 2, 1) := by decide +kernel
theorem dX5_hasLoadsLike_34 : decode cX5_hasLoadsLike 34 = .ok (.aaload, 1) := by decide +kernel
theorem dX5_hasLoadsLike_35 : decode cX5_hasLoadsLike 35 = .ok (.invokevirtual 335, 3) := by decide +kernel
theorem dX5_hasLoadsLike_38 : decode cX5_hasLoadsLike 38 = .ok (.ifCond .ne 5, 3) := by decide +kernel
theorem dX5_hasLoadsLike_41 : decode cX5_hasLoadsLike 41 = .ok (.iconst 0, 1) := by decide +kernel
theorem dX5_hasLoadsLike_42 : decode cX5_hasLoadsLike 42 = .ok (.ireturn, 1) := by decide +kernel
theorem dX5_hasLoadsLike_43 : decode cX5_hasLoadsLike 43 = .ok (.iinc 2 1, 3) := by decide +kernel
theorem dX5_hasLoadsLike_46 : decode cX5_hasLoadsLike 46 = .ok (.goto (-31), 3) := by decide +kernel
theorem dX5_hasLoadsLike_49 : decode cX5_hasLoadsLike 49 = .ok (.iconst 1, 1) := by decide +kernel
theorem dX5_hasLoadsLike_50 : decode cX5_hasLoadsLike 50 = .ok (.ireturn, 1) := by decide +kernel
theorem dX5_hasFindingsLike_0 : decode cX5_hasFindingsLike 0 = .ok (.aload_n 0, 1) := by decide +kernel
theorem dX5_hasFindingsLike_1 : decode cX5_hasFindingsLike 1 = .ok (.getfield 59, 3) := by decide +kernel
theorem dX5_hasFindingsLike_4 : decode cX5_hasFindingsLike 4 = .ok (.aload_n 1, 1) := by decide +kernel
theorem dX5_hasFindingsLike_5 : decode cX5_hasFindingsLike 5 = .ok (.getfield 59, 3) := by decide +kernel
theorem dX5_hasFindingsLike_8 : decode cX5_hasFindingsLike 8 = .ok (.if_icmp .eq 5, 3) := by decide +kernel
theorem dX5_hasFindingsLike_11 : decode cX5_hasFindingsLike 11 = .ok (.iconst 0, 1) := by decide +kernel
theorem dX5_hasFindingsLike_12 : decode cX5_hasFindingsLike 12 = .ok (.ireturn, 1) := by decide +kernel
theorem dX5_hasFindingsLike_13 : decode cX5_hasFindingsLike 13 = .ok (.iconst 0, 1) := by decide +kernel
theorem dX5_hasFindingsLike_14 : decode cX5_hasFindingsLike 14 = .ok (.istore_n 2, 1) := by decide +kernel
theorem dX5_hasFindingsLike_15 : decode cX5_hasFindingsLike 15 = .ok (.iload_n 2, 1) := by decide +kernel
theorem dX5_hasFindingsLike_16 : decode cX5_hasFindingsLike 16 = .ok (.aload_n 0, 1) := by decide +kernel
theorem dX5_hasFindingsLike_17 : decode cX5_hasFindingsLike 17 = .ok (.getfield 59, 3) := by decide +kernel
theorem dX5_hasFindingsLike_20 : decode cX5_hasFindingsLike 20 = .ok (.if_icmp .ge 29, 3) := by decide +kernel
theorem dX5_hasFindingsLike_23 : decode cX5_hasFindingsLike 23 = .ok (.aload_n 0, 1) := by decide +kernel
theorem dX5_hasFindingsLike_24 : decode cX5_hasFindingsLike 24 = .ok (.getfield 31, 3) := by decide +kernel
theorem dX5_hasFindingsLike_27 : decode cX5_hasFindingsLike 27 = .ok (.iload_n 2, 1) := by decide +kernel
theorem dX5_hasFindingsLike_28 : decode cX5_hasFindingsLike 28 = .ok (.aaload, 1) := by decide +kernel
theorem dX5_hasFindingsLike_29 : decode cX5_hasFindingsLike 29 = .ok (.aload_n 1, 1) := by decide +kernel
theorem dX5_hasFindingsLike_30 : decode cX5_hasFindingsLike 30 = .ok (.getfield 31, 3) := by decide +kernel
theorem dX5_hasFindingsLike_33 : decode cX5_hasFindingsLike 33 = .ok (.iload_n 2, 1) := by decide +kernel
theorem dX5_hasFindingsLike_34 : decode cX5_hasFindingsLike 34 = .ok (.aaload, 1) := by decide +kernel
theorem dX5_hasFindingsLike_35 : decode cX5_hasFindingsLike 35 = .ok (.invokevirtual 338, 3) := by decide +kernel
theorem dX5_hasFindingsLike_38 : decode cX5_hasFindingsLike 38 = .ok (.ifCond .ne 5, 3) := by decide +kernel
theorem dX5_hasFindingsLike_41 : decode cX5_hasFindingsLike 41 = .ok (.iconst 0, 1) := by decide +kernel
theorem dX5_hasFindingsLike_42 : decode cX5_hasFindingsLike 42 = .ok (.ireturn, 1) := by decide +kernel
theorem dX5_hasFindingsLike_43 : decode cX5_hasFindingsLike 43 = .ok (.iinc 2 1, 3) := by decide +kernel
theorem dX5_hasFindingsLike_46 : decode cX5_hasFindingsLike 46 = .ok (.goto (-31), 3) := by decide +kernel
theorem dX5_hasFindingsLike_49 : decode cX5_hasFindingsLike 49 = .ok (.iconst 1, 1) := by decide +kernel
theorem dX5_hasFindingsLike_50 : decode cX5_hasFindingsLike 50 = .ok (.ireturn, 1) := by decide +kernel
theorem dX7_init_0 : decode cX7_init 0 = .ok (.aload_n 0, 1) := by decide +kernel
theorem dX7_init_1 : decode cX7_init 1 = .ok (.invokespecial 1, 3) := by decide +kernel
theorem dX7_init_4 : decode cX7_init 4 = .ok (.return_, 1) := by decide +kernel
theorem dX7_set_0 : decode cX7_set 0 = .ok (.aload_n 0, 1) := by decide +kernel
theorem dX7_set_1 : decode cX7_set 1 = .ok (.iload_n 1, 1) := by decide +kernel
theorem dX7_set_2 : decode cX7_set 2 = .ok (.putfield 7, 3) := by decide +kernel
theorem dX7_set_5 : decode cX7_set 5 = .ok (.aload_n 0, 1) := by decide +kernel
theorem dX7_set_6 : decode cX7_set 6 = .ok (.iload_n 2, 1) := by decide +kernel
theorem dX7_set_7 : decode cX7_set 7 = .ok (.putfield 13, 3) := by decide +kernel
theorem dX7_set_10 : decode cX7_set 10 = .ok (.return_, 1) := by decide +kernel
theorem dX7_may_0 : decode cX7_may 0 = .ok (.iload_n 2, 1) := by decide +kernel
theorem dX7_may_1 : decode cX7_may 1 = .ok (.aload_n 0, 1) := by decide +kernel
theorem dX7_may_2 : decode cX7_may 2 = .ok (.getfield 13, 3) := by decide +kernel
theorem dX7_may_5 : decode cX7_may 5 = .ok (.if_icmp .gt 19, 3) := by decide +kernel
theorem dX7_may_8 : decode cX7_may 8 = .ok (.aload_n 0, 1) := by decide +kernel
theorem dX7_may_9 : decode cX7_may 9 = .ok (.getfield 7, 3) := by decide +kernel
theorem dX7_may_12 : decode cX7_may 12 = .ok (.iload_n 1, 1) := by decide +kernel
theorem dX7_may_13 : decode cX7_may 13 = .ok (.ishr, 1) := by decide +kernel
theorem dX7_may_14 : decode cX7_may 14 = .ok (.iconst 1, 1) := by decide +kernel
theorem dX7_may_15 : decode cX7_may 15 = .ok (.iand, 1) := by decide +kernel
theorem dX7_may_16 : decode cX7_may 16 = .ok (.iconst 1, 1) := by decide +kernel
theorem dX7_may_17 : decode cX7_may 17 = .ok (.if_icmp .ne 7, 3) := by decide +kernel
theorem dX7_may_20 : decode cX7_may 20 = .ok (.iconst 1, 1) := by decide +kernel
theorem dX7_may_21 : decode cX7_may 21 = .ok (.goto 4, 3) := by decide +kernel
theorem dX7_may_24 : decode cX7_may 24 = .ok (.iconst 0, 1) := by decide +kernel
theorem dX7_may_25 : decode cX7_may 25 = .ok (.ireturn, 1) := by decide +kernel
theorem dX7_isLike_0 : decode cX7_isLike 0 = .ok (.aload_n 0, 1) := by decide +kernel
theorem dX7_isLike_1 : decode cX7_isLike 1 = .ok (.getfield 7, 3) := by decide +kernel
theorem dX7_isLike_4 : decode cX7_isLike 4 = .ok (.aload_n 1, 1) := by decide +kernel
theorem dX7_isLike_5 : decode cX7_isLike 5 = .ok (.getfield 7, 3) := by decide +kernel
theorem dX7_isLike_8 : decode cX7_isLike 8 = .ok (.if_icmp .ne 18, 3) := by decide +kernel
theorem dX7_isLike_11 : decode cX7_isLike 11 = .ok (.aload_n 0, 1) := by decide +kernel
theorem dX7_isLike_12 : decode cX7_isLike 12 = .ok (.getfield 13, 3) := by decide +kernel
theorem dX7_isLike_15 : decode cX7_isLike 15 = .ok (.aload_n 1, 1) := by decide +kernel
theorem dX7_isLike_16 : decode cX7_isLike 16 = .ok (.getfield 13, 3) := by decide +kernel
theorem dX7_isLike_19 : decode cX7_isLike 19 = .ok (.if_icmp .ne 7, 3) := by decide +kernel
theorem dX7_isLike_22 : decode cX7_isLike 22 = .ok (.iconst 1, 1) := by decide +kernel
theorem dX7_isLike_23 : decode cX7_isLike 23 = .ok (.goto 4, 3) := by decide +kernel
theorem dX7_isLike_26 : decode cX7_isLike 26 = .ok (.iconst 0, 1) := by decide +kernel
theorem dX7_isLike_27 : decode cX7_isLike 27 = .ok (.ireturn, 1) := by decide +kernel
theorem dX8_refusalOf_0 : decode cX8_refusalOf 0 = .ok (.iload_n 1, 1) := by decide +kernel
theorem dX8_refusalOf_1 : decode cX8_refusalOf 1 = .ok (.tableswitch 280 0 19 #[95, 102, 111, 122, 143, 149, 156, 163, 171, 190, 199, 205, 211, 217, 223, 230, 248, 255, 263, 272], 95) := by decide +kernel
theorem dX8_refusalOf_96 : decode cX8_refusalOf 96 = .ok (.aload_n 0, 1) := by decide +kernel
theorem dX8_refusalOf_97 : decode cX8_refusalOf 97 = .ok (.iload_n 2, 1) := by decide +kernel
theorem dX8_refusalOf_98 : decode cX8_refusalOf 98 = .ok (.iload_n 3, 1) := by decide +kernel
theorem dX8_refusalOf_99 : decode cX8_refusalOf 99 = .ok (.invokestatic 9, 3) := by decide +kernel
theorem dX8_refusalOf_102 : decode cX8_refusalOf 102 = .ok (.areturn, 1) := by decide +kernel
theorem dX8_refusalOf_103 : decode cX8_refusalOf 103 = .ok (.aload_n 0, 1) := by decide +kernel
theorem dX8_refusalOf_104 : decode cX8_refusalOf 104 = .ok (.iload_n 2, 1) := by decide +kernel
theorem dX8_refusalOf_105 : decode cX8_refusalOf 105 = .ok (.iload_n 3, 1) := by decide +kernel
theorem dX8_refusalOf_106 : decode cX8_refusalOf 106 = .ok (.iload 4, 2) := by decide +kernel
theorem dX8_refusalOf_108 : decode cX8_refusalOf 108 = .ok (.invokestatic 15, 3) := by decide +kernel
theorem dX8_refusalOf_111 : decode cX8_refusalOf 111 = .ok (.areturn, 1) := by decide +kernel
theorem dX8_refusalOf_112 : decode cX8_refusalOf 112 = .ok (.aload_n 0, 1) := by decide +kernel
theorem dX8_refusalOf_113 : decode cX8_refusalOf 113 = .ok (.iload_n 2, 1) := by decide +kernel
theorem dX8_refusalOf_114 : decode cX8_refusalOf 114 = .ok (.iload_n 3, 1) := by decide +kernel
theorem dX8_refusalOf_115 : decode cX8_refusalOf 115 = .ok (.iload 4, 2) := by decide +kernel
theorem dX8_refusalOf_117 : decode cX8_refusalOf 117 = .ok (.iload 5, 2) := by decide +kernel
theorem dX8_refusalOf_119 : decode cX8_refusalOf 119 = .ok (.invokestatic 19, 3) := by decide +kernel
theorem dX8_refusalOf_122 : decode cX8_refusalOf 122 = .ok (.areturn, 1) := by decide +kernel
theorem dX8_refusalOf_123 : decode cX8_refusalOf 123 = .ok (.iload_n 2, 1) := by decide +kernel
theorem dX8_refusalOf_124 : decode cX8_refusalOf 124 = .ok (.iconst 1, 1) := by decide +kernel
theorem dX8_refusalOf_125 : decode cX8_refusalOf 125 = .ok (.sipush 999, 3) := by decide +kernel
theorem dX8_refusalOf_128 : decode cX8_refusalOf 128 = .ok (.invokestatic 23, 3) := by decide +kernel
theorem dX8_refusalOf_131 : decode cX8_refusalOf 131 = .ok (.ifCond .eq 9, 3) := by decide +kernel
theorem dX8_refusalOf_134 : decode cX8_refusalOf 134 = .ok (.getstatic 27, 3) := by decide +kernel
theorem dX8_refusalOf_137 : decode cX8_refusalOf 137 = .ok (.goto 6, 3) := by decide +kernel
theorem dX8_refusalOf_140 : decode cX8_refusalOf 140 = .ok (.getstatic 33, 3) := by decide +kernel
theorem dX8_refusalOf_143 : decode cX8_refusalOf 143 = .ok (.areturn, 1) := by decide +kernel
theorem dX8_refusalOf_144 : decode cX8_refusalOf 144 = .ok (.aload_n 0, 1) := by decide +kernel
theorem dX8_refusalOf_145 : decode cX8_refusalOf 145 = .ok (.iload_n 2, 1) := by decide +kernel
theorem dX8_refusalOf_146 : decode cX8_refusalOf 146 = .ok (.invokestatic 36, 3) := by decide +kernel
theorem dX8_refusalOf_149 : decode cX8_refusalOf 149 = .ok (.areturn, 1) := by decide +kernel
theorem dX8_refusalOf_150 : decode cX8_refusalOf 150 = .ok (.aload_n 0, 1) := by decide +kernel
theorem dX8_refusalOf_151 : decode cX8_refusalOf 151 = .ok (.iload_n 2, 1) := by decide +kernel
theorem dX8_refusalOf_152 : decode cX8_refusalOf 152 = .ok (.iload_n 3, 1) := by decide +kernel
theorem dX8_refusalOf_153 : decode cX8_refusalOf 153 = .ok (.invokestatic 40, 3) := by decide +kernel
theorem dX8_refusalOf_156 : decode cX8_refusalOf 156 = .ok (.areturn, 1) := by decide +kernel
theorem dX8_refusalOf_157 : decode cX8_refusalOf 157 = .ok (.aload_n 0, 1) := by decide +kernel
theorem dX8_refusalOf_158 : decode cX8_refusalOf 158 = .ok (.iload_n 2, 1) := by decide +kernel
theorem dX8_refusalOf_159 : decode cX8_refusalOf 159 = .ok (.iload_n 3, 1) := by decide +kernel
theorem dX8_refusalOf_160 : decode cX8_refusalOf 160 = .ok (.invokestatic 43, 3) := by decide +kernel
theorem dX8_refusalOf_163 : decode cX8_refusalOf 163 = .ok (.areturn, 1) := by decide +kernel
theorem dX8_refusalOf_164 : decode cX8_refusalOf 164 = .ok (.aload_n 0, 1) := by decide +kernel
theorem dX8_refusalOf_165 : decode cX8_refusalOf 165 = .ok (.iload_n 2, 1) := by decide +kernel
theorem dX8_refusalOf_166 : decode cX8_refusalOf 166 = .ok (.bipush 112, 2) := by decide +kernel
theorem dX8_refusalOf_168 : decode cX8_refusalOf 168 = .ok (.invokestatic 46, 3) := by decide +kernel
theorem dX8_refusalOf_171 : decode cX8_refusalOf 171 = .ok (.areturn, 1) := by decide +kernel
theorem dX8_refusalOf_172 : decode cX8_refusalOf 172 = .ok (.aload_n 0, 1) := by decide +kernel
theorem dX8_refusalOf_173 : decode cX8_refusalOf 173 = .ok (.getfield 50, 3) := by decide +kernel
theorem dX8_refusalOf_176 : decode cX8_refusalOf 176 = .ok (.bipush 30, 2) := by decide +kernel
theorem dX8_refusalOf_178 : decode cX8_refusalOf 178 = .ok (.if_icmp .ge 9, 3) := by decide +kernel
theorem dX8_refusalOf_181 : decode cX8_refusalOf 181 = .ok (.getstatic 27, 3) := by decide +kernel
theorem dX8_refusalOf_184 : decode cX8_refusalOf 184 = .ok (.goto 6, 3) := by decide +kernel
theorem dX8_refusalOf_187 : decode cX8_refusalOf 187 = .ok (.getstatic 56, 3) := by decide +kernel
theorem dX8_refusalOf_190 : decode cX8_refusalOf 190 = .ok (.areturn, 1) := by decide +kernel
theorem dX8_refusalOf_191 : decode cX8_refusalOf 191 = .ok (.aload_n 0, 1) := by decide +kernel
theorem dX8_refusalOf_192 : decode cX8_refusalOf 192 = .ok (.iload_n 2, 1) := by decide +kernel
theorem dX8_refusalOf_193 : decode cX8_refusalOf 193 = .ok (.iload_n 3, 1) := by decide +kernel
theorem dX8_refusalOf_194 : decode cX8_refusalOf 194 = .ok (.iload 4, 2) := by decide +kernel
theorem dX8_refusalOf_196 : decode cX8_refusalOf 196 = .ok (.invokestatic 59, 3) := by decide +kernel
theorem dX8_refusalOf_199 : decode cX8_refusalOf 199 = .ok (.areturn, 1) := by decide +kernel
theorem dX8_refusalOf_200 : decode cX8_refusalOf 200 = .ok (.aload_n 0, 1) := by decide +kernel
theorem dX8_refusalOf_201 : decode cX8_refusalOf 201 = .ok (.iload_n 2, 1) := by decide +kernel
theorem dX8_refusalOf_202 : decode cX8_refusalOf 202 = .ok (.invokestatic 62, 3) := by decide +kernel
theorem dX8_refusalOf_205 : decode cX8_refusalOf 205 = .ok (.areturn, 1) := by decide +kernel
theorem dX8_refusalOf_206 : decode cX8_refusalOf 206 = .ok (.aload_n 0, 1) := by decide +kernel
theorem dX8_refusalOf_207 : decode cX8_refusalOf 207 = .ok (.iload_n 2, 1) := by decide +kernel
theorem dX8_refusalOf_208 : decode cX8_refusalOf 208 = .ok (.invokestatic 65, 3) := by decide +kernel
theorem dX8_refusalOf_211 : decode cX8_refusalOf 211 = .ok (.areturn, 1) := by decide +kernel
theorem dX8_refusalOf_212 : decode cX8_refusalOf 212 = .ok (.aload_n 0, 1) := by decide +kernel
theorem dX8_refusalOf_213 : decode cX8_refusalOf 213 = .ok (.iload_n 2, 1) := by decide +kernel
theorem dX8_refusalOf_214 : decode cX8_refusalOf 214 = .ok (.invokestatic 68, 3) := by decide +kernel
theorem dX8_refusalOf_217 : decode cX8_refusalOf 217 = .ok (.areturn, 1) := by decide +kernel
theorem dX8_refusalOf_218 : decode cX8_refusalOf 218 = .ok (.aload_n 0, 1) := by decide +kernel
theorem dX8_refusalOf_219 : decode cX8_refusalOf 219 = .ok (.iload_n 2, 1) := by decide +kernel
theorem dX8_refusalOf_220 : decode cX8_refusalOf 220 = .ok (.invokestatic 71, 3) := by decide +kernel
theorem dX8_refusalOf_223 : decode cX8_refusalOf 223 = .ok (.areturn, 1) := by decide +kernel
theorem dX8_refusalOf_224 : decode cX8_refusalOf 224 = .ok (.aload_n 0, 1) := by decide +kernel
theorem dX8_refusalOf_225 : decode cX8_refusalOf 225 = .ok (.iload_n 2, 1) := by decide +kernel
theorem dX8_refusalOf_226 : decode cX8_refusalOf 226 = .ok (.iload_n 3, 1) := by decide +kernel
theorem dX8_refusalOf_227 : decode cX8_refusalOf 227 = .ok (.invokestatic 74, 3) := by decide +kernel
theorem dX8_refusalOf_230 : decode cX8_refusalOf 230 = .ok (.areturn, 1) := by decide +kernel
theorem dX8_refusalOf_231 : decode cX8_refusalOf 231 = .ok (.aload_n 0, 1) := by decide +kernel
theorem dX8_refusalOf_232 : decode cX8_refusalOf 232 = .ok (.iload_n 2, 1) := by decide +kernel
theorem dX8_refusalOf_233 : decode cX8_refusalOf 233 = .ok (.invokevirtual 77, 3) := by decide +kernel
theorem dX8_refusalOf_236 : decode cX8_refusalOf 236 = .ok (.ifCond .eq 9, 3) := by decide +kernel
theorem dX8_refusalOf_239 : decode cX8_refusalOf 239 = .ok (.getstatic 27, 3) := by decide +kernel
theorem dX8_refusalOf_242 : decode cX8_refusalOf 242 = .ok (.goto 6, 3) := by decide +kernel
theorem dX8_refusalOf_245 : decode cX8_refusalOf 245 = .ok (.getstatic 81, 3) := by decide +kernel
theorem dX8_refusalOf_248 : decode cX8_refusalOf 248 = .ok (.areturn, 1) := by decide +kernel
theorem dX8_refusalOf_249 : decode cX8_refusalOf 249 = .ok (.aload_n 0, 1) := by decide +kernel
theorem dX8_refusalOf_250 : decode cX8_refusalOf 250 = .ok (.iload_n 2, 1) := by decide +kernel
theorem dX8_refusalOf_251 : decode cX8_refusalOf 251 = .ok (.iload_n 3, 1) := by decide +kernel
theorem dX8_refusalOf_252 : decode cX8_refusalOf 252 = .ok (.invokestatic 84, 3) := by decide +kernel
theorem dX8_refusalOf_255 : decode cX8_refusalOf 255 = .ok (.areturn, 1) := by decide +kernel
theorem dX8_refusalOf_256 : decode cX8_refusalOf 256 = .ok (.aload_n 0, 1) := by decide +kernel
theorem dX8_refusalOf_257 : decode cX8_refusalOf 257 = .ok (.iload_n 2, 1) := by decide +kernel
theorem dX8_refusalOf_258 : decode cX8_refusalOf 258 = .ok (.bipush 107, 2) := by decide +kernel
theorem dX8_refusalOf_260 : decode cX8_refusalOf 260 = .ok (.invokestatic 46, 3) := by decide +kernel
theorem dX8_refusalOf_263 : decode cX8_refusalOf 263 = .ok (.areturn, 1) := by decide +kernel
theorem dX8_refusalOf_264 : decode cX8_refusalOf 264 = .ok (.aload_n 0, 1) := by decide +kernel
theorem dX8_refusalOf_265 : decode cX8_refusalOf 265 = .ok (.iload_n 2, 1) := by decide +kernel
theorem dX8_refusalOf_266 : decode cX8_refusalOf 266 = .ok (.iload_n 3, 1) := by decide +kernel
theorem dX8_refusalOf_267 : decode cX8_refusalOf 267 = .ok (.iload 4, 2) := by decide +kernel
theorem dX8_refusalOf_269 : decode cX8_refusalOf 269 = .ok (.invokestatic 87, 3) := by decide +kernel
theorem dX8_refusalOf_272 : decode cX8_refusalOf 272 = .ok (.areturn, 1) := by decide +kernel
theorem dX8_refusalOf_273 : decode cX8_refusalOf 273 = .ok (.aload_n 0, 1) := by decide +kernel
theorem dX8_refusalOf_274 : decode cX8_refusalOf 274 = .ok (.iload_n 2, 1) := by decide +kernel
theorem dX8_refusalOf_275 : decode cX8_refusalOf 275 = .ok (.bipush 104, 2) := by decide +kernel
theorem dX8_refusalOf_277 : decode cX8_refusalOf 277 = .ok (.invokestatic 46, 3) := by decide +kernel
theorem dX8_refusalOf_280 : decode cX8_refusalOf 280 = .ok (.areturn, 1) := by decide +kernel
theorem dX8_refusalOf_281 : decode cX8_refusalOf 281 = .ok (.getstatic 33, 3) := by decide +kernel
theorem dX8_refusalOf_284 : decode cX8_refusalOf 284 = .ok (.areturn, 1) := by decide +kernel
theorem dX8_isIn_0 : decode cX8_isIn 0 = .ok (.iload_n 0, 1) := by decide +kernel
theorem dX8_isIn_1 : decode cX8_isIn 1 = .ok (.iload_n 1, 1) := by decide +kernel
theorem dX8_isIn_2 : decode cX8_isIn 2 = .ok (.if_icmp .lt 12, 3) := by decide +kernel
theorem dX8_isIn_5 : decode cX8_isIn 5 = .ok (.iload_n 0, 1) := by decide +kernel
theorem dX8_isIn_6 : decode cX8_isIn 6 = .ok (.iload_n 2, 1) := by decide +kernel
theorem dX8_isIn_7 : decode cX8_isIn 7 = .ok (.if_icmp .gt 7, 3) := by decide +kernel
theorem dX8_isIn_10 : decode cX8_isIn 10 = .ok (.iconst 1, 1) := by decide +kernel
theorem dX8_isIn_11 : decode cX8_isIn 11 = .ok (.goto 4, 3) := by decide +kernel
theorem dX8_isIn_14 : decode cX8_isIn 14 = .ok (.iconst 0, 1) := by decide +kernel
theorem dX8_isIn_15 : decode cX8_isIn 15 = .ok (.ireturn, 1) := by decide +kernel
theorem dX8_areLicences_0 : decode cX8_areLicences 0 = .ok (.iload_n 0, 1) := by decide +kernel
theorem dX8_areLicences_1 : decode cX8_areLicences 1 = .ok (.iconst 0, 1) := by decide +kernel
theorem dX8_areLicences_2 : decode cX8_areLicences 2 = .ok (.bipush 63, 2) := by decide +kernel
theorem dX8_areLicences_4 : decode cX8_areLicences 4 = .ok (.invokestatic 23, 3) := by decide +kernel
theorem dX8_areLicences_7 : decode cX8_areLicences 7 = .ok (.ifCond .eq 18, 3) := by decide +kernel
theorem dX8_areLicences_10 : decode cX8_areLicences 10 = .ok (.iload_n 1, 1) := by decide +kernel
theorem dX8_areLicences_11 : decode cX8_areLicences 11 = .ok (.iconst 0, 1) := by decide +kernel
theorem dX8_areLicences_12 : decode cX8_areLicences 12 = .ok (.sipush 9999, 3) := by decide +kernel
theorem dX8_areLicences_15 : decode cX8_areLicences 15 = .ok (.invokestatic 23, 3) := by decide +kernel
theorem dX8_areLicences_18 : decode cX8_areLicences 18 = .ok (.ifCond .eq 7, 3) := by decide +kernel
theorem dX8_areLicences_21 : decode cX8_areLicences 21 = .ok (.iconst 1, 1) := by decide +kernel
theorem dX8_areLicences_22 : decode cX8_areLicences 22 = .ok (.goto 4, 3) := by decide +kernel
theorem dX8_areLicences_25 : decode cX8_areLicences 25 = .ok (.iconst 0, 1) := by decide +kernel
theorem dX8_areLicences_26 : decode cX8_areLicences 26 = .ok (.ireturn, 1) := by decide +kernel
theorem dX8_ofAddRigger_0 : decode cX8_ofAddRigger 0 = .ok (.iload_n 1, 1) := by decide +kernel
theorem dX8_ofAddRigger_1 : decode cX8_ofAddRigger 1 = .ok (.iload_n 2, 1) := by decide +kernel
theorem dX8_ofAddRigger_2 : decode cX8_ofAddRigger 2 = .ok (.invokestatic 90, 3) := by decide +kernel
theorem dX8_ofAddRigger_5 : decode cX8_ofAddRigger 5 = .ok (.ifCond .ne 7, 3) := by decide +kernel
theorem dX8_ofAddRigger_8 : decode cX8_ofAddRigger 8 = .ok (.getstatic 33, 3) := by decide +kernel
theorem dX8_ofAddRigger_11 : decode cX8_ofAddRigger 11 = .ok (.areturn, 1) := by decide +kernel
theorem dX8_ofAddRigger_12 : decode cX8_ofAddRigger 12 = .ok (.aload_n 0, 1) := by decide +kernel
theorem dX8_ofAddRigger_13 : decode cX8_ofAddRigger 13 = .ok (.getfield 94, 3) := by decide +kernel
theorem dX8_ofAddRigger_16 : decode cX8_ofAddRigger 16 = .ok (.bipush 8, 2) := by decide +kernel
theorem dX8_ofAddRigger_18 : decode cX8_ofAddRigger 18 = .ok (.if_icmp .ge 9, 3) := by decide +kernel
theorem dX8_ofAddRigger_21 : decode cX8_ofAddRigger 21 = .ok (.getstatic 27, 3) := by decide +kernel
theorem dX8_ofAddRigger_24 : decode cX8_ofAddRigger 24 = .ok (.goto 6, 3) := by decide +kernel
theorem dX8_ofAddRigger_27 : decode cX8_ofAddRigger 27 = .ok (.getstatic 56, 3) := by decide +kernel
theorem dX8_ofAddRigger_30 : decode cX8_ofAddRigger 30 = .ok (.areturn, 1) := by decide +kernel
theorem dX8_ofSetLicences_0 : decode cX8_ofSetLicences 0 = .ok (.aload_n 0, 1) := by decide +kernel
theorem dX8_ofSetLicences_1 : decode cX8_ofSetLicences 1 = .ok (.iload_n 1, 1) := by decide +kernel
theorem dX8_ofSetLicences_2 : decode cX8_ofSetLicences 2 = .ok (.invokevirtual 97, 3) := by decide +kernel
theorem dX8_ofSetLicences_5 : decode cX8_ofSetLicences 5 = .ok (.ifCond .ne 7, 3) := by decide +kernel
theorem dX8_ofSetLicences_8 : decode cX8_ofSetLicences 8 = .ok (.getstatic 81, 3) := by decide +kernel
theorem dX8_ofSetLicences_11 : decode cX8_ofSetLicences 11 = .ok (.areturn, 1) := by decide +kernel
theorem dX8_ofSetLicences_12 : decode cX8_ofSetLicences 12 = .ok (.iload_n 2, 1) := by decide +kernel
theorem dX8_ofSetLicences_13 : decode cX8_ofSetLicences 13 = .ok (.iload_n 3, 1) := by decide +kernel
theorem dX8_ofSetLicences_14 : decode cX8_ofSetLicences 14 = .ok (.invokestatic 90, 3) := by decide +kernel
theorem dX8_ofSetLicences_17 : decode cX8_ofSetLicences 17 = .ok (.ifCond .eq 9, 3) := by decide +kernel
theorem dX8_ofSetLicences_20 : decode cX8_ofSetLicences 20 = .ok (.getstatic 27, 3) := by decide +kernel
theorem dX8_ofSetLicences_23 : decode cX8_ofSetLicences 23 = .ok (.goto 6, 3) := by decide +kernel
theorem dX8_ofSetLicences_26 : decode cX8_ofSetLicences 26 = .ok (.getstatic 33, 3) := by decide +kernel
theorem dX8_ofSetLicences_29 : decode cX8_ofSetLicences 29 = .ok (.areturn, 1) := by decide +kernel
theorem dX8_ofAddCanopy_0 : decode cX8_ofAddCanopy 0 = .ok (.iload_n 1, 1) := by decide +kernel
theorem dX8_ofAddCanopy_1 : decode cX8_ofAddCanopy 1 = .ok (.bipush 109, 2) := by decide +kernel
theorem dX8_ofAddCanopy_3 : decode cX8_ofAddCanopy 3 = .ok (.if_icmp .eq 13, 3) := by decide +kernel
theorem dX8_ofAddCanopy_6 : decode cX8_ofAddCanopy 6 = .ok (.iload_n 1, 1) := by decide +kernel
theorem dX8_ofAddCanopy_7 : decode cX8_ofAddCanopy 7 = .ok (.bipush 114, 2) := by decide +kernel
theorem dX8_ofAddCanopy_9 : decode cX8_ofAddCanopy 9 = .ok (.if_icmp .eq 7, 3) := by decide +kernel
theorem dX8_ofAddCanopy_12 : decode cX8_ofAddCanopy 12 = .ok (.getstatic 33, 3) := by decide +kernel
theorem dX8_ofAddCanopy_15 : decode cX8_ofAddCanopy 15 = .ok (.areturn, 1) := by decide +kernel
theorem dX8_ofAddCanopy_16 : decode cX8_ofAddCanopy 16 = .ok (.iload_n 2, 1) := by decide +kernel
theorem dX8_ofAddCanopy_17 : decode cX8_ofAddCanopy 17 = .ok (.iconst 0, 1) := by decide +kernel
theorem dX8_ofAddCanopy_18 : decode cX8_ofAddCanopy 18 = .ok (.bipush 9, 2) := by decide +kernel
theorem dX8_ofAddCanopy_20 : decode cX8_ofAddCanopy 20 = .ok (.invokestatic 23, 3) := by decide +kernel
theorem dX8_ofAddCanopy_23 : decode cX8_ofAddCanopy 23 = .ok (.ifCond .eq 25, 3) := by decide +kernel
theorem dX8_ofAddCanopy_26 : decode cX8_ofAddCanopy 26 = .ok (.iload_n 3, 1) := by decide +kernel
theorem dX8_ofAddCanopy_27 : decode cX8_ofAddCanopy 27 = .ok (.iconst 0, 1) := by decide +kernel
theorem dX8_ofAddCanopy_28 : decode cX8_ofAddCanopy 28 = .ok (.bipush 9, 2) := by decide +kernel
theorem dX8_ofAddCanopy_30 : decode cX8_ofAddCanopy 30 = .ok (.invokestatic 23, 3) := by decide +kernel
theorem dX8_ofAddCanopy_33 : decode cX8_ofAddCanopy 33 = .ok (.ifCond .eq 15, 3) := by decide +kernel
theorem dX8_ofAddCanopy_36 : decode cX8_ofAddCanopy 36 = .ok (.iload 4, 2) := by decide +kernel
theorem dX8_ofAddCanopy_38 : decode cX8_ofAddCanopy 38 = .ok (.iconst 1, 1) := by decide +kernel
theorem dX8_ofAddCanopy_39 : decode cX8_ofAddCanopy 39 = .ok (.sipush 9999, 3) := by decide +kernel
theorem dX8_ofAddCanopy_42 : decode cX8_ofAddCanopy 42 = .ok (.invokestatic 23, 3) := by decide +kernel
theorem dX8_ofAddCanopy_45 : decode cX8_ofAddCanopy 45 = .ok (.ifCond .ne 7, 3) := by decide +kernel
theorem dX8_ofAddCanopy_48 : decode cX8_ofAddCanopy 48 = .ok (.getstatic 33, 3) := by decide +kernel
theorem dX8_ofAddCanopy_51 : decode cX8_ofAddCanopy 51 = .ok (.areturn, 1) := by decide +kernel
theorem dX8_ofAddCanopy_52 : decode cX8_ofAddCanopy 52 = .ok (.aload_n 0, 1) := by decide +kernel
theorem dX8_ofAddCanopy_53 : decode cX8_ofAddCanopy 53 = .ok (.getfield 100, 3) := by decide +kernel
theorem dX8_ofAddCanopy_56 : decode cX8_ofAddCanopy 56 = .ok (.bipush 24, 2) := by decide +kernel
theorem dX8_ofAddCanopy_58 : decode cX8_ofAddCanopy 58 = .ok (.if_icmp .ge 9, 3) := by decide +kernel
theorem dX8_ofAddCanopy_61 : decode cX8_ofAddCanopy 61 = .ok (.getstatic 27, 3) := by decide +kernel
theorem dX8_ofAddCanopy_64 : decode cX8_ofAddCanopy 64 = .ok (.goto 6, 3) := by decide +kernel
theorem dX8_ofAddCanopy_67 : decode cX8_ofAddCanopy 67 = .ok (.getstatic 56, 3) := by decide +kernel
theorem dX8_ofAddCanopy_70 : decode cX8_ofAddCanopy 70 = .ok (.areturn, 1) := by decide +kernel
theorem dX8_ofGoOn_0 : decode cX8_ofGoOn 0 = .ok (.iload_n 1, 1) := by decide +kernel
theorem dX8_ofGoOn_1 : decode cX8_ofGoOn 1 = .ok (.iconst 1, 1) := by decide +kernel
theorem dX8_ofGoOn_2 : decode cX8_ofGoOn 2 = .ok (.sipush 999, 3) := by decide +kernel
theorem dX8_ofGoOn_5 : decode cX8_ofGoOn 5 = .ok (.invokestatic 23, 3) := by decide +kernel
theorem dX8_ofGoOn_8 : decode cX8_ofGoOn 8 = .ok (.ifCond .ne 7, 3) := by decide +kernel
theorem dX8_ofGoOn_11 : decode cX8_ofGoOn 11 = .ok (.getstatic 33, 3) := by decide +kernel
theorem dX8_ofGoOn_14 : decode cX8_ofGoOn 14 = .ok (.areturn, 1) := by decide +kernel
theorem dX8_ofGoOn_15 : decode cX8_ofGoOn 15 = .ok (.aload_n 0, 1) := by decide +kernel
theorem dX8_ofGoOn_16 : decode cX8_ofGoOn 16 = .ok (.getfield 103, 3) := by decide +kernel
theorem dX8_ofGoOn_19 : decode cX8_ofGoOn 19 = .ok (.iload_n 1, 1) := by decide +kernel
theorem dX8_ofGoOn_20 : decode cX8_ofGoOn 20 = .ok (.iadd, 1) := by decide +kernel
theorem dX8_ofGoOn_21 : decode cX8_ofGoOn 21 = .ok (.sipush 9999, 3) := by decide +kernel
theorem dX8_ofGoOn_24 : decode cX8_ofGoOn 24 = .ok (.if_icmp .gt 9, 3) := by decide +kernel
theorem dX8_ofGoOn_27 : decode cX8_ofGoOn 27 = .ok (.getstatic 27, 3) := by decide +kernel
theorem dX8_ofGoOn_30 : decode cX8_ofGoOn 30 = .ok (.goto 6, 3) := by decide +kernel
theorem dX8_ofGoOn_33 : decode cX8_ofGoOn 33 = .ok (.getstatic 56, 3) := by decide +kernel
theorem dX8_ofGoOn_36 : decode cX8_ofGoOn 36 = .ok (.areturn, 1) := by decide +kernel
theorem dX8_ofCanopyIn_0 : decode cX8_ofCanopyIn 0 = .ok (.aload_n 0, 1) := by decide +kernel
theorem dX8_ofCanopyIn_1 : decode cX8_ofCanopyIn 1 = .ok (.iload_n 1, 1) := by decide +kernel
theorem dX8_ofCanopyIn_2 : decode cX8_ofCanopyIn 2 = .ok (.invokevirtual 106, 3) := by decide +kernel
theorem dX8_ofCanopyIn_5 : decode cX8_ofCanopyIn 5 = .ok (.ifCond .ne 7, 3) := by decide +kernel
theorem dX8_ofCanopyIn_8 : decode cX8_ofCanopyIn 8 = .ok (.getstatic 81, 3) := by decide +kernel
theorem dX8_ofCanopyIn_11 : decode cX8_ofCanopyIn 11 = .ok (.areturn, 1) := by decide +kernel
theorem dX8_ofCanopyIn_12 : decode cX8_ofCanopyIn 12 = .ok (.aload_n 0, 1) := by decide +kernel
theorem dX8_ofCanopyIn_13 : decode cX8_ofCanopyIn 13 = .ok (.getfield 109, 3) := by decide +kernel
theorem dX8_ofCanopyIn_16 : decode cX8_ofCanopyIn 16 = .ok (.iload_n 1, 1) := by decide +kernel
theorem dX8_ofCanopyIn_17 : decode cX8_ofCanopyIn 17 = .ok (.aaload, 1) := by decide +kernel
theorem dX8_ofCanopyIn_18 : decode cX8_ofCanopyIn 18 = .ok (.getfield 113, 3) := by decide +kernel
theorem dX8_ofCanopyIn_21 : decode cX8_ofCanopyIn 21 = .ok (.iload_n 2, 1) := by decide +kernel
theorem dX8_ofCanopyIn_22 : decode cX8_ofCanopyIn 22 = .ok (.if_icmp .ne 9, 3) := by decide +kernel
theorem dX8_ofCanopyIn_25 : decode cX8_ofCanopyIn 25 = .ok (.getstatic 27, 3) := by decide +kernel
theorem dX8_ofCanopyIn_28 : decode cX8_ofCanopyIn 28 = .ok (.goto 6, 3) := by decide +kernel
theorem dX8_ofCanopyIn_31 : decode cX8_ofCanopyIn 31 = .ok (.getstatic 119, 3) := by decide +kernel
theorem dX8_ofCanopyIn_34 : decode cX8_ofCanopyIn 34 = .ok (.areturn, 1) := by decide +kernel
theorem dX8_ofHang_0 : decode cX8_ofHang 0 = .ok (.aload_n 0, 1) := by decide +kernel
theorem dX8_ofHang_1 : decode cX8_ofHang 1 = .ok (.iload_n 1, 1) := by decide +kernel
theorem dX8_ofHang_2 : decode cX8_ofHang 2 = .ok (.invokevirtual 106, 3) := by decide +kernel
theorem dX8_ofHang_5 : decode cX8_ofHang 5 = .ok (.ifCond .ne 7, 3) := by decide +kernel
theorem dX8_ofHang_8 : decode cX8_ofHang 8 = .ok (.getstatic 81, 3) := by decide +kernel
theorem dX8_ofHang_11 : decode cX8_ofHang 11 = .ok (.areturn, 1) := by decide +kernel
theorem dX8_ofHang_12 : decode cX8_ofHang 12 = .ok (.iload_n 2, 1) := by decide +kernel
theorem dX8_ofHang_13 : decode cX8_ofHang 13 = .ok (.iconst 0, 1) := by decide +kernel
theorem dX8_ofHang_14 : decode cX8_ofHang 14 = .ok (.iconst 5, 1) := by decide +kernel
theorem dX8_ofHang_15 : decode cX8_ofHang 15 = .ok (.invokestatic 23, 3) := by decide +kernel
theorem dX8_ofHang_18 : decode cX8_ofHang 18 = .ok (.ifCond .ne 7, 3) := by decide +kernel
theorem dX8_ofHang_21 : decode cX8_ofHang 21 = .ok (.getstatic 33, 3) := by decide +kernel
theorem dX8_ofHang_24 : decode cX8_ofHang 24 = .ok (.areturn, 1) := by decide +kernel
theorem dX8_ofHang_25 : decode cX8_ofHang 25 = .ok (.aload_n 0, 1) := by decide +kernel
theorem dX8_ofHang_26 : decode cX8_ofHang 26 = .ok (.getfield 109, 3) := by decide +kernel
theorem dX8_ofHang_29 : decode cX8_ofHang 29 = .ok (.iload_n 1, 1) := by decide +kernel
theorem dX8_ofHang_30 : decode cX8_ofHang 30 = .ok (.aaload, 1) := by decide +kernel
theorem dX8_ofHang_31 : decode cX8_ofHang 31 = .ok (.getfield 113, 3) := by decide +kernel
theorem dX8_ofHang_34 : decode cX8_ofHang 34 = .ok (.bipush 111, 2) := by decide +kernel
theorem dX8_ofHang_36 : decode cX8_ofHang 36 = .ok (.if_icmp .eq 7, 3) := by decide +kernel
theorem dX8_ofHang_39 : decode cX8_ofHang 39 = .ok (.getstatic 119, 3) := by decide +kernel
theorem dX8_ofHang_42 : decode cX8_ofHang 42 = .ok (.areturn, 1) := by decide +kernel
theorem dX8_ofHang_43 : decode cX8_ofHang 43 = .ok (.aload_n 0, 1) := by decide +kernel
theorem dX8_ofHang_44 : decode cX8_ofHang 44 = .ok (.iload_n 2, 1) := by decide +kernel
theorem dX8_ofHang_45 : decode cX8_ofHang 45 = .ok (.invokevirtual 122, 3) := by decide +kernel
theorem dX8_ofHang_48 : decode cX8_ofHang 48 = .ok (.ifCond .eq 9, 3) := by decide +kernel
theorem dX8_ofHang_51 : decode cX8_ofHang 51 = .ok (.getstatic 27, 3) := by decide +kernel
theorem dX8_ofHang_54 : decode cX8_ofHang 54 = .ok (.goto 6, 3) := by decide +kernel
theorem dX8_ofHang_57 : decode cX8_ofHang 57 = .ok (.getstatic 56, 3) := by decide +kernel
theorem dX8_ofHang_60 : decode cX8_ofHang 60 = .ok (.areturn, 1) := by decide +kernel
theorem dX8_ofStep_0 : decode cX8_ofStep 0 = .ok (.aload_n 0, 1) := by decide +kernel
theorem dX8_ofStep_1 : decode cX8_ofStep 1 = .ok (.iload_n 1, 1) := by decide +kernel
theorem dX8_ofStep_2 : decode cX8_ofStep 2 = .ok (.invokevirtual 106, 3) := by decide +kernel
theorem dX8_ofStep_5 : decode cX8_ofStep 5 = .ok (.ifCond .eq 11, 3) := by decide +kernel
theorem dX8_ofStep_8 : decode cX8_ofStep 8 = .ok (.aload_n 0, 1) := by decide +kernel
theorem dX8_ofStep_9 : decode cX8_ofStep 9 = .ok (.iload_n 2, 1) := by decide +kernel
theorem dX8_ofStep_10 : decode cX8_ofStep 10 = .ok (.invokevirtual 97, 3) := by decide +kernel
theorem dX8_ofStep_13 : decode cX8_ofStep 13 = .ok (.ifCond .ne 7, 3) := by decide +kernel
theorem dX8_ofStep_16 : decode cX8_ofStep 16 = .ok (.getstatic 81, 3) := by decide +kernel
theorem dX8_ofStep_19 : decode cX8_ofStep 19 = .ok (.areturn, 1) := by decide +kernel
theorem dX8_ofStep_20 : decode cX8_ofStep 20 = .ok (.aload_n 0, 1) := by decide +kernel
theorem dX8_ofStep_21 : decode cX8_ofStep 21 = .ok (.getfield 109, 3) := by decide +kernel
theorem dX8_ofStep_24 : decode cX8_ofStep 24 = .ok (.iload_n 1, 1) := by decide +kernel
theorem dX8_ofStep_25 : decode cX8_ofStep 25 = .ok (.aaload, 1) := by decide +kernel
theorem dX8_ofStep_26 : decode cX8_ofStep 26 = .ok (.astore_n 3, 1) := by decide +kernel
theorem dX8_ofStep_27 : decode cX8_ofStep 27 = .ok (.aload_n 3, 1) := by decide +kernel
theorem dX8_ofStep_28 : decode cX8_ofStep 28 = .ok (.getfield 125, 3) := by decide +kernel
theorem dX8_ofStep_31 : decode cX8_ofStep 31 = .ok (.istore 4, 2) := by decide +kernel
theorem dX8_ofStep_33 : decode cX8_ofStep 33 = .ok (.aload_n 3, 1) := by decide +kernel
theorem dX8_ofStep_34 : decode cX8_ofStep 34 = .ok (.getfield 113, 3) := by decide +kernel
theorem dX8_ofStep_37 : decode cX8_ofStep 37 = .ok (.bipush 112, 2) := by decide +kernel
theorem dX8_ofStep_39 : decode cX8_ofStep 39 = .ok (.if_icmp .ne 13, 3) := by decide +kernel
theorem dX8_ofStep_42 : decode cX8_ofStep 42 = .ok (.iload 4, 2) := by decide +kernel
theorem dX8_ofStep_44 : decode cX8_ofStep 44 = .ok (.iconst 0, 1) := by decide +kernel
theorem dX8_ofStep_45 : decode cX8_ofStep 45 = .ok (.iconst 4, 1) := by decide +kernel
theorem dX8_ofStep_46 : decode cX8_ofStep 46 = .ok (.invokestatic 23, 3) := by decide +kernel
theorem dX8_ofStep_49 : decode cX8_ofStep 49 = .ok (.ifCond .ne 7, 3) := by decide +kernel
theorem dX8_ofStep_52 : decode cX8_ofStep 52 = .ok (.getstatic 119, 3) := by decide +kernel
theorem dX8_ofStep_55 : decode cX8_ofStep 55 = .ok (.areturn, 1) := by decide +kernel
theorem dX8_ofStep_56 : decode cX8_ofStep 56 = .ok (.aload_n 0, 1) := by decide +kernel
theorem dX8_ofStep_57 : decode cX8_ofStep 57 = .ok (.getfield 128, 3) := by decide +kernel
theorem dX8_ofStep_60 : decode cX8_ofStep 60 = .ok (.iload_n 2, 1) := by decide +kernel
theorem dX8_ofStep_61 : decode cX8_ofStep 61 = .ok (.aaload, 1) := by decide +kernel
theorem dX8_ofStep_62 : decode cX8_ofStep 62 = .ok (.iload 4, 2) := by decide +kernel
theorem dX8_ofStep_64 : decode cX8_ofStep 64 = .ok (.aload_n 0, 1) := by decide +kernel
theorem dX8_ofStep_65 : decode cX8_ofStep 65 = .ok (.getfield 103, 3) := by decide +kernel
theorem dX8_ofStep_68 : decode cX8_ofStep 68 = .ok (.invokevirtual 132, 3) := by decide +kernel
theorem dX8_ofStep_71 : decode cX8_ofStep 71 = .ok (.ifCond .ne 7, 3) := by decide +kernel
theorem dX8_ofStep_74 : decode cX8_ofStep 74 = .ok (.getstatic 33, 3) := by decide +kernel
theorem dX8_ofStep_77 : decode cX8_ofStep 77 = .ok (.areturn, 1) := by decide +kernel
theorem dX8_ofStep_78 : decode cX8_ofStep 78 = .ok (.iload 4, 2) := by decide +kernel
theorem dX8_ofStep_80 : decode cX8_ofStep 80 = .ok (.iconst 4, 1) := by decide +kernel
theorem dX8_ofStep_81 : decode cX8_ofStep 81 = .ok (.if_icmp .ne 17, 3) := by decide +kernel
theorem dX8_ofStep_84 : decode cX8_ofStep 84 = .ok (.aload_n 3, 1) := by decide +kernel
theorem dX8_ofStep_85 : decode cX8_ofStep 85 = .ok (.getfield 137, 3) := by decide +kernel
theorem dX8_ofStep_88 : decode cX8_ofStep 88 = .ok (.iconst 3, 1) := by decide +kernel
theorem dX8_ofStep_89 : decode cX8_ofStep 89 = .ok (.iaload, 1) := by decide +kernel
theorem dX8_ofStep_90 : decode cX8_ofStep 90 = .ok (.iload_n 2, 1) := by decide +kernel
theorem dX8_ofStep_91 : decode cX8_ofStep 91 = .ok (.if_icmp .ne 7, 3) := by decide +kernel
theorem dX8_ofStep_94 : decode cX8_ofStep 94 = .ok (.iconst 1, 1) := by decide +kernel
theorem dX8_ofStep_95 : decode cX8_ofStep 95 = .ok (.goto 4, 3) := by decide +kernel
theorem dX8_ofStep_98 : decode cX8_ofStep 98 = .ok (.iconst 0, 1) := by decide +kernel
theorem dX8_ofStep_99 : decode cX8_ofStep 99 = .ok (.istore 5, 2) := by decide +kernel
theorem dX8_ofStep_101 : decode cX8_ofStep 101 = .ok (.iload 5, 2) := by decide +kernel
theorem dX8_ofStep_103 : decode cX8_ofStep 103 = .ok (.ifCond .eq 9, 3) := by decide +kernel
theorem dX8_ofStep_106 : decode cX8_ofStep 106 = .ok (.getstatic 33, 3) := by decide +kernel
theorem dX8_ofStep_109 : decode cX8_ofStep 109 = .ok (.goto 6, 3) := by decide +kernel
theorem dX8_ofStep_112 : decode cX8_ofStep 112 = .ok (.getstatic 27, 3) := by decide +kernel
theorem dX8_ofStep_115 : decode cX8_ofStep 115 = .ok (.areturn, 1) := by decide +kernel
theorem dX8_ofBoard_0 : decode cX8_ofBoard 0 = .ok (.aload_n 0, 1) := by decide +kernel
theorem dX8_ofBoard_1 : decode cX8_ofBoard 1 = .ok (.iload_n 1, 1) := by decide +kernel
theorem dX8_ofBoard_2 : decode cX8_ofBoard 2 = .ok (.invokevirtual 141, 3) := by decide +kernel
theorem dX8_ofBoard_5 : decode cX8_ofBoard 5 = .ok (.ifCond .eq 19, 3) := by decide +kernel
theorem dX8_ofBoard_8 : decode cX8_ofBoard 8 = .ok (.aload_n 0, 1) := by decide +kernel
theorem dX8_ofBoard_9 : decode cX8_ofBoard 9 = .ok (.iload_n 2, 1) := by decide +kernel
theorem dX8_ofBoard_10 : decode cX8_ofBoard 10 = .ok (.invokevirtual 106, 3) := by decide +kernel
theorem dX8_ofBoard_13 : decode cX8_ofBoard 13 = .ok (.ifCond .eq 11, 3) := by decide +kernel
theorem dX8_ofBoard_16 : decode cX8_ofBoard 16 = .ok (.aload_n 0, 1) := by decide +kernel
theorem dX8_ofBoard_17 : decode cX8_ofBoard 17 = .ok (.iload_n 3, 1) := by decide +kernel
theorem dX8_ofBoard_18 : decode cX8_ofBoard 18 = .ok (.invokevirtual 106, 3) := by decide +kernel
theorem dX8_ofBoard_21 : decode cX8_ofBoard 21 = .ok (.ifCond .ne 7, 3) := by decide +kernel
theorem dX8_ofBoard_24 : decode cX8_ofBoard 24 = .ok (.getstatic 81, 3) := by decide +kernel
theorem dX8_ofBoard_27 : decode cX8_ofBoard 27 = .ok (.areturn, 1) := by decide +kernel
theorem dX8_ofBoard_28 : decode cX8_ofBoard 28 = .ok (.aload_n 0, 1) := by decide +kernel
theorem dX8_ofBoard_29 : decode cX8_ofBoard 29 = .ok (.getfield 109, 3) := by decide +kernel
theorem dX8_ofBoard_32 : decode cX8_ofBoard 32 = .ok (.iload_n 2, 1) := by decide +kernel
theorem dX8_ofBoard_33 : decode cX8_ofBoard 33 = .ok (.aaload, 1) := by decide +kernel
theorem dX8_ofBoard_34 : decode cX8_ofBoard 34 = .ok (.astore 4, 2) := by decide +kernel
theorem dX8_ofBoard_36 : decode cX8_ofBoard 36 = .ok (.aload_n 0, 1) := by decide +kernel
theorem dX8_ofBoard_37 : decode cX8_ofBoard 37 = .ok (.getfield 109, 3) := by decide +kernel
theorem dX8_ofBoard_40 : decode cX8_ofBoard 40 = .ok (.iload_n 3, 1) := by decide +kernel
theorem dX8_ofBoard_41 : decode cX8_ofBoard 41 = .ok (.aaload, 1) := by decide +kernel
theorem dX8_ofBoard_42 : decode cX8_ofBoard 42 = .ok (.astore 5, 2) := by decide +kernel
theorem dX8_ofBoard_44 : decode cX8_ofBoard 44 = .ok (.aload 4, 2) := by decide +kernel
theorem dX8_ofBoard_46 : decode cX8_ofBoard 46 = .ok (.getfield 144, 3) := by decide +kernel
theorem dX8_ofBoard_49 : decode cX8_ofBoard 49 = .ok (.bipush 109, 2) := by decide +kernel
theorem dX8_ofBoard_51 : decode cX8_ofBoard 51 = .ok (.if_icmp .ne 13, 3) := by decide +kernel
theorem dX8_ofBoard_54 : decode cX8_ofBoard 54 = .ok (.aload 5, 2) := by decide +kernel
theorem dX8_ofBoard_56 : decode cX8_ofBoard 56 = .ok (.getfield 144, 3) := by decide +kernel
theorem dX8_ofBoard_59 : decode cX8_ofBoard 59 = .ok (.bipush 114, 2) := by decide +kernel
theorem dX8_ofBoard_61 : decode cX8_ofBoard 61 = .ok (.if_icmp .eq 7, 3) := by decide +kernel
theorem dX8_ofBoard_64 : decode cX8_ofBoard 64 = .ok (.getstatic 33, 3) := by decide +kernel
theorem dX8_ofBoard_67 : decode cX8_ofBoard 67 = .ok (.areturn, 1) := by decide +kernel
theorem dX8_ofBoard_68 : decode cX8_ofBoard 68 = .ok (.aload 4, 2) := by decide +kernel
theorem dX8_ofBoard_70 : decode cX8_ofBoard 70 = .ok (.getfield 113, 3) := by decide +kernel
theorem dX8_ofBoard_73 : decode cX8_ofBoard 73 = .ok (.bipush 107, 2) := by decide +kernel
theorem dX8_ofBoard_75 : decode cX8_ofBoard 75 = .ok (.if_icmp .ne 25, 3) := by decide +kernel
theorem dX8_ofBoard_78 : decode cX8_ofBoard 78 = .ok (.aload 5, 2) := by decide +kernel
theorem dX8_ofBoard_80 : decode cX8_ofBoard 80 = .ok (.getfield 113, 3) := by decide +kernel
theorem dX8_ofBoard_83 : decode cX8_ofBoard 83 = .ok (.bipush 107, 2) := by decide +kernel
theorem dX8_ofBoard_85 : decode cX8_ofBoard 85 = .ok (.if_icmp .ne 15, 3) := by decide +kernel
theorem dX8_ofBoard_88 : decode cX8_ofBoard 88 = .ok (.aload_n 0, 1) := by decide +kernel
theorem dX8_ofBoard_89 : decode cX8_ofBoard 89 = .ok (.getfield 147, 3) := by decide +kernel
theorem dX8_ofBoard_92 : decode cX8_ofBoard 92 = .ok (.iload_n 1, 1) := by decide +kernel
theorem dX8_ofBoard_93 : decode cX8_ofBoard 93 = .ok (.aaload, 1) := by decide +kernel
theorem dX8_ofBoard_94 : decode cX8_ofBoard 94 = .ok (.getfield 151, 3) := by decide +kernel
theorem dX8_ofBoard_97 : decode cX8_ofBoard 97 = .ok (.ifCond .eq 7, 3) := by decide +kernel
theorem dX8_ofBoard_100 : decode cX8_ofBoard 100 = .ok (.getstatic 119, 3) := by decide +kernel
theorem dX8_ofBoard_103 : decode cX8_ofBoard 103 = .ok (.areturn, 1) := by decide +kernel
theorem dX8_ofBoard_104 : decode cX8_ofBoard 104 = .ok (.aload_n 0, 1) := by decide +kernel
theorem dX8_ofBoard_105 : decode cX8_ofBoard 105 = .ok (.iload_n 2, 1) := by decide +kernel
theorem dX8_ofBoard_106 : decode cX8_ofBoard 106 = .ok (.invokevirtual 157, 3) := by decide +kernel
theorem dX8_ofBoard_109 : decode cX8_ofBoard 109 = .ok (.ifCond .eq 11, 3) := by decide +kernel
theorem dX8_ofBoard_112 : decode cX8_ofBoard 112 = .ok (.aload_n 0, 1) := by decide +kernel
theorem dX8_ofBoard_113 : decode cX8_ofBoard 113 = .ok (.iload_n 3, 1) := by decide +kernel
theorem dX8_ofBoard_114 : decode cX8_ofBoard 114 = .ok (.invokevirtual 157, 3) := by decide +kernel
theorem dX8_ofBoard_117 : decode cX8_ofBoard 117 = .ok (.ifCond .ne 7, 3) := by decide +kernel
theorem dX8_ofBoard_120 : decode cX8_ofBoard 120 = .ok (.getstatic 119, 3) := by decide +kernel
theorem dX8_ofBoard_123 : decode cX8_ofBoard 123 = .ok (.areturn, 1) := by decide +kernel
theorem dX8_ofBoard_124 : decode cX8_ofBoard 124 = .ok (.aload_n 0, 1) := by decide +kernel
theorem dX8_ofBoard_125 : decode cX8_ofBoard 125 = .ok (.getfield 147, 3) := by decide +kernel
theorem dX8_ofBoard_128 : decode cX8_ofBoard 128 = .ok (.iload_n 1, 1) := by decide +kernel
theorem dX8_ofBoard_129 : decode cX8_ofBoard 129 = .ok (.aaload, 1) := by decide +kernel
theorem dX8_ofBoard_130 : decode cX8_ofBoard 130 = .ok (.getfield 160, 3) := by decide +kernel
theorem dX8_ofBoard_133 : decode cX8_ofBoard 133 = .ok (.bipush 6, 2) := by decide +kernel
theorem dX8_ofBoard_135 : decode cX8_ofBoard 135 = .ok (.if_icmp .ge 9, 3) := by decide +kernel
theorem dX8_ofBoard_138 : decode cX8_ofBoard 138 = .ok (.getstatic 27, 3) := by decide +kernel
theorem dX8_ofBoard_141 : decode cX8_ofBoard 141 = .ok (.goto 6, 3) := by decide +kernel
theorem dX8_ofBoard_144 : decode cX8_ofBoard 144 = .ok (.getstatic 56, 3) := by decide +kernel
theorem dX8_ofBoard_147 : decode cX8_ofBoard 147 = .ok (.areturn, 1) := by decide +kernel
theorem dX8_ofLeave_0 : decode cX8_ofLeave 0 = .ok (.aload_n 0, 1) := by decide +kernel
theorem dX8_ofLeave_1 : decode cX8_ofLeave 1 = .ok (.iload_n 1, 1) := by decide +kernel
theorem dX8_ofLeave_2 : decode cX8_ofLeave 2 = .ok (.invokevirtual 141, 3) := by decide +kernel
theorem dX8_ofLeave_5 : decode cX8_ofLeave 5 = .ok (.ifCond .ne 7, 3) := by decide +kernel
theorem dX8_ofLeave_8 : decode cX8_ofLeave 8 = .ok (.getstatic 81, 3) := by decide +kernel
theorem dX8_ofLeave_11 : decode cX8_ofLeave 11 = .ok (.areturn, 1) := by decide +kernel
theorem dX8_ofLeave_12 : decode cX8_ofLeave 12 = .ok (.aload_n 0, 1) := by decide +kernel
theorem dX8_ofLeave_13 : decode cX8_ofLeave 13 = .ok (.getfield 147, 3) := by decide +kernel
theorem dX8_ofLeave_16 : decode cX8_ofLeave 16 = .ok (.iload_n 1, 1) := by decide +kernel
theorem dX8_ofLeave_17 : decode cX8_ofLeave 17 = .ok (.aaload, 1) := by decide +kernel
theorem dX8_ofLeave_18 : decode cX8_ofLeave 18 = .ok (.getfield 160, 3) := by decide +kernel
theorem dX8_ofLeave_21 : decode cX8_ofLeave 21 = .ok (.ifCond .eq 15, 3) := by decide +kernel
theorem dX8_ofLeave_24 : decode cX8_ofLeave 24 = .ok (.aload_n 0, 1) := by decide +kernel
theorem dX8_ofLeave_25 : decode cX8_ofLeave 25 = .ok (.getfield 147, 3) := by decide +kernel
theorem dX8_ofLeave_28 : decode cX8_ofLeave 28 = .ok (.iload_n 1, 1) := by decide +kernel
theorem dX8_ofLeave_29 : decode cX8_ofLeave 29 = .ok (.aaload, 1) := by decide +kernel
theorem dX8_ofLeave_30 : decode cX8_ofLeave 30 = .ok (.getfield 151, 3) := by decide +kernel
theorem dX8_ofLeave_33 : decode cX8_ofLeave 33 = .ok (.ifCond .eq 9, 3) := by decide +kernel
theorem dX8_ofLeave_36 : decode cX8_ofLeave 36 = .ok (.getstatic 119, 3) := by decide +kernel
theorem dX8_ofLeave_39 : decode cX8_ofLeave 39 = .ok (.goto 6, 3) := by decide +kernel
theorem dX8_ofLeave_42 : decode cX8_ofLeave 42 = .ok (.getstatic 27, 3) := by decide +kernel
theorem dX8_ofLeave_45 : decode cX8_ofLeave 45 = .ok (.areturn, 1) := by decide +kernel
theorem dX8_ofJump_0 : decode cX8_ofJump 0 = .ok (.aload_n 0, 1) := by decide +kernel
theorem dX8_ofJump_1 : decode cX8_ofJump 1 = .ok (.iload_n 1, 1) := by decide +kernel
theorem dX8_ofJump_2 : decode cX8_ofJump 2 = .ok (.invokestatic 62, 3) := by decide +kernel
theorem dX8_ofJump_5 : decode cX8_ofJump 5 = .ok (.astore_n 2, 1) := by decide +kernel
theorem dX8_ofJump_6 : decode cX8_ofJump 6 = .ok (.aload_n 2, 1) := by decide +kernel
theorem dX8_ofJump_7 : decode cX8_ofJump 7 = .ok (.getstatic 27, 3) := by decide +kernel
theorem dX8_ofJump_10 : decode cX8_ofJump 10 = .ok (.if_acmp .eq 5, 3) := by decide +kernel
theorem dX8_ofJump_13 : decode cX8_ofJump 13 = .ok (.aload_n 2, 1) := by decide +kernel
theorem dX8_ofJump_14 : decode cX8_ofJump 14 = .ok (.areturn, 1) := by decide +kernel
theorem dX8_ofJump_15 : decode cX8_ofJump 15 = .ok (.aload_n 0, 1) := by decide +kernel
theorem dX8_ofJump_16 : decode cX8_ofJump 16 = .ok (.getfield 147, 3) := by decide +kernel
theorem dX8_ofJump_19 : decode cX8_ofJump 19 = .ok (.iload_n 1, 1) := by decide +kernel
theorem dX8_ofJump_20 : decode cX8_ofJump 20 = .ok (.aaload, 1) := by decide +kernel
theorem dX8_ofJump_21 : decode cX8_ofJump 21 = .ok (.astore_n 3, 1) := by decide +kernel
theorem dX8_ofJump_22 : decode cX8_ofJump 22 = .ok (.iconst 0, 1) := by decide +kernel
theorem dX8_ofJump_23 : decode cX8_ofJump 23 = .ok (.istore 4, 2) := by decide +kernel
theorem dX8_ofJump_25 : decode cX8_ofJump 25 = .ok (.iload 4, 2) := by decide +kernel
theorem dX8_ofJump_27 : decode cX8_ofJump 27 = .ok (.aload_n 3, 1) := by decide +kernel
theorem dX8_ofJump_28 : decode cX8_ofJump 28 = .ok (.getfield 160, 3) := by decide +kernel
theorem dX8_ofJump_31 : decode cX8_ofJump 31 = .ok (.if_icmp .ge 48, 3) := by decide +kernel
theorem dX8_ofJump_34 : decode cX8_ofJump 34 = .ok (.iload 4, 2) := by decide +kernel
theorem dX8_ofJump_36 : decode cX8_ofJump 36 = .ok (.bipush 6, 2) := by decide +kernel
theorem dX8_ofJump_38 : decode cX8_ofJump 38 = .ok (.if_icmp .ge 41, 3) := by decide +kernel
theorem dX8_ofJump_41 : decode cX8_ofJump 41 = .ok (.aload_n 0, 1) := by decide +kernel
theorem dX8_ofJump_42 : decode cX8_ofJump 42 = .ok (.aload_n 3, 1) := by decide +kernel
theorem dX8_ofJump_43 : decode cX8_ofJump 43 = .ok (.getfield 163, 3) := by decide +kernel
theorem dX8_ofJump_46 : decode cX8_ofJump 46 = .ok (.iload 4, 2) := by decide +kernel
theorem dX8_ofJump_48 : decode cX8_ofJump 48 = .ok (.iaload, 1) := by decide +kernel
theorem dX8_ofJump_49 : decode cX8_ofJump 49 = .ok (.invokevirtual 157, 3) := by decide +kernel
theorem dX8_ofJump_52 : decode cX8_ofJump 52 = .ok (.ifCond .eq 17, 3) := by decide +kernel
theorem dX8_ofJump_55 : decode cX8_ofJump 55 = .ok (.aload_n 0, 1) := by decide +kernel
theorem dX8_ofJump_56 : decode cX8_ofJump 56 = .ok (.aload_n 3, 1) := by decide +kernel
theorem dX8_ofJump_57 : decode cX8_ofJump 57 = .ok (.getfield 166, 3) := by decide +kernel
theorem dX8_ofJump_60 : decode cX8_ofJump 60 = .ok (.iload 4, 2) := by decide +kernel
theorem dX8_ofJump_62 : decode cX8_ofJump 62 = .ok (.iaload, 1) := by decide +kernel
theorem dX8_ofJump_63 : decode cX8_ofJump 63 = .ok (.invokevirtual 157, 3) := by decide +kernel
theorem dX8_ofJump_66 : decode cX8_ofJump 66 = .ok (.ifCond .ne 7, 3) := by decide +kernel
theorem dX8_ofJump_69 : decode cX8_ofJump 69 = .ok (.getstatic 119, 3) := by decide +kernel
theorem dX8_ofJump_72 : decode cX8_ofJump 72 = .ok (.areturn, 1) := by decide +kernel
theorem dX8_ofJump_73 : decode cX8_ofJump 73 = .ok (.iinc 4 1, 3) := by decide +kernel
theorem dX8_ofJump_76 : decode cX8_ofJump 76 = .ok (.goto (-51), 3) := by decide +kernel
theorem dX8_ofJump_79 : decode cX8_ofJump 79 = .ok (.getstatic 27, 3) := by decide +kernel
theorem dX8_ofJump_82 : decode cX8_ofJump 82 = .ok (.areturn, 1) := by decide +kernel
theorem dX8_ofFind_0 : decode cX8_ofFind 0 = .ok (.aload_n 0, 1) := by decide +kernel
theorem dX8_ofFind_1 : decode cX8_ofFind 1 = .ok (.iload_n 1, 1) := by decide +kernel
theorem dX8_ofFind_2 : decode cX8_ofFind 2 = .ok (.invokevirtual 106, 3) := by decide +kernel
theorem dX8_ofFind_5 : decode cX8_ofFind 5 = .ok (.ifCond .ne 7, 3) := by decide +kernel
theorem dX8_ofFind_8 : decode cX8_ofFind 8 = .ok (.getstatic 81, 3) := by decide +kernel
theorem dX8_ofFind_11 : decode cX8_ofFind 11 = .ok (.areturn, 1) := by decide +kernel
theorem dX8_ofFind_12 : decode cX8_ofFind 12 = .ok (.aload_n 0, 1) := by decide +kernel
theorem dX8_ofFind_13 : decode cX8_ofFind 13 = .ok (.getfield 169, 3) := by decide +kernel
theorem dX8_ofFind_16 : decode cX8_ofFind 16 = .ok (.bipush 12, 2) := by decide +kernel
theorem dX8_ofFind_18 : decode cX8_ofFind 18 = .ok (.if_icmp .ge 9, 3) := by decide +kernel
theorem dX8_ofFind_21 : decode cX8_ofFind 21 = .ok (.getstatic 27, 3) := by decide +kernel
theorem dX8_ofFind_24 : decode cX8_ofFind 24 = .ok (.goto 6, 3) := by decide +kernel
theorem dX8_ofFind_27 : decode cX8_ofFind 27 = .ok (.getstatic 56, 3) := by decide +kernel
theorem dX8_ofFind_30 : decode cX8_ofFind 30 = .ok (.areturn, 1) := by decide +kernel
theorem dX8_ofWiden_0 : decode cX8_ofWiden 0 = .ok (.aload_n 0, 1) := by decide +kernel
theorem dX8_ofWiden_1 : decode cX8_ofWiden 1 = .ok (.iload_n 1, 1) := by decide +kernel
theorem dX8_ofWiden_2 : decode cX8_ofWiden 2 = .ok (.invokevirtual 77, 3) := by decide +kernel
theorem dX8_ofWiden_5 : decode cX8_ofWiden 5 = .ok (.ifCond .ne 7, 3) := by decide +kernel
theorem dX8_ofWiden_8 : decode cX8_ofWiden 8 = .ok (.getstatic 81, 3) := by decide +kernel
theorem dX8_ofWiden_11 : decode cX8_ofWiden 11 = .ok (.areturn, 1) := by decide +kernel
theorem dX8_ofWiden_12 : decode cX8_ofWiden 12 = .ok (.aload_n 0, 1) := by decide +kernel
theorem dX8_ofWiden_13 : decode cX8_ofWiden 13 = .ok (.getfield 172, 3) := by decide +kernel
theorem dX8_ofWiden_16 : decode cX8_ofWiden 16 = .ok (.iload_n 1, 1) := by decide +kernel
theorem dX8_ofWiden_17 : decode cX8_ofWiden 17 = .ok (.aaload, 1) := by decide +kernel
theorem dX8_ofWiden_18 : decode cX8_ofWiden 18 = .ok (.astore_n 2, 1) := by decide +kernel
theorem dX8_ofWiden_19 : decode cX8_ofWiden 19 = .ok (.aload_n 2, 1) := by decide +kernel
theorem dX8_ofWiden_20 : decode cX8_ofWiden 20 = .ok (.getfield 176, 3) := by decide +kernel
theorem dX8_ofWiden_23 : decode cX8_ofWiden 23 = .ok (.ifCond .ne 20, 3) := by decide +kernel
theorem dX8_ofWiden_26 : decode cX8_ofWiden 26 = .ok (.aload_n 2, 1) := by decide +kernel
theorem dX8_ofWiden_27 : decode cX8_ofWiden 27 = .ok (.getfield 181, 3) := by decide +kernel
theorem dX8_ofWiden_30 : decode cX8_ofWiden 30 = .ok (.bipush 45, 2) := by decide +kernel
theorem dX8_ofWiden_32 : decode cX8_ofWiden 32 = .ok (.if_icmp .ne 11, 3) := by decide +kernel
theorem dX8_ofWiden_35 : decode cX8_ofWiden 35 = .ok (.aload_n 2, 1) := by decide +kernel
theorem dX8_ofWiden_36 : decode cX8_ofWiden 36 = .ok (.getfield 184, 3) := by decide +kernel
theorem dX8_ofWiden_39 : decode cX8_ofWiden 39 = .ok (.iconst 4, 1) := by decide +kernel
theorem dX8_ofWiden_40 : decode cX8_ofWiden 40 = .ok (.if_icmp .lt 7, 3) := by decide +kernel
theorem dX8_ofWiden_43 : decode cX8_ofWiden 43 = .ok (.iconst 1, 1) := by decide +kernel
theorem dX8_ofWiden_44 : decode cX8_ofWiden 44 = .ok (.goto 4, 3) := by decide +kernel
theorem dX8_ofWiden_47 : decode cX8_ofWiden 47 = .ok (.iconst 0, 1) := by decide +kernel
theorem dX8_ofWiden_48 : decode cX8_ofWiden 48 = .ok (.istore_n 3, 1) := by decide +kernel
theorem dX8_ofWiden_49 : decode cX8_ofWiden 49 = .ok (.iload_n 3, 1) := by decide +kernel
theorem dX8_ofWiden_50 : decode cX8_ofWiden 50 = .ok (.ifCond .eq 9, 3) := by decide +kernel
theorem dX8_ofWiden_53 : decode cX8_ofWiden 53 = .ok (.getstatic 119, 3) := by decide +kernel
theorem dX8_ofWiden_56 : decode cX8_ofWiden 56 = .ok (.goto 6, 3) := by decide +kernel
theorem dX8_ofWiden_59 : decode cX8_ofWiden 59 = .ok (.getstatic 27, 3) := by decide +kernel
theorem dX8_ofWiden_62 : decode cX8_ofWiden 62 = .ok (.areturn, 1) := by decide +kernel
theorem dX8_ofTellCause_0 : decode cX8_ofTellCause 0 = .ok (.aload_n 0, 1) := by decide +kernel
theorem dX8_ofTellCause_1 : decode cX8_ofTellCause 1 = .ok (.iload_n 1, 1) := by decide +kernel
theorem dX8_ofTellCause_2 : decode cX8_ofTellCause 2 = .ok (.invokevirtual 77, 3) := by decide +kernel
theorem dX8_ofTellCause_5 : decode cX8_ofTellCause 5 = .ok (.ifCond .ne 7, 3) := by decide +kernel
theorem dX8_ofTellCause_8 : decode cX8_ofTellCause 8 = .ok (.getstatic 81, 3) := by decide +kernel
theorem dX8_ofTellCause_11 : decode cX8_ofTellCause 11 = .ok (.areturn, 1) := by decide +kernel
theorem dX8_ofTellCause_12 : decode cX8_ofTellCause 12 = .ok (.iload_n 2, 1) := by decide +kernel
theorem dX8_ofTellCause_13 : decode cX8_ofTellCause 13 = .ok (.bipush 104, 2) := by decide +kernel
theorem dX8_ofTellCause_15 : decode cX8_ofTellCause 15 = .ok (.if_icmp .eq 9, 3) := by decide +kernel
theorem dX8_ofTellCause_18 : decode cX8_ofTellCause 18 = .ok (.iload_n 2, 1) := by decide +kernel
theorem dX8_ofTellCause_19 : decode cX8_ofTellCause 19 = .ok (.bipush 114, 2) := by decide +kernel
theorem dX8_ofTellCause_21 : decode cX8_ofTellCause 21 = .ok (.if_icmp .ne 7, 3) := by decide +kernel
theorem dX8_ofTellCause_24 : decode cX8_ofTellCause 24 = .ok (.iconst 1, 1) := by decide +kernel
theorem dX8_ofTellCause_25 : decode cX8_ofTellCause 25 = .ok (.goto 4, 3) := by decide +kernel
theorem dX8_ofTellCause_28 : decode cX8_ofTellCause 28 = .ok (.iconst 0, 1) := by decide +kernel
theorem dX8_ofTellCause_29 : decode cX8_ofTellCause 29 = .ok (.istore_n 3, 1) := by decide +kernel
theorem dX8_ofTellCause_30 : decode cX8_ofTellCause 30 = .ok (.iload_n 3, 1) := by decide +kernel
theorem dX8_ofTellCause_31 : decode cX8_ofTellCause 31 = .ok (.ifCond .ne 25, 3) := by decide +kernel
theorem dX8_ofTellCause_34 : decode cX8_ofTellCause 34 = .ok (.iload_n 2, 1) := by decide +kernel
theorem dX8_ofTellCause_35 : decode cX8_ofTellCause 35 = .ok (.bipush 108, 2) := by decide +kernel
theorem dX8_ofTellCause_37 : decode cX8_ofTellCause 37 = .ok (.if_icmp .eq 19, 3) := by decide +kernel
theorem dX8_ofTellCause_40 : decode cX8_ofTellCause 40 = .ok (.iload_n 2, 1) := by decide +kernel
theorem dX8_ofTellCause_41 : decode cX8_ofTellCause 41 = .ok (.bipush 99, 2) := by decide +kernel
theorem dX8_ofTellCause_43 : decode cX8_ofTellCause 43 = .ok (.if_icmp .eq 13, 3) := by decide +kernel
theorem dX8_ofTellCause_46 : decode cX8_ofTellCause 46 = .ok (.iload_n 2, 1) := by decide +kernel
theorem dX8_ofTellCause_47 : decode cX8_ofTellCause 47 = .ok (.bipush 115, 2) := by decide +kernel
theorem dX8_ofTellCause_49 : decode cX8_ofTellCause 49 = .ok (.if_icmp .eq 7, 3) := by decide +kernel
theorem dX8_ofTellCause_52 : decode cX8_ofTellCause 52 = .ok (.getstatic 33, 3) := by decide +kernel
theorem dX8_ofTellCause_55 : decode cX8_ofTellCause 55 = .ok (.areturn, 1) := by decide +kernel
theorem dX8_ofTellCause_56 : decode cX8_ofTellCause 56 = .ok (.aload_n 0, 1) := by decide +kernel
theorem dX8_ofTellCause_57 : decode cX8_ofTellCause 57 = .ok (.getfield 172, 3) := by decide +kernel
theorem dX8_ofTellCause_60 : decode cX8_ofTellCause 60 = .ok (.iload_n 1, 1) := by decide +kernel
theorem dX8_ofTellCause_61 : decode cX8_ofTellCause 61 = .ok (.aaload, 1) := by decide +kernel
theorem dX8_ofTellCause_62 : decode cX8_ofTellCause 62 = .ok (.astore 4, 2) := by decide +kernel
theorem dX8_ofTellCause_64 : decode cX8_ofTellCause 64 = .ok (.aload 4, 2) := by decide +kernel
theorem dX8_ofTellCause_66 : decode cX8_ofTellCause 66 = .ok (.getfield 176, 3) := by decide +kernel
theorem dX8_ofTellCause_69 : decode cX8_ofTellCause 69 = .ok (.ifCond .ne 16, 3) := by decide +kernel
theorem dX8_ofTellCause_72 : decode cX8_ofTellCause 72 = .ok (.iload_n 3, 1) := by decide +kernel
theorem dX8_ofTellCause_73 : decode cX8_ofTellCause 73 = .ok (.ifCond .eq 16, 3) := by decide +kernel
theorem dX8_ofTellCause_76 : decode cX8_ofTellCause 76 = .ok (.aload 4, 2) := by decide +kernel
theorem dX8_ofTellCause_78 : decode cX8_ofTellCause 78 = .ok (.getfield 187, 3) := by decide +kernel
theorem dX8_ofTellCause_81 : decode cX8_ofTellCause 81 = .ok (.iconst (-1), 1) := by decide +kernel
theorem dX8_ofTellCause_82 : decode cX8_ofTellCause 82 = .ok (.if_icmp .ne 7, 3) := by decide +kernel
theorem dX8_ofTellCause_85 : decode cX8_ofTellCause 85 = .ok (.getstatic 119, 3) := by decide +kernel
theorem dX8_ofTellCause_88 : decode cX8_ofTellCause 88 = .ok (.areturn, 1) := by decide +kernel
theorem dX8_ofTellCause_89 : decode cX8_ofTellCause 89 = .ok (.getstatic 27, 3) := by decide +kernel
theorem dX8_ofTellCause_92 : decode cX8_ofTellCause 92 = .ok (.areturn, 1) := by decide +kernel
theorem dX8_ofRepair_0 : decode cX8_ofRepair 0 = .ok (.aload_n 0, 1) := by decide +kernel
theorem dX8_ofRepair_1 : decode cX8_ofRepair 1 = .ok (.iload_n 1, 1) := by decide +kernel
theorem dX8_ofRepair_2 : decode cX8_ofRepair 2 = .ok (.invokevirtual 106, 3) := by decide +kernel
theorem dX8_ofRepair_5 : decode cX8_ofRepair 5 = .ok (.ifCond .eq 11, 3) := by decide +kernel
theorem dX8_ofRepair_8 : decode cX8_ofRepair 8 = .ok (.aload_n 0, 1) := by decide +kernel
theorem dX8_ofRepair_9 : decode cX8_ofRepair 9 = .ok (.iload_n 2, 1) := by decide +kernel
theorem dX8_ofRepair_10 : decode cX8_ofRepair 10 = .ok (.invokevirtual 97, 3) := by decide +kernel
theorem dX8_ofRepair_13 : decode cX8_ofRepair 13 = .ok (.ifCond .ne 7, 3) := by decide +kernel
theorem dX8_ofRepair_16 : decode cX8_ofRepair 16 = .ok (.getstatic 81, 3) := by decide +kernel
theorem dX8_ofRepair_19 : decode cX8_ofRepair 19 = .ok (.areturn, 1) := by decide +kernel
theorem dX8_ofRepair_20 : decode cX8_ofRepair 20 = .ok (.aload_n 0, 1) := by decide +kernel
theorem dX8_ofRepair_21 : decode cX8_ofRepair 21 = .ok (.getfield 109, 3) := by decide +kernel
theorem dX8_ofRepair_24 : decode cX8_ofRepair 24 = .ok (.iload_n 1, 1) := by decide +kernel
theorem dX8_ofRepair_25 : decode cX8_ofRepair 25 = .ok (.aaload, 1) := by decide +kernel
theorem dX8_ofRepair_26 : decode cX8_ofRepair 26 = .ok (.getfield 113, 3) := by decide +kernel
theorem dX8_ofRepair_29 : decode cX8_ofRepair 29 = .ok (.bipush 111, 2) := by decide +kernel
theorem dX8_ofRepair_31 : decode cX8_ofRepair 31 = .ok (.if_icmp .eq 7, 3) := by decide +kernel
theorem dX8_ofRepair_34 : decode cX8_ofRepair 34 = .ok (.getstatic 119, 3) := by decide +kernel
theorem dX8_ofRepair_37 : decode cX8_ofRepair 37 = .ok (.areturn, 1) := by decide +kernel
theorem dX8_ofRepair_38 : decode cX8_ofRepair 38 = .ok (.aload_n 0, 1) := by decide +kernel
theorem dX8_ofRepair_39 : decode cX8_ofRepair 39 = .ok (.getfield 128, 3) := by decide +kernel
theorem dX8_ofRepair_42 : decode cX8_ofRepair 42 = .ok (.iload_n 2, 1) := by decide +kernel
theorem dX8_ofRepair_43 : decode cX8_ofRepair 43 = .ok (.aaload, 1) := by decide +kernel
theorem dX8_ofRepair_44 : decode cX8_ofRepair 44 = .ok (.iconst 5, 1) := by decide +kernel
theorem dX8_ofRepair_45 : decode cX8_ofRepair 45 = .ok (.aload_n 0, 1) := by decide +kernel
theorem dX8_ofRepair_46 : decode cX8_ofRepair 46 = .ok (.getfield 103, 3) := by decide +kernel
theorem dX8_ofRepair_49 : decode cX8_ofRepair 49 = .ok (.invokevirtual 132, 3) := by decide +kernel
theorem dX8_ofRepair_52 : decode cX8_ofRepair 52 = .ok (.ifCond .eq 9, 3) := by decide +kernel
theorem dX8_ofRepair_55 : decode cX8_ofRepair 55 = .ok (.getstatic 27, 3) := by decide +kernel
theorem dX8_ofRepair_58 : decode cX8_ofRepair 58 = .ok (.goto 6, 3) := by decide +kernel
theorem dX8_ofRepair_61 : decode cX8_ofRepair 61 = .ok (.getstatic 33, 3) := by decide +kernel
theorem dX8_ofRepair_64 : decode cX8_ofRepair 64 = .ok (.areturn, 1) := by decide +kernel
theorem dX8_ofHire_0 : decode cX8_ofHire 0 = .ok (.aload_n 0, 1) := by decide +kernel
theorem dX8_ofHire_1 : decode cX8_ofHire 1 = .ok (.iload_n 1, 1) := by decide +kernel
theorem dX8_ofHire_2 : decode cX8_ofHire 2 = .ok (.invokevirtual 106, 3) := by decide +kernel
theorem dX8_ofHire_5 : decode cX8_ofHire 5 = .ok (.ifCond .ne 7, 3) := by decide +kernel
theorem dX8_ofHire_8 : decode cX8_ofHire 8 = .ok (.getstatic 81, 3) := by decide +kernel
theorem dX8_ofHire_11 : decode cX8_ofHire 11 = .ok (.areturn, 1) := by decide +kernel
theorem dX8_ofHire_12 : decode cX8_ofHire 12 = .ok (.iload_n 2, 1) := by decide +kernel
theorem dX8_ofHire_13 : decode cX8_ofHire 13 = .ok (.iconst 1, 1) := by decide +kernel
theorem dX8_ofHire_14 : decode cX8_ofHire 14 = .ok (.bipush 30, 2) := by decide +kernel
theorem dX8_ofHire_16 : decode cX8_ofHire 16 = .ok (.invokestatic 23, 3) := by decide +kernel
theorem dX8_ofHire_19 : decode cX8_ofHire 19 = .ok (.ifCond .eq 14, 3) := by decide +kernel
theorem dX8_ofHire_22 : decode cX8_ofHire 22 = .ok (.iload_n 3, 1) := by decide +kernel
theorem dX8_ofHire_23 : decode cX8_ofHire 23 = .ok (.iconst 0, 1) := by decide +kernel
theorem dX8_ofHire_24 : decode cX8_ofHire 24 = .ok (.sipush 999, 3) := by decide +kernel
theorem dX8_ofHire_27 : decode cX8_ofHire 27 = .ok (.invokestatic 23, 3) := by decide +kernel
theorem dX8_ofHire_30 : decode cX8_ofHire 30 = .ok (.ifCond .ne 7, 3) := by decide +kernel
theorem dX8_ofHire_33 : decode cX8_ofHire 33 = .ok (.getstatic 33, 3) := by decide +kernel
theorem dX8_ofHire_36 : decode cX8_ofHire 36 = .ok (.areturn, 1) := by decide +kernel
theorem dX8_ofHire_37 : decode cX8_ofHire 37 = .ok (.aload_n 0, 1) := by decide +kernel
theorem dX8_ofHire_38 : decode cX8_ofHire 38 = .ok (.getfield 109, 3) := by decide +kernel
theorem dX8_ofHire_41 : decode cX8_ofHire 41 = .ok (.iload_n 1, 1) := by decide +kernel
theorem dX8_ofHire_42 : decode cX8_ofHire 42 = .ok (.aaload, 1) := by decide +kernel
theorem dX8_ofHire_43 : decode cX8_ofHire 43 = .ok (.getfield 113, 3) := by decide +kernel
theorem dX8_ofHire_46 : decode cX8_ofHire 46 = .ok (.bipush 107, 2) := by decide +kernel
theorem dX8_ofHire_48 : decode cX8_ofHire 48 = .ok (.if_icmp .ne 15, 3) := by decide +kernel
theorem dX8_ofHire_51 : decode cX8_ofHire 51 = .ok (.aload_n 0, 1) := by decide +kernel
theorem dX8_ofHire_52 : decode cX8_ofHire 52 = .ok (.iload_n 1, 1) := by decide +kernel
theorem dX8_ofHire_53 : decode cX8_ofHire 53 = .ok (.invokevirtual 157, 3) := by decide +kernel
theorem dX8_ofHire_56 : decode cX8_ofHire 56 = .ok (.ifCond .eq 7, 3) := by decide +kernel
theorem dX8_ofHire_59 : decode cX8_ofHire 59 = .ok (.iconst 1, 1) := by decide +kernel
theorem dX8_ofHire_60 : decode cX8_ofHire 60 = .ok (.goto 4, 3) := by decide +kernel
theorem dX8_ofHire_63 : decode cX8_ofHire 63 = .ok (.iconst 0, 1) := by decide +kernel
theorem dX8_ofHire_64 : decode cX8_ofHire 64 = .ok (.istore 4, 2) := by decide +kernel
theorem dX8_ofHire_66 : decode cX8_ofHire 66 = .ok (.iload 4, 2) := by decide +kernel
theorem dX8_ofHire_68 : decode cX8_ofHire 68 = .ok (.ifCond .eq 9, 3) := by decide +kernel
theorem dX8_ofHire_71 : decode cX8_ofHire 71 = .ok (.getstatic 27, 3) := by decide +kernel
theorem dX8_ofHire_74 : decode cX8_ofHire 74 = .ok (.goto 6, 3) := by decide +kernel
theorem dX8_ofHire_77 : decode cX8_ofHire 77 = .ok (.getstatic 119, 3) := by decide +kernel
theorem dX8_ofHire_80 : decode cX8_ofHire 80 = .ok (.areturn, 1) := by decide +kernel
theorem dX9_init_0 : decode cX9_init 0 = .ok (.aload_n 0, 1) := by decide +kernel
theorem dX9_init_1 : decode cX9_init 1 = .ok (.invokespecial 1, 3) := by decide +kernel
theorem dX9_init_4 : decode cX9_init 4 = .ok (.aload_n 0, 1) := by decide +kernel
theorem dX9_init_5 : decode cX9_init 5 = .ok (.new 7, 3) := by decide +kernel
theorem dX9_init_8 : decode cX9_init 8 = .ok (.dup, 1) := by decide +kernel
theorem dX9_init_9 : decode cX9_init 9 = .ok (.invokespecial 9, 3) := by decide +kernel
theorem dX9_init_12 : decode cX9_init 12 = .ok (.putfield 10, 3) := by decide +kernel
theorem dX9_init_15 : decode cX9_init 15 = .ok (.aload_n 0, 1) := by decide +kernel
theorem dX9_init_16 : decode cX9_init 16 = .ok (.new 7, 3) := by decide +kernel
theorem dX9_init_19 : decode cX9_init 19 = .ok (.dup, 1) := by decide +kernel
theorem dX9_init_20 : decode cX9_init 20 = .ok (.invokespecial 9, 3) := by decide +kernel
theorem dX9_init_23 : decode cX9_init 23 = .ok (.putfield 16, 3) := by decide +kernel
theorem dX9_init_26 : decode cX9_init 26 = .ok (.aload_n 0, 1) := by decide +kernel
theorem dX9_init_27 : decode cX9_init 27 = .ok (.new 19, 3) := by decide +kernel
theorem dX9_init_30 : decode cX9_init 30 = .ok (.dup, 1) := by decide +kernel
theorem dX9_init_31 : decode cX9_init 31 = .ok (.invokespecial 21, 3) := by decide +kernel
theorem dX9_init_34 : decode cX9_init 34 = .ok (.putfield 22, 3) := by decide +kernel
theorem dX9_init_37 : decode cX9_init 37 = .ok (.return_, 1) := by decide +kernel
theorem dX9_addRigger_0 : decode cX9_addRigger 0 = .ok (.aload_n 0, 1) := by decide +kernel
theorem dX9_addRigger_1 : decode cX9_addRigger 1 = .ok (.iconst 0, 1) := by decide +kernel
theorem dX9_addRigger_2 : decode cX9_addRigger 2 = .ok (.iload_n 1, 1) := by decide +kernel
theorem dX9_addRigger_3 : decode cX9_addRigger 3 = .ok (.iload_n 2, 1) := by decide +kernel
theorem dX9_addRigger_4 : decode cX9_addRigger 4 = .ok (.iconst 0, 1) := by decide +kernel
theorem dX9_addRigger_5 : decode cX9_addRigger 5 = .ok (.iconst 0, 1) := by decide +kernel
theorem dX9_addRigger_6 : decode cX9_addRigger 6 = .ok (.invokevirtual 26, 3) := by decide +kernel
theorem dX9_addRigger_9 : decode cX9_addRigger 9 = .ok (.ireturn, 1) := by decide +kernel
theorem dX9_addCanopy_0 : decode cX9_addCanopy 0 = .ok (.aload_n 0, 1) := by decide +kernel
theorem dX9_addCanopy_1 : decode cX9_addCanopy 1 = .ok (.iconst 2, 1) := by decide +kernel
theorem dX9_addCanopy_2 : decode cX9_addCanopy 2 = .ok (.iload_n 1, 1) := by decide +kernel
theorem dX9_addCanopy_3 : decode cX9_addCanopy 3 = .ok (.iload_n 2, 1) := by decide +kernel
theorem dX9_addCanopy_4 : decode cX9_addCanopy 4 = .ok (.iload_n 3, 1) := by decide +kernel
theorem dX9_addCanopy_5 : decode cX9_addCanopy 5 = .ok (.iload 4, 2) := by decide +kernel
theorem dX9_addCanopy_7 : decode cX9_addCanopy 7 = .ok (.invokevirtual 26, 3) := by decide +kernel
theorem dX9_addCanopy_10 : decode cX9_addCanopy 10 = .ok (.ireturn, 1) := by decide +kernel
theorem dX9_setPeriod_0 : decode cX9_setPeriod 0 = .ok (.aload_n 0, 1) := by decide +kernel
theorem dX9_setPeriod_1 : decode cX9_setPeriod 1 = .ok (.iconst 3, 1) := by decide +kernel
theorem dX9_setPeriod_2 : decode cX9_setPeriod 2 = .ok (.iload_n 1, 1) := by decide +kernel
theorem dX9_setPeriod_3 : decode cX9_setPeriod 3 = .ok (.iconst 0, 1) := by decide +kernel
theorem dX9_setPeriod_4 : decode cX9_setPeriod 4 = .ok (.iconst 0, 1) := by decide +kernel
theorem dX9_setPeriod_5 : decode cX9_setPeriod 5 = .ok (.iconst 0, 1) := by decide +kernel
theorem dX9_setPeriod_6 : decode cX9_setPeriod 6 = .ok (.invokevirtual 26, 3) := by decide +kernel
theorem dX9_setPeriod_9 : decode cX9_setPeriod 9 = .ok (.ireturn, 1) := by decide +kernel
theorem dX9_goOn_0 : decode cX9_goOn 0 = .ok (.aload_n 0, 1) := by decide +kernel
theorem dX9_goOn_1 : decode cX9_goOn 1 = .ok (.iconst 4, 1) := by decide +kernel
theorem dX9_goOn_2 : decode cX9_goOn 2 = .ok (.iload_n 1, 1) := by decide +kernel
theorem dX9_goOn_3 : decode cX9_goOn 3 = .ok (.iconst 0, 1) := by decide +kernel
theorem dX9_goOn_4 : decode cX9_goOn 4 = .ok (.iconst 0, 1) := by decide +kernel
theorem dX9_goOn_5 : decode cX9_goOn 5 = .ok (.iconst 0, 1) := by decide +kernel
theorem dX9_goOn_6 : decode cX9_goOn 6 = .ok (.invokevirtual 26, 3) := by decide +kernel
theorem dX9_goOn_9 : decode cX9_goOn 9 = .ok (.ireturn, 1) := by decide +kernel
theorem dX9_hang_0 : decode cX9_hang 0 = .ok (.aload_n 0, 1) := by decide +kernel
theorem dX9_hang_1 : decode cX9_hang 1 = .ok (.iconst 5, 1) := by decide +kernel
theorem dX9_hang_2 : decode cX9_hang 2 = .ok (.iload_n 1, 1) := by decide +kernel
theorem dX9_hang_3 : decode cX9_hang 3 = .ok (.iload_n 2, 1) := by decide +kernel
theorem dX9_hang_4 : decode cX9_hang 4 = .ok (.iconst 0, 1) := by decide +kernel
theorem dX9_hang_5 : decode cX9_hang 5 = .ok (.iconst 0, 1) := by decide +kernel
theorem dX9_hang_6 : decode cX9_hang 6 = .ok (.invokevirtual 26, 3) := by decide +kernel
theorem dX9_hang_9 : decode cX9_hang 9 = .ok (.ireturn, 1) := by decide +kernel
theorem dX9_step_0 : decode cX9_step 0 = .ok (.aload_n 0, 1) := by decide +kernel
theorem dX9_step_1 : decode cX9_step 1 = .ok (.bipush 6, 2) := by decide +kernel
theorem dX9_step_3 : decode cX9_step 3 = .ok (.iload_n 1, 1) := by decide +kernel
theorem dX9_step_4 : decode cX9_step 4 = .ok (.iload_n 2, 1) := by decide +kernel
theorem dX9_step_5 : decode cX9_step 5 = .ok (.iconst 0, 1) := by decide +kernel
theorem dX9_step_6 : decode cX9_step 6 = .ok (.iconst 0, 1) := by decide +kernel
theorem dX9_step_7 : decode cX9_step 7 = .ok (.invokevirtual 26, 3) := by decide +kernel
theorem dX9_step_10 : decode cX9_step 10 = .ok (.ireturn, 1) := by decide +kernel
theorem dX9_breakOff_0 : decode cX9_breakOff 0 = .ok (.aload_n 0, 1) := by decide +kernel
theorem dX9_breakOff_1 : decode cX9_breakOff 1 = .ok (.bipush 7, 2) := by decide +kernel
theorem dX9_breakOff_3 : decode cX9_breakOff 3 = .ok (.iload_n 1, 1) := by decide +kernel
theorem dX9_breakOff_4 : decode cX9_breakOff 4 = .ok (.iconst 0, 1) := by decide +kernel
theorem dX9_breakOff_5 : decode cX9_breakOff 5 = .ok (.iconst 0, 1) := by decide +kernel
theorem dX9_breakOff_6 : decode cX9_breakOff 6 = .ok (.iconst 0, 1) := by decide +kernel
theorem dX9_breakOff_7 : decode cX9_breakOff 7 = .ok (.invokevirtual 26, 3) := by decide +kernel
theorem dX9_breakOff_10 : decode cX9_breakOff 10 = .ok (.ireturn, 1) := by decide +kernel
theorem dX9_load_0 : decode cX9_load 0 = .ok (.aload_n 0, 1) := by decide +kernel
theorem dX9_load_1 : decode cX9_load 1 = .ok (.bipush 8, 2) := by decide +kernel
theorem dX9_load_3 : decode cX9_load 3 = .ok (.iconst 0, 1) := by decide +kernel
theorem dX9_load_4 : decode cX9_load 4 = .ok (.iconst 0, 1) := by decide +kernel
theorem dX9_load_5 : decode cX9_load 5 = .ok (.iconst 0, 1) := by decide +kernel
theorem dX9_load_6 : decode cX9_load 6 = .ok (.iconst 0, 1) := by decide +kernel
theorem dX9_load_7 : decode cX9_load 7 = .ok (.invokevirtual 26, 3) := by decide +kernel
theorem dX9_load_10 : decode cX9_load 10 = .ok (.ireturn, 1) := by decide +kernel
theorem dX9_board_0 : decode cX9_board 0 = .ok (.aload_n 0, 1) := by decide +kernel
theorem dX9_board_1 : decode cX9_board 1 = .ok (.bipush 9, 2) := by decide +kernel
theorem dX9_board_3 : decode cX9_board 3 = .ok (.iload_n 1, 1) := by decide +kernel
theorem dX9_board_4 : decode cX9_board 4 = .ok (.iload_n 2, 1) := by decide +kernel
theorem dX9_board_5 : decode cX9_board 5 = .ok (.iload_n 3, 1) := by decide +kernel
theorem dX9_board_6 : decode cX9_board 6 = .ok (.iconst 0, 1) := by decide +kernel
theorem dX9_board_7 : decode cX9_board 7 = .ok (.invokevirtual 26, 3) := by decide +kernel
theorem dX9_board_10 : decode cX9_board 10 = .ok (.ireturn, 1) := by decide +kernel
theorem dX9_leave_0 : decode cX9_leave 0 = .ok (.aload_n 0, 1) := by decide +kernel
theorem dX9_leave_1 : decode cX9_leave 1 = .ok (.bipush 10, 2) := by decide +kernel
theorem dX9_leave_3 : decode cX9_leave 3 = .ok (.iload_n 1, 1) := by decide +kernel
theorem dX9_leave_4 : decode cX9_leave 4 = .ok (.iconst 0, 1) := by decide +kernel
theorem dX9_leave_5 : decode cX9_leave 5 = .ok (.iconst 0, 1) := by decide +kernel
theorem dX9_leave_6 : decode cX9_leave 6 = .ok (.iconst 0, 1) := by decide +kernel
theorem dX9_leave_7 : decode cX9_leave 7 = .ok (.invokevirtual 26, 3) := by decide +kernel
theorem dX9_leave_10 : decode cX9_leave 10 = .ok (.ireturn, 1) := by decide +kernel
theorem dX9_jump_0 : decode cX9_jump 0 = .ok (.aload_n 0, 1) := by decide +kernel
theorem dX9_jump_1 : decode cX9_jump 1 = .ok (.bipush 11, 2) := by decide +kernel
theorem dX9_jump_3 : decode cX9_jump 3 = .ok (.iload_n 1, 1) := by decide +kernel
theorem dX9_jump_4 : decode cX9_jump 4 = .ok (.iload_n 2, 1) := by decide +kernel
theorem dX9_jump_5 : decode cX9_jump 5 = .ok (.iconst 0, 1) := by decide +kernel
theorem dX9_jump_6 : decode cX9_jump 6 = .ok (.iconst 0, 1) := by decide +kernel
theorem dX9_jump_7 : decode cX9_jump 7 = .ok (.invokevirtual 26, 3) := by decide +kernel
theorem dX9_jump_10 : decode cX9_jump 10 = .ok (.ireturn, 1) := by decide +kernel
theorem dX9_find_0 : decode cX9_find 0 = .ok (.aload_n 0, 1) := by decide +kernel
theorem dX9_find_1 : decode cX9_find 1 = .ok (.bipush 12, 2) := by decide +kernel
theorem dX9_find_3 : decode cX9_find 3 = .ok (.iload_n 1, 1) := by decide +kernel
theorem dX9_find_4 : decode cX9_find 4 = .ok (.iconst 0, 1) := by decide +kernel
theorem dX9_find_5 : decode cX9_find 5 = .ok (.iconst 0, 1) := by decide +kernel
theorem dX9_find_6 : decode cX9_find 6 = .ok (.iconst 0, 1) := by decide +kernel
theorem dX9_find_7 : decode cX9_find 7 = .ok (.invokevirtual 26, 3) := by decide +kernel
theorem dX9_find_10 : decode cX9_find 10 = .ok (.ireturn, 1) := by decide +kernel
theorem dX9_widen_0 : decode cX9_widen 0 = .ok (.aload_n 0, 1) := by decide +kernel
theorem dX9_widen_1 : decode cX9_widen 1 = .ok (.bipush 13, 2) := by decide +kernel
theorem dX9_widen_3 : decode cX9_widen 3 = .ok (.iload_n 1, 1) := by decide +kernel
theorem dX9_widen_4 : decode cX9_widen 4 = .ok (.iconst 0, 1) := by decide +kernel
theorem dX9_widen_5 : decode cX9_widen 5 = .ok (.iconst 0, 1) := by decide +kernel
theorem dX9_widen_6 : decode cX9_widen 6 = .ok (.iconst 0, 1) := by decide +kernel
theorem dX9_widen_7 : decode cX9_widen 7 = .ok (.invokevirtual 26, 3) := by decide +kernel
theorem dX9_widen_10 : decode cX9_widen 10 = .ok (.ireturn, 1) := by decide +kernel
theorem dX9_tellCause_0 : decode cX9_tellCause 0 = .ok (.aload_n 0, 1) := by decide +kernel
theorem dX9_tellCause_1 : decode cX9_tellCause 1 = .ok (.bipush 14, 2) := by decide +kernel
theorem dX9_tellCause_3 : decode cX9_tellCause 3 = .ok (.iload_n 1, 1) := by decide +kernel
theorem dX9_tellCause_4 : decode cX9_tellCause 4 = .ok (.iload_n 2, 1) := by decide +kernel
theorem dX9_tellCause_5 : decode cX9_tellCause 5 = .ok (.iconst 0, 1) := by decide +kernel
theorem dX9_tellCause_6 : decode cX9_tellCause 6 = .ok (.iconst 0, 1) := by decide +kernel
theorem dX9_tellCause_7 : decode cX9_tellCause 7 = .ok (.invokevirtual 26, 3) := by decide +kernel
theorem dX9_tellCause_10 : decode cX9_tellCause 10 = .ok (.i2c, 1) := by decide +kernel
theorem dX9_tellCause_11 : decode cX9_tellCause 11 = .ok (.ireturn, 1) := by decide +kernel
theorem dX9_close_0 : decode cX9_close 0 = .ok (.aload_n 0, 1) := by decide +kernel
theorem dX9_close_1 : decode cX9_close 1 = .ok (.bipush 15, 2) := by decide +kernel
theorem dX9_close_3 : decode cX9_close 3 = .ok (.iload_n 1, 1) := by decide +kernel
theorem dX9_close_4 : decode cX9_close 4 = .ok (.iconst 0, 1) := by decide +kernel
theorem dX9_close_5 : decode cX9_close 5 = .ok (.iconst 0, 1) := by decide +kernel
theorem dX9_close_6 : decode cX9_close 6 = .ok (.iconst 0, 1) := by decide +kernel
theorem dX9_close_7 : decode cX9_close 7 = .ok (.invokevirtual 26, 3) := by decide +kernel
theorem dX9_close_10 : decode cX9_close 10 = .ok (.iconst 1, 1) := by decide +kernel
theorem dX9_close_11 : decode cX9_close 11 = .ok (.if_icmp .ne 7, 3) := by decide +kernel
theorem dX9_close_14 : decode cX9_close 14 = .ok (.iconst 1, 1) := by decide +kernel
theorem dX9_close_15 : decode cX9_close 15 = .ok (.goto 4, 3) := by decide +kernel
theorem dX9_close_18 : decode cX9_close 18 = .ok (.iconst 0, 1) := by decide +kernel
theorem dX9_close_19 : decode cX9_close 19 = .ok (.ireturn, 1) := by decide +kernel
theorem dX9_grounds_0 : decode cX9_grounds 0 = .ok (.aload_n 0, 1) := by decide +kernel
theorem dX9_grounds_1 : decode cX9_grounds 1 = .ok (.getfield 10, 3) := by decide +kernel
theorem dX9_grounds_4 : decode cX9_grounds 4 = .ok (.iload_n 1, 1) := by decide +kernel
theorem dX9_grounds_5 : decode cX9_grounds 5 = .ok (.invokevirtual 30, 3) := by decide +kernel
theorem dX9_grounds_8 : decode cX9_grounds 8 = .ok (.ifCond .ne 13, 3) := by decide +kernel
theorem dX9_grounds_11 : decode cX9_grounds 11 = .ok (.new 34, 3) := by decide +kernel
theorem dX9_grounds_14 : decode cX9_grounds 14 = .ok (.dup, 1) := by decide +kernel
theorem dX9_grounds_15 : decode cX9_grounds 15 = .ok (.ldc 36, 2) := by decide +kernel
theorem dX9_grounds_17 : decode cX9_grounds 17 = .ok (.invokespecial 38, 3) := by decide +kernel
theorem dX9_grounds_20 : decode cX9_grounds 20 = .ok (.athrow, 1) := by decide +kernel
theorem dX9_grounds_21 : decode cX9_grounds 21 = .ok (.aload_n 0, 1) := by decide +kernel
theorem dX9_grounds_22 : decode cX9_grounds 22 = .ok (.getfield 10, 3) := by decide +kernel
theorem dX9_grounds_25 : decode cX9_grounds 25 = .ok (.iload_n 1, 1) := by decide +kernel
theorem dX9_grounds_26 : decode cX9_grounds 26 = .ok (.invokevirtual 41, 3) := by decide +kernel
theorem dX9_grounds_29 : decode cX9_grounds 29 = .ok (.ireturn, 1) := by decide +kernel
theorem dX9_repair_0 : decode cX9_repair 0 = .ok (.aload_n 0, 1) := by decide +kernel
theorem dX9_repair_1 : decode cX9_repair 1 = .ok (.bipush 16, 2) := by decide +kernel
theorem dX9_repair_3 : decode cX9_repair 3 = .ok (.iload_n 1, 1) := by decide +kernel
theorem dX9_repair_4 : decode cX9_repair 4 = .ok (.iload_n 2, 1) := by decide +kernel
theorem dX9_repair_5 : decode cX9_repair 5 = .ok (.iconst 0, 1) := by decide +kernel
theorem dX9_repair_6 : decode cX9_repair 6 = .ok (.iconst 0, 1) := by decide +kernel
theorem dX9_repair_7 : decode cX9_repair 7 = .ok (.invokevirtual 26, 3) := by decide +kernel
theorem dX9_repair_10 : decode cX9_repair 10 = .ok (.ireturn, 1) := by decide +kernel
theorem dX9_drop_0 : decode cX9_drop 0 = .ok (.aload_n 0, 1) := by decide +kernel
theorem dX9_drop_1 : decode cX9_drop 1 = .ok (.bipush 17, 2) := by decide +kernel
theorem dX9_drop_3 : decode cX9_drop 3 = .ok (.iload_n 1, 1) := by decide +kernel
theorem dX9_drop_4 : decode cX9_drop 4 = .ok (.iload_n 2, 1) := by decide +kernel
theorem dX9_drop_5 : decode cX9_drop 5 = .ok (.ifCond .eq 7, 3) := by decide +kernel
theorem dX9_drop_8 : decode cX9_drop 8 = .ok (.iconst 1, 1) := by decide +kernel
theorem dX9_drop_9 : decode cX9_drop 9 = .ok (.goto 4, 3) := by decide +kernel
theorem dX9_drop_12 : decode cX9_drop 12 = .ok (.iconst 0, 1) := by decide +kernel
theorem dX9_drop_13 : decode cX9_drop 13 = .ok (.iconst 0, 1) := by decide +kernel
theorem dX9_drop_14 : decode cX9_drop 14 = .ok (.iconst 0, 1) := by decide +kernel
theorem dX9_drop_15 : decode cX9_drop 15 = .ok (.invokevirtual 26, 3) := by decide +kernel
theorem dX9_drop_18 : decode cX9_drop 18 = .ok (.ireturn, 1) := by decide +kernel
theorem dX9_hire_0 : decode cX9_hire 0 = .ok (.aload_n 0, 1) := by decide +kernel
theorem dX9_hire_1 : decode cX9_hire 1 = .ok (.bipush 18, 2) := by decide +kernel
theorem dX9_hire_3 : decode cX9_hire 3 = .ok (.iload_n 1, 1) := by decide +kernel
theorem dX9_hire_4 : decode cX9_hire 4 = .ok (.iload_n 2, 1) := by decide +kernel
theorem dX9_hire_5 : decode cX9_hire 5 = .ok (.iload_n 3, 1) := by decide +kernel
theorem dX9_hire_6 : decode cX9_hire 6 = .ok (.iconst 0, 1) := by decide +kernel
theorem dX9_hire_7 : decode cX9_hire 7 = .ok (.invokevirtual 26, 3) := by decide +kernel
theorem dX9_hire_10 : decode cX9_hire 10 = .ok (.ireturn, 1) := by decide +kernel
theorem dX9_back_0 : decode cX9_back 0 = .ok (.aload_n 0, 1) := by decide +kernel
theorem dX9_back_1 : decode cX9_back 1 = .ok (.bipush 19, 2) := by decide +kernel
theorem dX9_back_3 : decode cX9_back 3 = .ok (.iload_n 1, 1) := by decide +kernel
theorem dX9_back_4 : decode cX9_back 4 = .ok (.iload_n 2, 1) := by decide +kernel
theorem dX9_back_5 : decode cX9_back 5 = .ok (.ifCond .eq 7, 3) := by decide +kernel
theorem dX9_back_8 : decode cX9_back 8 = .ok (.iconst 1, 1) := by decide +kernel
theorem dX9_back_9 : decode cX9_back 9 = .ok (.goto 4, 3) := by decide +kernel
theorem dX9_back_12 : decode cX9_back 12 = .ok (.iconst 0, 1) := by decide +kernel
theorem dX9_back_13 : decode cX9_back 13 = .ok (.iload_n 3, 1) := by decide +kernel
theorem dX9_back_14 : decode cX9_back 14 = .ok (.ifCond .eq 7, 3) := by decide +kernel
theorem dX9_back_17 : decode cX9_back 17 = .ok (.iconst 1, 1) := by decide +kernel
theorem dX9_back_18 : decode cX9_back 18 = .ok (.goto 4, 3) := by decide +kernel
theorem dX9_back_21 : decode cX9_back 21 = .ok (.iconst 0, 1) := by decide +kernel
theorem dX9_back_22 : decode cX9_back 22 = .ok (.iconst 0, 1) := by decide +kernel
theorem dX9_back_23 : decode cX9_back 23 = .ok (.invokevirtual 26, 3) := by decide +kernel
theorem dX9_back_26 : decode cX9_back 26 = .ok (.ireturn, 1) := by decide +kernel
theorem dX9_stateOf_0 : decode cX9_stateOf 0 = .ok (.aload_n 0, 1) := by decide +kernel
theorem dX9_stateOf_1 : decode cX9_stateOf 1 = .ok (.iload_n 1, 1) := by decide +kernel
theorem dX9_stateOf_2 : decode cX9_stateOf 2 = .ok (.invokevirtual 45, 3) := by decide +kernel
theorem dX9_stateOf_5 : decode cX9_stateOf 5 = .ok (.getfield 49, 3) := by decide +kernel
theorem dX9_stateOf_8 : decode cX9_stateOf 8 = .ok (.ireturn, 1) := by decide +kernel
theorem dX9_isGrounded_0 : decode cX9_isGrounded 0 = .ok (.aload_n 0, 1) := by decide +kernel
theorem dX9_isGrounded_1 : decode cX9_isGrounded 1 = .ok (.iload_n 1, 1) := by decide +kernel
theorem dX9_isGrounded_2 : decode cX9_isGrounded 2 = .ok (.invokevirtual 45, 3) := by decide +kernel
theorem dX9_isGrounded_5 : decode cX9_isGrounded 5 = .ok (.pop, 1) := by decide +kernel
theorem dX9_isGrounded_6 : decode cX9_isGrounded 6 = .ok (.aload_n 0, 1) := by decide +kernel
theorem dX9_isGrounded_7 : decode cX9_isGrounded 7 = .ok (.getfield 10, 3) := by decide +kernel
theorem dX9_isGrounded_10 : decode cX9_isGrounded 10 = .ok (.iload_n 1, 1) := by decide +kernel
theorem dX9_isGrounded_11 : decode cX9_isGrounded 11 = .ok (.invokevirtual 55, 3) := by decide +kernel
theorem dX9_isGrounded_14 : decode cX9_isGrounded 14 = .ok (.ireturn, 1) := by decide +kernel
theorem dX9_isOut_0 : decode cX9_isOut 0 = .ok (.aload_n 0, 1) := by decide +kernel
theorem dX9_isOut_1 : decode cX9_isOut 1 = .ok (.getfield 10, 3) := by decide +kernel
theorem dX9_isOut_4 : decode cX9_isOut 4 = .ok (.aload_n 0, 1) := by decide +kernel
theorem dX9_isOut_5 : decode cX9_isOut 5 = .ok (.iload_n 1, 1) := by decide +kernel
theorem dX9_isOut_6 : decode cX9_isOut 6 = .ok (.invokevirtual 45, 3) := by decide +kernel
theorem dX9_isOut_9 : decode cX9_isOut 9 = .ok (.invokevirtual 58, 3) := by decide +kernel
theorem dX9_isOut_12 : decode cX9_isOut 12 = .ok (.ireturn, 1) := by decide +kernel
theorem dX9_packings_0 : decode cX9_packings 0 = .ok (.aload_n 0, 1) := by decide +kernel
theorem dX9_packings_1 : decode cX9_packings 1 = .ok (.iload_n 1, 1) := by decide +kernel
theorem dX9_packings_2 : decode cX9_packings 2 = .ok (.invokevirtual 45, 3) := by decide +kernel
theorem dX9_packings_5 : decode cX9_packings 5 = .ok (.getfield 62, 3) := by decide +kernel
theorem dX9_packings_8 : decode cX9_packings 8 = .ok (.ireturn, 1) := by decide +kernel
theorem dX9_packingOf_0 : decode cX9_packingOf 0 = .ok (.aload_n 0, 1) := by decide +kernel
theorem dX9_packingOf_1 : decode cX9_packingOf 1 = .ok (.iload_n 1, 1) := by decide +kernel
theorem dX9_packingOf_2 : decode cX9_packingOf 2 = .ok (.invokevirtual 45, 3) := by decide +kernel
theorem dX9_packingOf_5 : decode cX9_packingOf 5 = .ok (.astore 4, 2) := by decide +kernel
theorem dX9_packingOf_7 : decode cX9_packingOf 7 = .ok (.iload_n 2, 1) := by decide +kernel
theorem dX9_packingOf_8 : decode cX9_packingOf 8 = .ok (.ifCond .lt 12, 3) := by decide +kernel
theorem dX9_packingOf_11 : decode cX9_packingOf 11 = .ok (.iload_n 2, 1) := by decide +kernel
theorem dX9_packingOf_12 : decode cX9_packingOf 12 = .ok (.aload 4, 2) := by decide +kernel
theorem dX9_packingOf_14 : decode cX9_packingOf 14 = .ok (.getfield 62, 3) := by decide +kernel
theorem dX9_packingOf_17 : decode cX9_packingOf 17 = .ok (.if_icmp .lt 13, 3) := by decide +kernel
theorem dX9_packingOf_20 : decode cX9_packingOf 20 = .ok (.new 34, 3) := by decide +kernel
theorem dX9_packingOf_23 : decode cX9_packingOf 23 = .ok (.dup, 1) := by decide +kernel
theorem dX9_packingOf_24 : decode cX9_packingOf 24 = .ok (.ldc 66, 2) := by decide +kernel
theorem dX9_packingOf_26 : decode cX9_packingOf 26 = .ok (.invokespecial 38, 3) := by decide +kernel
theorem dX9_packingOf_29 : decode cX9_packingOf 29 = .ok (.athrow, 1) := by decide +kernel
theorem dX9_packingOf_30 : decode cX9_packingOf 30 = .ok (.iload_n 3, 1) := by decide +kernel
theorem dX9_packingOf_31 : decode cX9_packingOf 31 = .ok (.bipush 104, 2) := by decide +kernel
theorem dX9_packingOf_33 : decode cX9_packingOf 33 = .ok (.if_icmp .eq 31, 3) := by decide +kernel
theorem dX9_packingOf_36 : decode cX9_packingOf 36 = .ok (.iload_n 3, 1) := by decide +kernel
theorem dX9_packingOf_37 : decode cX9_packingOf 37 = .ok (.bipush 100, 2) := by decide +kernel
theorem dX9_packingOf_39 : decode cX9_packingOf 39 = .ok (.if_icmp .eq 25, 3) := by decide +kernel
theorem dX9_packingOf_42 : decode cX9_packingOf 42 = .ok (.iload_n 3, 1) := by decide +kernel
theorem dX9_packingOf_43 : decode cX9_packingOf 43 = .ok (.bipush 48, 2) := by decide +kernel
theorem dX9_packingOf_45 : decode cX9_packingOf 45 = .ok (.if_icmp .lt 9, 3) := by decide +kernel
theorem dX9_packingOf_48 : decode cX9_packingOf 48 = .ok (.iload_n 3, 1) := by decide +kernel
theorem dX9_packingOf_49 : decode cX9_packingOf 49 = .ok (.bipush 52, 2) := by decide +kernel
theorem dX9_packingOf_51 : decode cX9_packingOf 51 = .ok (.if_icmp .le 13, 3) := by decide +kernel
theorem dX9_packingOf_54 : decode cX9_packingOf 54 = .ok (.new 68, 3) := by decide +kernel
theorem dX9_packingOf_57 : decode cX9_packingOf 57 = .ok (.dup, 1) := by decide +kernel
theorem dX9_packingOf_58 : decode cX9_packingOf 58 = .ok (.ldc 70, 2) := by decide +kernel
theorem dX9_packingOf_60 : decode cX9_packingOf 60 = .ok (.invokespecial 72, 3) := by decide +kernel
theorem dX9_packingOf_63 : decode cX9_packingOf 63 = .ok (.athrow, 1) := by decide +kernel
theorem dX9_packingOf_64 : decode cX9_packingOf 64 = .ok (.aload_n 0, 1) := by decide +kernel
theorem dX9_packingOf_65 : decode cX9_packingOf 65 = .ok (.getfield 10, 3) := by decide +kernel
theorem dX9_packingOf_68 : decode cX9_packingOf 68 = .ok (.getfield 73, 3) := by decide +kernel
theorem dX9_packingOf_71 : decode cX9_packingOf 71 = .ok (.iload_n 1, 1) := by decide +kernel
theorem dX9_packingOf_72 : decode cX9_packingOf 72 = .ok (.iload_n 2, 1) := by decide +kernel
theorem dX9_packingOf_73 : decode cX9_packingOf 73 = .ok (.iload_n 3, 1) := by decide +kernel
theorem dX9_packingOf_74 : decode cX9_packingOf 74 = .ok (.invokevirtual 77, 3) := by decide +kernel
theorem dX9_packingOf_77 : decode cX9_packingOf 77 = .ok (.ireturn, 1) := by decide +kernel
theorem dX9_jumps_0 : decode cX9_jumps 0 = .ok (.aload_n 0, 1) := by decide +kernel
theorem dX9_jumps_1 : decode cX9_jumps 1 = .ok (.iload_n 1, 1) := by decide +kernel
theorem dX9_jumps_2 : decode cX9_jumps 2 = .ok (.invokevirtual 45, 3) := by decide +kernel
theorem dX9_jumps_5 : decode cX9_jumps 5 = .ok (.getfield 83, 3) := by decide +kernel
theorem dX9_jumps_8 : decode cX9_jumps 8 = .ok (.ireturn, 1) := by decide +kernel
theorem dX9_sharers_0 : decode cX9_sharers 0 = .ok (.aload_n 0, 1) := by decide +kernel
theorem dX9_sharers_1 : decode cX9_sharers 1 = .ok (.iload_n 1, 1) := by decide +kernel
theorem dX9_sharers_2 : decode cX9_sharers 2 = .ok (.invokevirtual 45, 3) := by decide +kernel
theorem dX9_sharers_5 : decode cX9_sharers 5 = .ok (.pop, 1) := by decide +kernel
theorem dX9_sharers_6 : decode cX9_sharers 6 = .ok (.aload_n 0, 1) := by decide +kernel
theorem dX9_sharers_7 : decode cX9_sharers 7 = .ok (.getfield 10, 3) := by decide +kernel
theorem dX9_sharers_10 : decode cX9_sharers 10 = .ok (.iload_n 1, 1) := by decide +kernel
theorem dX9_sharers_11 : decode cX9_sharers 11 = .ok (.invokevirtual 86, 3) := by decide +kernel
theorem dX9_sharers_14 : decode cX9_sharers 14 = .ok (.ireturn, 1) := by decide +kernel
theorem dX9_next_0 : decode cX9_next 0 = .ok (.aload_n 0, 1) := by decide +kernel
theorem dX9_next_1 : decode cX9_next 1 = .ok (.getfield 10, 3) := by decide +kernel
theorem dX9_next_4 : decode cX9_next 4 = .ok (.invokevirtual 89, 3) := by decide +kernel
theorem dX9_next_7 : decode cX9_next 7 = .ok (.istore_n 1, 1) := by decide +kernel
theorem dX9_next_8 : decode cX9_next 8 = .ok (.iload_n 1, 1) := by decide +kernel
theorem dX9_next_9 : decode cX9_next 9 = .ok (.ifCond .ge 13, 3) := by decide +kernel
theorem dX9_next_12 : decode cX9_next 12 = .ok (.new 93, 3) := by decide +kernel
theorem dX9_next_15 : decode cX9_next 15 = .ok (.dup, 1) := by decide +kernel
theorem dX9_next_16 : decode cX9_next 16 = .ok (.ldc 95, 2) := by decide +kernel
theorem dX9_next_18 : decode cX9_next 18 = .ok (.invokespecial 97, 3) := by decide +kernel
theorem dX9_next_21 : decode cX9_next 21 = .ok (.athrow, 1) := by decide +kernel
theorem dX9_next_22 : decode cX9_next 22 = .ok (.iload_n 1, 1) := by decide +kernel
theorem dX9_next_23 : decode cX9_next 23 = .ok (.ireturn, 1) := by decide +kernel
theorem dX9_held_0 : decode cX9_held 0 = .ok (.aload_n 0, 1) := by decide +kernel
theorem dX9_held_1 : decode cX9_held 1 = .ok (.getfield 10, 3) := by decide +kernel
theorem dX9_held_4 : decode cX9_held 4 = .ok (.invokevirtual 98, 3) := by decide +kernel
theorem dX9_held_7 : decode cX9_held 7 = .ok (.lreturn, 1) := by decide +kernel
theorem dX9_kept_0 : decode cX9_kept 0 = .ok (.aload_n 0, 1) := by decide +kernel
theorem dX9_kept_1 : decode cX9_kept 1 = .ok (.getfield 10, 3) := by decide +kernel
theorem dX9_kept_4 : decode cX9_kept 4 = .ok (.getfield 102, 3) := by decide +kernel
theorem dX9_kept_7 : decode cX9_kept 7 = .ok (.lreturn, 1) := by decide +kernel
theorem dX9_groundedShare_0 : decode cX9_groundedShare 0 = .ok (.aload_n 0, 1) := by decide +kernel
theorem dX9_groundedShare_1 : decode cX9_groundedShare 1 = .ok (.getfield 10, 3) := by decide +kernel
theorem dX9_groundedShare_4 : decode cX9_groundedShare 4 = .ok (.getfield 106, 3) := by decide +kernel
theorem dX9_groundedShare_7 : decode cX9_groundedShare 7 = .ok (.istore_n 1, 1) := by decide +kernel
theorem dX9_groundedShare_8 : decode cX9_groundedShare 8 = .ok (.iload_n 1, 1) := by decide +kernel
theorem dX9_groundedShare_9 : decode cX9_groundedShare 9 = .ok (.ifCond .ne 13, 3) := by decide +kernel
theorem dX9_groundedShare_12 : decode cX9_groundedShare 12 = .ok (.new 109, 3) := by decide +kernel
theorem dX9_groundedShare_15 : decode cX9_groundedShare 15 = .ok (.dup, 1) := by decide +kernel
theorem dX9_groundedShare_16 : decode cX9_groundedShare 16 = .ok (.ldc 111, 2) := by decide +kernel
theorem dX9_groundedShare_18 : decode cX9_groundedShare 18 = .ok (.invokespecial 113, 3) := by decide +kernel
theorem dX9_groundedShare_21 : decode cX9_groundedShare 21 = .ok (.athrow, 1) := by decide +kernel
theorem dX9_groundedShare_22 : decode cX9_groundedShare 22 = .ok (.aload_n 0, 1) := by decide +kernel
theorem dX9_groundedShare_23 : decode cX9_groundedShare 23 = .ok (.getfield 10, 3) := by decide +kernel
theorem dX9_groundedShare_26 : decode cX9_groundedShare 26 = .ok (.invokevirtual 114, 3) := by decide +kernel
theorem dX9_groundedShare_29 : decode cX9_groundedShare 29 = .ok (.i2f, 1) := by decide +kernel
theorem dX9_groundedShare_30 : decode cX9_groundedShare 30 = .ok (.iload_n 1, 1) := by decide +kernel
theorem dX9_groundedShare_31 : decode cX9_groundedShare 31 = .ok (.i2f, 1) := by decide +kernel
theorem dX9_groundedShare_32 : decode cX9_groundedShare 32 = .ok (.fdiv, 1) := by decide +kernel
theorem dX9_groundedShare_33 : decode cX9_groundedShare 33 = .ok (.freturn, 1) := by decide +kernel
theorem dX9_meanDrops_0 : decode cX9_meanDrops 0 = .ok (.aload_n 0, 1) := by decide +kernel
theorem dX9_meanDrops_1 : decode cX9_meanDrops 1 = .ok (.getfield 10, 3) := by decide +kernel
theorem dX9_meanDrops_4 : decode cX9_meanDrops 4 = .ok (.getfield 106, 3) := by decide +kernel
theorem dX9_meanDrops_7 : decode cX9_meanDrops 7 = .ok (.istore_n 1, 1) := by decide +kernel
theorem dX9_meanDrops_8 : decode cX9_meanDrops 8 = .ok (.iload_n 1, 1) := by decide +kernel
theorem dX9_meanDrops_9 : decode cX9_meanDrops 9 = .ok (.ifCond .ne 13, 3) := by decide +kernel
theorem dX9_meanDrops_12 : decode cX9_meanDrops 12 = .ok (.new 109, 3) := by decide +kernel
theorem dX9_meanDrops_15 : decode cX9_meanDrops 15 = .ok (.dup, 1) := by decide +kernel
theorem dX9_meanDrops_16 : decode cX9_meanDrops 16 = .ok (.ldc 111, 2) := by decide +kernel
theorem dX9_meanDrops_18 : decode cX9_meanDrops 18 = .ok (.invokespecial 113, 3) := by decide +kernel
theorem dX9_meanDrops_21 : decode cX9_meanDrops 21 = .ok (.athrow, 1) := by decide +kernel
theorem dX9_meanDrops_22 : decode cX9_meanDrops 22 = .ok (.aload_n 0, 1) := by decide +kernel
theorem dX9_meanDrops_23 : decode cX9_meanDrops 23 = .ok (.getfield 10, 3) := by decide +kernel
theorem dX9_meanDrops_26 : decode cX9_meanDrops 26 = .ok (.invokevirtual 117, 3) := by decide +kernel
theorem dX9_meanDrops_29 : decode cX9_meanDrops 29 = .ok (.i2d, 1) := by decide +kernel
theorem dX9_meanDrops_30 : decode cX9_meanDrops 30 = .ok (.iload_n 1, 1) := by decide +kernel
theorem dX9_meanDrops_31 : decode cX9_meanDrops 31 = .ok (.i2d, 1) := by decide +kernel
theorem dX9_meanDrops_32 : decode cX9_meanDrops 32 = .ok (.ddiv, 1) := by decide +kernel
theorem dX9_meanDrops_33 : decode cX9_meanDrops 33 = .ok (.dreturn, 1) := by decide +kernel
theorem dX9_isSound_0 : decode cX9_isSound 0 = .ok (.aload_n 0, 1) := by decide +kernel
theorem dX9_isSound_1 : decode cX9_isSound 1 = .ok (.getfield 16, 3) := by decide +kernel
theorem dX9_isSound_4 : decode cX9_isSound 4 = .ok (.invokevirtual 120, 3) := by decide +kernel
theorem dX9_isSound_7 : decode cX9_isSound 7 = .ok (.iconst 0, 1) := by decide +kernel
theorem dX9_isSound_8 : decode cX9_isSound 8 = .ok (.istore_n 1, 1) := by decide +kernel
theorem dX9_isSound_9 : decode cX9_isSound 9 = .ok (.iload_n 1, 1) := by decide +kernel
theorem dX9_isSound_10 : decode cX9_isSound 10 = .ok (.aload_n 0, 1) := by decide +kernel
theorem dX9_isSound_11 : decode cX9_isSound 11 = .ok (.getfield 22, 3) := by decide +kernel
theorem dX9_isSound_14 : decode cX9_isSound 14 = .ok (.getfield 123, 3) := by decide +kernel
theorem dX9_isSound_17 : decode cX9_isSound 17 = .ok (.if_icmp .ge 26, 3) := by decide +kernel
theorem dX9_isSound_20 : decode cX9_isSound 20 = .ok (.aload_n 0, 1) := by decide +kernel
theorem dX9_isSound_21 : decode cX9_isSound 21 = .ok (.getfield 22, 3) := by decide +kernel
theorem dX9_isSound_24 : decode cX9_isSound 24 = .ok (.iload_n 1, 1) := by decide +kernel
theorem dX9_isSound_25 : decode cX9_isSound 25 = .ok (.aload_n 0, 1) := by decide +kernel
theorem dX9_isSound_26 : decode cX9_isSound 26 = .ok (.getfield 16, 3) := by decide +kernel
theorem dX9_isSound_29 : decode cX9_isSound 29 = .ok (.invokevirtual 126, 3) := by decide +kernel
theorem dX9_isSound_32 : decode cX9_isSound 32 = .ok (.ifCond .ne 5, 3) := by decide +kernel
theorem dX9_isSound_35 : decode cX9_isSound 35 = .ok (.iconst 0, 1) := by decide +kernel
theorem dX9_isSound_36 : decode cX9_isSound 36 = .ok (.ireturn, 1) := by decide +kernel
theorem dX9_isSound_37 : decode cX9_isSound 37 = .ok (.iinc 1 1, 3) := by decide +kernel
theorem dX9_isSound_40 : decode cX9_isSound 40 = .ok (.goto (-31), 3) := by decide +kernel
theorem dX9_isSound_43 : decode cX9_isSound 43 = .ok (.aload_n 0, 1) := by decide +kernel
theorem dX9_isSound_44 : decode cX9_isSound 44 = .ok (.getfield 10, 3) := by decide +kernel
theorem dX9_isSound_47 : decode cX9_isSound 47 = .ok (.aload_n 0, 1) := by decide +kernel
theorem dX9_isSound_48 : decode cX9_isSound 48 = .ok (.getfield 16, 3) := by decide +kernel
theorem dX9_isSound_51 : decode cX9_isSound 51 = .ok (.invokevirtual 130, 3) := by decide +kernel
theorem dX9_isSound_54 : decode cX9_isSound 54 = .ok (.ireturn, 1) := by decide +kernel
theorem dX9_canopyAt_0 : decode cX9_canopyAt 0 = .ok (.aload_n 0, 1) := by decide +kernel
theorem dX9_canopyAt_1 : decode cX9_canopyAt 1 = .ok (.getfield 10, 3) := by decide +kernel
theorem dX9_canopyAt_4 : decode cX9_canopyAt 4 = .ok (.iload_n 1, 1) := by decide +kernel
theorem dX9_canopyAt_5 : decode cX9_canopyAt 5 = .ok (.invokevirtual 134, 3) := by decide +kernel
theorem dX9_canopyAt_8 : decode cX9_canopyAt 8 = .ok (.ifCond .ne 13, 3) := by decide +kernel
theorem dX9_canopyAt_11 : decode cX9_canopyAt 11 = .ok (.new 34, 3) := by decide +kernel
theorem dX9_canopyAt_14 : decode cX9_canopyAt 14 = .ok (.dup, 1) := by decide +kernel
theorem dX9_canopyAt_15 : decode cX9_canopyAt 15 = .ok (.ldc 137, 2) := by decide +kernel
theorem dX9_canopyAt_17 : decode cX9_canopyAt 17 = .ok (.invokespecial 38, 3) := by decide +kernel
theorem dX9_canopyAt_20 : decode cX9_canopyAt 20 = .ok (.athrow, 1) := by decide +kernel
theorem dX9_canopyAt_21 : decode cX9_canopyAt 21 = .ok (.aload_n 0, 1) := by decide +kernel
theorem dX9_canopyAt_22 : decode cX9_canopyAt 22 = .ok (.getfield 10, 3) := by decide +kernel
theorem dX9_canopyAt_25 : decode cX9_canopyAt 25 = .ok (.getfield 139, 3) := by decide +kernel
theorem dX9_canopyAt_28 : decode cX9_canopyAt 28 = .ok (.iload_n 1, 1) := by decide +kernel
theorem dX9_canopyAt_29 : decode cX9_canopyAt 29 = .ok (.aaload, 1) := by decide +kernel
theorem dX9_canopyAt_30 : decode cX9_canopyAt 30 = .ok (.areturn, 1) := by decide +kernel
theorem dX9_act_0 : decode cX9_act 0 = .ok (.aload_n 0, 1) := by decide +kernel
theorem dX9_act_1 : decode cX9_act 1 = .ok (.getfield 10, 3) := by decide +kernel
theorem dX9_act_4 : decode cX9_act 4 = .ok (.iload_n 1, 1) := by decide +kernel
theorem dX9_act_5 : decode cX9_act 5 = .ok (.iload_n 2, 1) := by decide +kernel
theorem dX9_act_6 : decode cX9_act 6 = .ok (.iload_n 3, 1) := by decide +kernel
theorem dX9_act_7 : decode cX9_act 7 = .ok (.iload 4, 2) := by decide +kernel
theorem dX9_act_9 : decode cX9_act 9 = .ok (.iload 5, 2) := by decide +kernel
theorem dX9_act_11 : decode cX9_act 11 = .ok (.invokestatic 143, 3) := by decide +kernel
theorem dX9_act_14 : decode cX9_act 14 = .ok (.invokestatic 149, 3) := by decide +kernel
theorem dX9_act_17 : decode cX9_act 17 = .ok (.aload_n 0, 1) := by decide +kernel
theorem dX9_act_18 : decode cX9_act 18 = .ok (.getfield 22, 3) := by decide +kernel
theorem dX9_act_21 : decode cX9_act 21 = .ok (.invokevirtual 153, 3) := by decide +kernel
theorem dX9_act_24 : decode cX9_act 24 = .ok (.ifCond .eq 5, 3) := by decide +kernel
theorem dX9_act_27 : decode cX9_act 27 = .ok (.iconst 0, 1) := by decide +kernel
theorem dX9_act_28 : decode cX9_act 28 = .ok (.ireturn, 1) := by decide +kernel
theorem dX9_act_29 : decode cX9_act 29 = .ok (.aload_n 0, 1) := by decide +kernel
theorem dX9_act_30 : decode cX9_act 30 = .ok (.getfield 22, 3) := by decide +kernel
theorem dX9_act_33 : decode cX9_act 33 = .ok (.iload_n 1, 1) := by decide +kernel
theorem dX9_act_34 : decode cX9_act 34 = .ok (.iload_n 2, 1) := by decide +kernel
theorem dX9_act_35 : decode cX9_act 35 = .ok (.iload_n 3, 1) := by decide +kernel
theorem dX9_act_36 : decode cX9_act 36 = .ok (.iload 4, 2) := by decide +kernel
theorem dX9_act_38 : decode cX9_act 38 = .ok (.iload 5, 2) := by decide +kernel
theorem dX9_act_40 : decode cX9_act 40 = .ok (.invokevirtual 157, 3) := by decide +kernel
theorem dX9_act_43 : decode cX9_act 43 = .ok (.aload_n 0, 1) := by decide +kernel
theorem dX9_act_44 : decode cX9_act 44 = .ok (.getfield 10, 3) := by decide +kernel
theorem dX9_act_47 : decode cX9_act 47 = .ok (.iload_n 1, 1) := by decide +kernel
theorem dX9_act_48 : decode cX9_act 48 = .ok (.iload_n 2, 1) := by decide +kernel
theorem dX9_act_49 : decode cX9_act 49 = .ok (.iload_n 3, 1) := by decide +kernel
theorem dX9_act_50 : decode cX9_act 50 = .ok (.iload 4, 2) := by decide +kernel
theorem dX9_act_52 : decode cX9_act 52 = .ok (.iload 5, 2) := by decide +kernel
theorem dX9_act_54 : decode cX9_act 54 = .ok (.invokevirtual 161, 3) := by decide +kernel
theorem dX9_act_57 : decode cX9_act 57 = .ok (.ireturn, 1) := by decide +kernel
theorem dX9_throwFor_0 : decode cX9_throwFor 0 = .ok (.aload_n 0, 1) := by decide +kernel
theorem dX9_throwFor_1 : decode cX9_throwFor 1 = .ok (.getstatic 164, 3) := by decide +kernel
theorem dX9_throwFor_4 : decode cX9_throwFor 4 = .ok (.if_acmp .ne 13, 3) := by decide +kernel
theorem dX9_throwFor_7 : decode cX9_throwFor 7 = .ok (.new 34, 3) := by decide +kernel
theorem dX9_throwFor_10 : decode cX9_throwFor 10 = .ok (.dup, 1) := by decide +kernel
theorem dX9_throwFor_11 : decode cX9_throwFor 11 = .ok (.ldc 170, 2) := by decide +kernel
theorem dX9_throwFor_13 : decode cX9_throwFor 13 = .ok (.invokespecial 38, 3) := by decide +kernel
theorem dX9_throwFor_16 : decode cX9_throwFor 16 = .ok (.athrow, 1) := by decide +kernel
theorem dX9_throwFor_17 : decode cX9_throwFor 17 = .ok (.aload_n 0, 1) := by decide +kernel
theorem dX9_throwFor_18 : decode cX9_throwFor 18 = .ok (.getstatic 172, 3) := by decide +kernel
theorem dX9_throwFor_21 : decode cX9_throwFor 21 = .ok (.if_acmp .ne 13, 3) := by decide +kernel
theorem dX9_throwFor_24 : decode cX9_throwFor 24 = .ok (.new 68, 3) := by decide +kernel
theorem dX9_throwFor_27 : decode cX9_throwFor 27 = .ok (.dup, 1) := by decide +kernel
theorem dX9_throwFor_28 : decode cX9_throwFor 28 = .ok (.ldc 175, 2) := by decide +kernel
theorem dX9_throwFor_30 : decode cX9_throwFor 30 = .ok (.invokespecial 72, 3) := by decide +kernel
theorem dX9_throwFor_33 : decode cX9_throwFor 33 = .ok (.athrow, 1) := by decide +kernel
theorem dX9_throwFor_34 : decode cX9_throwFor 34 = .ok (.aload_n 0, 1) := by decide +kernel
theorem dX9_throwFor_35 : decode cX9_throwFor 35 = .ok (.getstatic 177, 3) := by decide +kernel
theorem dX9_throwFor_38 : decode cX9_throwFor 38 = .ok (.if_acmp .ne 13, 3) := by decide +kernel
theorem dX9_throwFor_41 : decode cX9_throwFor 41 = .ok (.new 180, 3) := by decide +kernel
theorem dX9_throwFor_44 : decode cX9_throwFor 44 = .ok (.dup, 1) := by decide +kernel
theorem dX9_throwFor_45 : decode cX9_throwFor 45 = .ok (.ldc 182, 2) := by decide +kernel
theorem dX9_throwFor_47 : decode cX9_throwFor 47 = .ok (.invokespecial 184, 3) := by decide +kernel
theorem dX9_throwFor_50 : decode cX9_throwFor 50 = .ok (.athrow, 1) := by decide +kernel
theorem dX9_throwFor_51 : decode cX9_throwFor 51 = .ok (.aload_n 0, 1) := by decide +kernel
theorem dX9_throwFor_52 : decode cX9_throwFor 52 = .ok (.getstatic 185, 3) := by decide +kernel
theorem dX9_throwFor_55 : decode cX9_throwFor 55 = .ok (.if_acmp .ne 13, 3) := by decide +kernel
theorem dX9_throwFor_58 : decode cX9_throwFor 58 = .ok (.new 188, 3) := by decide +kernel
theorem dX9_throwFor_61 : decode cX9_throwFor 61 = .ok (.dup, 1) := by decide +kernel
theorem dX9_throwFor_62 : decode cX9_throwFor 62 = .ok (.ldc 190, 2) := by decide +kernel
theorem dX9_throwFor_64 : decode cX9_throwFor 64 = .ok (.invokespecial 192, 3) := by decide +kernel
theorem dX9_throwFor_67 : decode cX9_throwFor 67 = .ok (.athrow, 1) := by decide +kernel
theorem dX9_throwFor_68 : decode cX9_throwFor 68 = .ok (.return_, 1) := by decide +kernel
theorem dL_cell_0 : decode cL_cell 0 = .ok (.iload_n 1, 1) := by decide +kernel
theorem dL_cell_1 : decode cL_cell 1 = .ok (.aload_n 0, 1) := by decide +kernel
theorem dL_cell_2 : decode cL_cell 2 = .ok (.arraylength, 1) := by decide +kernel
theorem dL_cell_3 : decode cL_cell 3 = .ok (.if_icmp .ge 9, 3) := by decide +kernel
theorem dL_cell_6 : decode cL_cell 6 = .ok (.aload_n 0, 1) := by decide +kernel
theorem dL_cell_7 : decode cL_cell 7 = .ok (.iload_n 1, 1) := by decide +kernel
theorem dL_cell_8 : decode cL_cell 8 = .ok (.iaload, 1) := by decide +kernel
theorem dL_cell_9 : decode cL_cell 9 = .ok (.goto 7, 3) := by decide +kernel
theorem dL_cell_12 : decode cL_cell 12 = .ok (.ldc 7, 2) := by decide +kernel
theorem dL_cell_14 : decode cL_cell 14 = .ok (.iload_n 1, 1) := by decide +kernel
theorem dL_cell_15 : decode cL_cell 15 = .ok (.imul, 1) := by decide +kernel
theorem dL_cell_16 : decode cL_cell 16 = .ok (.ireturn, 1) := by decide +kernel
theorem dL_pick_0 : decode cL_pick 0 = .ok (.aload_n 0, 1) := by decide +kernel
theorem dL_pick_1 : decode cL_pick 1 = .ok (.iload_n 1, 1) := by decide +kernel
theorem dL_pick_2 : decode cL_pick 2 = .ok (.invokestatic 8, 3) := by decide +kernel
theorem dL_pick_5 : decode cL_pick 5 = .ok (.iconst 1, 1) := by decide +kernel
theorem dL_pick_6 : decode cL_pick 6 = .ok (.iushr, 1) := by decide +kernel
theorem dL_pick_7 : decode cL_pick 7 = .ok (.iload_n 2, 1) := by decide +kernel
theorem dL_pick_8 : decode cL_pick 8 = .ok (.irem, 1) := by decide +kernel
theorem dL_pick_9 : decode cL_pick 9 = .ok (.ireturn, 1) := by decide +kernel
theorem dL_addRigger_0 : decode cL_addRigger 0 = .ok (.aload_n 0, 1) := by decide +kernel
theorem dL_addRigger_1 : decode cL_addRigger 1 = .ok (.iload_n 1, 1) := by decide +kernel
theorem dL_addRigger_2 : decode cL_addRigger 2 = .ok (.iload_n 2, 1) := by decide +kernel
theorem dL_addRigger_3 : decode cL_addRigger 3 = .ok (.invokevirtual 14, 3) := by decide +kernel
theorem dL_addRigger_6 : decode cL_addRigger 6 = .ok (.ireturn, 1) := by decide +kernel
theorem dL_addRigger_7 : decode cL_addRigger 7 = .ok (.astore_n 3, 1) := by decide +kernel
theorem dL_addRigger_8 : decode cL_addRigger 8 = .ok (.bipush (-78), 2) := by decide +kernel
theorem dL_addRigger_10 : decode cL_addRigger 10 = .ok (.ireturn, 1) := by decide +kernel
theorem dL_addRigger_11 : decode cL_addRigger 11 = .ok (.astore_n 3, 1) := by decide +kernel
theorem dL_addRigger_12 : decode cL_addRigger 12 = .ok (.bipush (-79), 2) := by decide +kernel
theorem dL_addRigger_14 : decode cL_addRigger 14 = .ok (.ireturn, 1) := by decide +kernel
theorem dL_addCanopy_0 : decode cL_addCanopy 0 = .ok (.aload_n 0, 1) := by decide +kernel
theorem dL_addCanopy_1 : decode cL_addCanopy 1 = .ok (.iload_n 1, 1) := by decide +kernel
theorem dL_addCanopy_2 : decode cL_addCanopy 2 = .ok (.iload_n 2, 1) := by decide +kernel
theorem dL_addCanopy_3 : decode cL_addCanopy 3 = .ok (.iload_n 3, 1) := by decide +kernel
theorem dL_addCanopy_4 : decode cL_addCanopy 4 = .ok (.iload 4, 2) := by decide +kernel
theorem dL_addCanopy_6 : decode cL_addCanopy 6 = .ok (.invokevirtual 24, 3) := by decide +kernel
theorem dL_addCanopy_9 : decode cL_addCanopy 9 = .ok (.ireturn, 1) := by decide +kernel
theorem dL_addCanopy_10 : decode cL_addCanopy 10 = .ok (.astore 5, 2) := by decide +kernel
theorem dL_addCanopy_12 : decode cL_addCanopy 12 = .ok (.bipush (-78), 2) := by decide +kernel
theorem dL_addCanopy_14 : decode cL_addCanopy 14 = .ok (.ireturn, 1) := by decide +kernel
theorem dL_addCanopy_15 : decode cL_addCanopy 15 = .ok (.astore 5, 2) := by decide +kernel
theorem dL_addCanopy_17 : decode cL_addCanopy 17 = .ok (.bipush (-79), 2) := by decide +kernel
theorem dL_addCanopy_19 : decode cL_addCanopy 19 = .ok (.ireturn, 1) := by decide +kernel
theorem dL_setPeriod_0 : decode cL_setPeriod 0 = .ok (.aload_n 0, 1) := by decide +kernel
theorem dL_setPeriod_1 : decode cL_setPeriod 1 = .ok (.iload_n 1, 1) := by decide +kernel
theorem dL_setPeriod_2 : decode cL_setPeriod 2 = .ok (.invokevirtual 28, 3) := by decide +kernel
theorem dL_setPeriod_5 : decode cL_setPeriod 5 = .ok (.ireturn, 1) := by decide +kernel
theorem dL_setPeriod_6 : decode cL_setPeriod 6 = .ok (.astore_n 2, 1) := by decide +kernel
theorem dL_setPeriod_7 : decode cL_setPeriod 7 = .ok (.bipush (-78), 2) := by decide +kernel
theorem dL_setPeriod_9 : decode cL_setPeriod 9 = .ok (.ireturn, 1) := by decide +kernel
theorem dL_goOn_0 : decode cL_goOn 0 = .ok (.aload_n 0, 1) := by decide +kernel
theorem dL_goOn_1 : decode cL_goOn 1 = .ok (.iload_n 1, 1) := by decide +kernel
theorem dL_goOn_2 : decode cL_goOn 2 = .ok (.invokevirtual 32, 3) := by decide +kernel
theorem dL_goOn_5 : decode cL_goOn 5 = .ok (.ireturn, 1) := by decide +kernel
theorem dL_goOn_6 : decode cL_goOn 6 = .ok (.astore_n 2, 1) := by decide +kernel
theorem dL_goOn_7 : decode cL_goOn 7 = .ok (.bipush (-78), 2) := by decide +kernel
theorem dL_goOn_9 : decode cL_goOn 9 = .ok (.ireturn, 1) := by decide +kernel
theorem dL_goOn_10 : decode cL_goOn 10 = .ok (.astore_n 2, 1) := by decide +kernel
theorem dL_goOn_11 : decode cL_goOn 11 = .ok (.bipush (-79), 2) := by decide +kernel
theorem dL_goOn_13 : decode cL_goOn 13 = .ok (.ireturn, 1) := by decide +kernel
theorem dL_hang_0 : decode cL_hang 0 = .ok (.aload_n 0, 1) := by decide +kernel
theorem dL_hang_1 : decode cL_hang 1 = .ok (.iload_n 1, 1) := by decide +kernel
theorem dL_hang_2 : decode cL_hang 2 = .ok (.iload_n 2, 1) := by decide +kernel
theorem dL_hang_3 : decode cL_hang 3 = .ok (.invokevirtual 35, 3) := by decide +kernel
theorem dL_hang_6 : decode cL_hang 6 = .ok (.ireturn, 1) := by decide +kernel
theorem dL_hang_7 : decode cL_hang 7 = .ok (.astore_n 3, 1) := by decide +kernel
theorem dL_hang_8 : decode cL_hang 8 = .ok (.bipush (-77), 2) := by decide +kernel
theorem dL_hang_10 : decode cL_hang 10 = .ok (.ireturn, 1) := by decide +kernel
theorem dL_hang_11 : decode cL_hang 11 = .ok (.astore_n 3, 1) := by decide +kernel
theorem dL_hang_12 : decode cL_hang 12 = .ok (.bipush (-78), 2) := by decide +kernel
theorem dL_hang_14 : decode cL_hang 14 = .ok (.ireturn, 1) := by decide +kernel
theorem dL_hang_15 : decode cL_hang 15 = .ok (.astore_n 3, 1) := by decide +kernel
theorem dL_hang_16 : decode cL_hang 16 = .ok (.bipush (-76), 2) := by decide +kernel
theorem dL_hang_18 : decode cL_hang 18 = .ok (.ireturn, 1) := by decide +kernel
theorem dL_hang_19 : decode cL_hang 19 = .ok (.astore_n 3, 1) := by decide +kernel
theorem dL_hang_20 : decode cL_hang 20 = .ok (.bipush (-79), 2) := by decide +kernel
theorem dL_hang_22 : decode cL_hang 22 = .ok (.ireturn, 1) := by decide +kernel
theorem dL_step_0 : decode cL_step 0 = .ok (.aload_n 0, 1) := by decide +kernel
theorem dL_step_1 : decode cL_step 1 = .ok (.iload_n 1, 1) := by decide +kernel
theorem dL_step_2 : decode cL_step 2 = .ok (.iload_n 2, 1) := by decide +kernel
theorem dL_step_3 : decode cL_step 3 = .ok (.invokevirtual 42, 3) := by decide +kernel
theorem dL_step_6 : decode cL_step 6 = .ok (.ireturn, 1) := by decide +kernel
theorem dL_step_7 : decode cL_step 7 = .ok (.astore_n 3, 1) := by decide +kernel
theorem dL_step_8 : decode cL_step 8 = .ok (.bipush (-77), 2) := by decide +kernel
theorem dL_step_10 : decode cL_step 10 = .ok (.ireturn, 1) := by decide +kernel
theorem dL_step_11 : decode cL_step 11 = .ok (.astore_n 3, 1) := by decide +kernel
theorem dL_step_12 : decode cL_step 12 = .ok (.bipush (-76), 2) := by decide +kernel
theorem dL_step_14 : decode cL_step 14 = .ok (.ireturn, 1) := by decide +kernel
theorem dL_step_15 : decode cL_step 15 = .ok (.astore_n 3, 1) := by decide +kernel
theorem dL_step_16 : decode cL_step 16 = .ok (.bipush (-78), 2) := by decide +kernel
theorem dL_step_18 : decode cL_step 18 = .ok (.ireturn, 1) := by decide +kernel
theorem dL_breakOff_0 : decode cL_breakOff 0 = .ok (.aload_n 0, 1) := by decide +kernel
theorem dL_breakOff_1 : decode cL_breakOff 1 = .ok (.iload_n 1, 1) := by decide +kernel
theorem dL_breakOff_2 : decode cL_breakOff 2 = .ok (.invokevirtual 45, 3) := by decide +kernel
theorem dL_breakOff_5 : decode cL_breakOff 5 = .ok (.ireturn, 1) := by decide +kernel
theorem dL_breakOff_6 : decode cL_breakOff 6 = .ok (.astore_n 2, 1) := by decide +kernel
theorem dL_breakOff_7 : decode cL_breakOff 7 = .ok (.bipush (-77), 2) := by decide +kernel
theorem dL_breakOff_9 : decode cL_breakOff 9 = .ok (.ireturn, 1) := by decide +kernel
theorem dL_breakOff_10 : decode cL_breakOff 10 = .ok (.astore_n 2, 1) := by decide +kernel
theorem dL_breakOff_11 : decode cL_breakOff 11 = .ok (.bipush (-76), 2) := by decide +kernel
theorem dL_breakOff_13 : decode cL_breakOff 13 = .ok (.ireturn, 1) := by decide +kernel
theorem dL_load_0 : decode cL_load 0 = .ok (.aload_n 0, 1) := by decide +kernel
theorem dL_load_1 : decode cL_load 1 = .ok (.invokevirtual 48, 3) := by decide +kernel
theorem dL_load_4 : decode cL_load 4 = .ok (.ireturn, 1) := by decide +kernel
theorem dL_load_5 : decode cL_load 5 = .ok (.astore_n 1, 1) := by decide +kernel
theorem dL_load_6 : decode cL_load 6 = .ok (.bipush (-79), 2) := by decide +kernel
theorem dL_load_8 : decode cL_load 8 = .ok (.ireturn, 1) := by decide +kernel
theorem dL_board_0 : decode cL_board 0 = .ok (.aload_n 0, 1) := by decide +kernel
theorem dL_board_1 : decode cL_board 1 = .ok (.iload_n 1, 1) := by decide +kernel
theorem dL_board_2 : decode cL_board 2 = .ok (.iload_n 2, 1) := by decide +kernel
theorem dL_board_3 : decode cL_board 3 = .ok (.iload_n 3, 1) := by decide +kernel
theorem dL_board_4 : decode cL_board 4 = .ok (.invokevirtual 52, 3) := by decide +kernel
theorem dL_board_7 : decode cL_board 7 = .ok (.ireturn, 1) := by decide +kernel
theorem dL_board_8 : decode cL_board 8 = .ok (.astore 4, 2) := by decide +kernel
theorem dL_board_10 : decode cL_board 10 = .ok (.bipush (-77), 2) := by decide +kernel
theorem dL_board_12 : decode cL_board 12 = .ok (.ireturn, 1) := by decide +kernel
theorem dL_board_13 : decode cL_board 13 = .ok (.astore 4, 2) := by decide +kernel
theorem dL_board_15 : decode cL_board 15 = .ok (.bipush (-78), 2) := by decide +kernel
theorem dL_board_17 : decode cL_board 17 = .ok (.ireturn, 1) := by decide +kernel
theorem dL_board_18 : decode cL_board 18 = .ok (.astore 4, 2) := by decide +kernel
theorem dL_board_20 : decode cL_board 20 = .ok (.bipush (-76), 2) := by decide +kernel
theorem dL_board_22 : decode cL_board 22 = .ok (.ireturn, 1) := by decide +kernel
theorem dL_board_23 : decode cL_board 23 = .ok (.astore 4, 2) := by decide +kernel
theorem dL_board_25 : decode cL_board 25 = .ok (.bipush (-79), 2) := by decide +kernel
theorem dL_board_27 : decode cL_board 27 = .ok (.ireturn, 1) := by decide +kernel
theorem dL_leave_0 : decode cL_leave 0 = .ok (.aload_n 0, 1) := by decide +kernel
theorem dL_leave_1 : decode cL_leave 1 = .ok (.iload_n 1, 1) := by decide +kernel
theorem dL_leave_2 : decode cL_leave 2 = .ok (.invokevirtual 56, 3) := by decide +kernel
theorem dL_leave_5 : decode cL_leave 5 = .ok (.ireturn, 1) := by decide +kernel
theorem dL_leave_6 : decode cL_leave 6 = .ok (.astore_n 2, 1) := by decide +kernel
theorem dL_leave_7 : decode cL_leave 7 = .ok (.bipush (-77), 2) := by decide +kernel
theorem dL_leave_9 : decode cL_leave 9 = .ok (.ireturn, 1) := by decide +kernel
theorem dL_leave_10 : decode cL_leave 10 = .ok (.astore_n 2, 1) := by decide +kernel
theorem dL_leave_11 : decode cL_leave 11 = .ok (.bipush (-76), 2) := by decide +kernel
theorem dL_leave_13 : decode cL_leave 13 = .ok (.ireturn, 1) := by decide +kernel
theorem dL_jump_0 : decode cL_jump 0 = .ok (.aload_n 0, 1) := by decide +kernel
theorem dL_jump_1 : decode cL_jump 1 = .ok (.iload_n 1, 1) := by decide +kernel
theorem dL_jump_2 : decode cL_jump 2 = .ok (.iload_n 2, 1) := by decide +kernel
theorem dL_jump_3 : decode cL_jump 3 = .ok (.invokevirtual 59, 3) := by decide +kernel
theorem dL_jump_6 : decode cL_jump 6 = .ok (.ireturn, 1) := by decide +kernel
theorem dL_jump_7 : decode cL_jump 7 = .ok (.astore_n 3, 1) := by decide +kernel
theorem dL_jump_8 : decode cL_jump 8 = .ok (.bipush (-77), 2) := by decide +kernel
theorem dL_jump_10 : decode cL_jump 10 = .ok (.ireturn, 1) := by decide +kernel
theorem dL_jump_11 : decode cL_jump 11 = .ok (.astore_n 3, 1) := by decide +kernel
theorem dL_jump_12 : decode cL_jump 12 = .ok (.bipush (-76), 2) := by decide +kernel
theorem dL_jump_14 : decode cL_jump 14 = .ok (.ireturn, 1) := by decide +kernel
theorem dL_find_0 : decode cL_find 0 = .ok (.aload_n 0, 1) := by decide +kernel
theorem dL_find_1 : decode cL_find 1 = .ok (.iload_n 1, 1) := by decide +kernel
theorem dL_find_2 : decode cL_find 2 = .ok (.invokevirtual 62, 3) := by decide +kernel
theorem dL_find_5 : decode cL_find 5 = .ok (.ireturn, 1) := by decide +kernel
theorem dL_find_6 : decode cL_find 6 = .ok (.astore_n 2, 1) := by decide +kernel
theorem dL_find_7 : decode cL_find 7 = .ok (.bipush (-77), 2) := by decide +kernel
theorem dL_find_9 : decode cL_find 9 = .ok (.ireturn, 1) := by decide +kernel
theorem dL_find_10 : decode cL_find 10 = .ok (.astore_n 2, 1) := by decide +kernel
theorem dL_find_11 : decode cL_find 11 = .ok (.bipush (-79), 2) := by decide +kernel
theorem dL_find_13 : decode cL_find 13 = .ok (.ireturn, 1) := by decide +kernel
theorem dL_widen_0 : decode cL_widen 0 = .ok (.aload_n 0, 1) := by decide +kernel
theorem dL_widen_1 : decode cL_widen 1 = .ok (.iload_n 1, 1) := by decide +kernel
theorem dL_widen_2 : decode cL_widen 2 = .ok (.invokevirtual 65, 3) := by decide +kernel
theorem dL_widen_5 : decode cL_widen 5 = .ok (.ireturn, 1) := by decide +kernel
theorem dL_widen_6 : decode cL_widen 6 = .ok (.astore_n 2, 1) := by decide +kernel
theorem dL_widen_7 : decode cL_widen 7 = .ok (.bipush (-77), 2) := by decide +kernel
theorem dL_widen_9 : decode cL_widen 9 = .ok (.ireturn, 1) := by decide +kernel
theorem dL_widen_10 : decode cL_widen 10 = .ok (.astore_n 2, 1) := by decide +kernel
theorem dL_widen_11 : decode cL_widen 11 = .ok (.bipush (-76), 2) := by decide +kernel
theorem dL_widen_13 : decode cL_widen 13 = .ok (.ireturn, 1) := by decide +kernel
theorem dL_tellCause_0 : decode cL_tellCause 0 = .ok (.aload_n 0, 1) := by decide +kernel
theorem dL_tellCause_1 : decode cL_tellCause 1 = .ok (.iload_n 1, 1) := by decide +kernel
theorem dL_tellCause_2 : decode cL_tellCause 2 = .ok (.iload_n 2, 1) := by decide +kernel
theorem dL_tellCause_3 : decode cL_tellCause 3 = .ok (.invokevirtual 68, 3) := by decide +kernel
theorem dL_tellCause_6 : decode cL_tellCause 6 = .ok (.ireturn, 1) := by decide +kernel
theorem dL_tellCause_7 : decode cL_tellCause 7 = .ok (.astore_n 3, 1) := by decide +kernel
theorem dL_tellCause_8 : decode cL_tellCause 8 = .ok (.bipush (-77), 2) := by decide +kernel
theorem dL_tellCause_10 : decode cL_tellCause 10 = .ok (.ireturn, 1) := by decide +kernel
theorem dL_tellCause_11 : decode cL_tellCause 11 = .ok (.astore_n 3, 1) := by decide +kernel
theorem dL_tellCause_12 : decode cL_tellCause 12 = .ok (.bipush (-78), 2) := by decide +kernel
theorem dL_tellCause_14 : decode cL_tellCause 14 = .ok (.ireturn, 1) := by decide +kernel
theorem dL_tellCause_15 : decode cL_tellCause 15 = .ok (.astore_n 3, 1) := by decide +kernel
theorem dL_tellCause_16 : decode cL_tellCause 16 = .ok (.bipush (-76), 2) := by decide +kernel
theorem dL_tellCause_18 : decode cL_tellCause 18 = .ok (.ireturn, 1) := by decide +kernel
theorem dL_close_0 : decode cL_close 0 = .ok (.aload_n 0, 1) := by decide +kernel
theorem dL_close_1 : decode cL_close 1 = .ok (.iload_n 1, 1) := by decide +kernel
theorem dL_close_2 : decode cL_close 2 = .ok (.invokevirtual 72, 3) := by decide +kernel
theorem dL_close_5 : decode cL_close 5 = .ok (.ifCond .eq 7, 3) := by decide +kernel
theorem dL_close_8 : decode cL_close 8 = .ok (.iconst 1, 1) := by decide +kernel
theorem dL_close_9 : decode cL_close 9 = .ok (.goto 4, 3) := by decide +kernel
theorem dL_close_12 : decode cL_close 12 = .ok (.iconst 0, 1) := by decide +kernel
theorem dL_close_13 : decode cL_close 13 = .ok (.ireturn, 1) := by decide +kernel
theorem dL_close_14 : decode cL_close 14 = .ok (.astore_n 2, 1) := by decide +kernel
theorem dL_close_15 : decode cL_close 15 = .ok (.bipush (-77), 2) := by decide +kernel
theorem dL_close_17 : decode cL_close 17 = .ok (.ireturn, 1) := by decide +kernel
theorem dL_grounds_0 : decode cL_grounds 0 = .ok (.aload_n 0, 1) := by decide +kernel
theorem dL_grounds_1 : decode cL_grounds 1 = .ok (.iload_n 1, 1) := by decide +kernel
theorem dL_grounds_2 : decode cL_grounds 2 = .ok (.invokevirtual 76, 3) := by decide +kernel
theorem dL_grounds_5 : decode cL_grounds 5 = .ok (.ireturn, 1) := by decide +kernel
theorem dL_grounds_6 : decode cL_grounds 6 = .ok (.astore_n 2, 1) := by decide +kernel
theorem dL_grounds_7 : decode cL_grounds 7 = .ok (.bipush (-77), 2) := by decide +kernel
theorem dL_grounds_9 : decode cL_grounds 9 = .ok (.ireturn, 1) := by decide +kernel
theorem dL_repair_0 : decode cL_repair 0 = .ok (.aload_n 0, 1) := by decide +kernel
theorem dL_repair_1 : decode cL_repair 1 = .ok (.iload_n 1, 1) := by decide +kernel
theorem dL_repair_2 : decode cL_repair 2 = .ok (.iload_n 2, 1) := by decide +kernel
theorem dL_repair_3 : decode cL_repair 3 = .ok (.invokevirtual 79, 3) := by decide +kernel
theorem dL_repair_6 : decode cL_repair 6 = .ok (.ireturn, 1) := by decide +kernel
theorem dL_repair_7 : decode cL_repair 7 = .ok (.astore_n 3, 1) := by decide +kernel
theorem dL_repair_8 : decode cL_repair 8 = .ok (.bipush (-77), 2) := by decide +kernel
theorem dL_repair_10 : decode cL_repair 10 = .ok (.ireturn, 1) := by decide +kernel
theorem dL_repair_11 : decode cL_repair 11 = .ok (.astore_n 3, 1) := by decide +kernel
theorem dL_repair_12 : decode cL_repair 12 = .ok (.bipush (-76), 2) := by decide +kernel
theorem dL_repair_14 : decode cL_repair 14 = .ok (.ireturn, 1) := by decide +kernel
theorem dL_repair_15 : decode cL_repair 15 = .ok (.astore_n 3, 1) := by decide +kernel
theorem dL_repair_16 : decode cL_repair 16 = .ok (.bipush (-78), 2) := by decide +kernel
theorem dL_repair_18 : decode cL_repair 18 = .ok (.ireturn, 1) := by decide +kernel
theorem dL_drop_0 : decode cL_drop 0 = .ok (.aload_n 0, 1) := by decide +kernel
theorem dL_drop_1 : decode cL_drop 1 = .ok (.iload_n 1, 1) := by decide +kernel
theorem dL_drop_2 : decode cL_drop 2 = .ok (.iload_n 2, 1) := by decide +kernel
theorem dL_drop_3 : decode cL_drop 3 = .ok (.invokevirtual 82, 3) := by decide +kernel
theorem dL_drop_6 : decode cL_drop 6 = .ok (.ireturn, 1) := by decide +kernel
theorem dL_drop_7 : decode cL_drop 7 = .ok (.astore_n 3, 1) := by decide +kernel
theorem dL_drop_8 : decode cL_drop 8 = .ok (.bipush (-77), 2) := by decide +kernel
theorem dL_drop_10 : decode cL_drop 10 = .ok (.ireturn, 1) := by decide +kernel
theorem dL_drop_11 : decode cL_drop 11 = .ok (.astore_n 3, 1) := by decide +kernel
theorem dL_drop_12 : decode cL_drop 12 = .ok (.bipush (-76), 2) := by decide +kernel
theorem dL_drop_14 : decode cL_drop 14 = .ok (.ireturn, 1) := by decide +kernel
theorem dL_hire_0 : decode cL_hire 0 = .ok (.aload_n 0, 1) := by decide +kernel
theorem dL_hire_1 : decode cL_hire 1 = .ok (.iload_n 1, 1) := by decide +kernel
theorem dL_hire_2 : decode cL_hire 2 = .ok (.iload_n 2, 1) := by decide +kernel
theorem dL_hire_3 : decode cL_hire 3 = .ok (.iload_n 3, 1) := by decide +kernel
theorem dL_hire_4 : decode cL_hire 4 = .ok (.invokevirtual 86, 3) := by decide +kernel
theorem dL_hire_7 : decode cL_hire 7 = .ok (.ireturn, 1) := by decide +kernel
theorem dL_hire_8 : decode cL_hire 8 = .ok (.astore 4, 2) := by decide +kernel
theorem dL_hire_10 : decode cL_hire 10 = .ok (.bipush (-77), 2) := by decide +kernel
theorem dL_hire_12 : decode cL_hire 12 = .ok (.ireturn, 1) := by decide +kernel
theorem dL_hire_13 : decode cL_hire 13 = .ok (.astore 4, 2) := by decide +kernel
theorem dL_hire_15 : decode cL_hire 15 = .ok (.bipush (-78), 2) := by decide +kernel
theorem dL_hire_17 : decode cL_hire 17 = .ok (.ireturn, 1) := by decide +kernel
theorem dL_hire_18 : decode cL_hire 18 = .ok (.astore 4, 2) := by decide +kernel
theorem dL_hire_20 : decode cL_hire 20 = .ok (.bipush (-76), 2) := by decide +kernel
theorem dL_hire_22 : decode cL_hire 22 = .ok (.ireturn, 1) := by decide +kernel
theorem dL_back_0 : decode cL_back 0 = .ok (.aload_n 0, 1) := by decide +kernel
theorem dL_back_1 : decode cL_back 1 = .ok (.iload_n 1, 1) := by decide +kernel
theorem dL_back_2 : decode cL_back 2 = .ok (.iload_n 2, 1) := by decide +kernel
theorem dL_back_3 : decode cL_back 3 = .ok (.iload_n 3, 1) := by decide +kernel
theorem dL_back_4 : decode cL_back 4 = .ok (.invokevirtual 89, 3) := by decide +kernel
theorem dL_back_7 : decode cL_back 7 = .ok (.ireturn, 1) := by decide +kernel
theorem dL_back_8 : decode cL_back 8 = .ok (.astore 4, 2) := by decide +kernel
theorem dL_back_10 : decode cL_back 10 = .ok (.bipush (-77), 2) := by decide +kernel
theorem dL_back_12 : decode cL_back 12 = .ok (.ireturn, 1) := by decide +kernel
theorem dL_back_13 : decode cL_back 13 = .ok (.astore 4, 2) := by decide +kernel
theorem dL_back_15 : decode cL_back 15 = .ok (.bipush (-76), 2) := by decide +kernel
theorem dL_back_17 : decode cL_back 17 = .ok (.ireturn, 1) := by decide +kernel
theorem dL_stateOf_0 : decode cL_stateOf 0 = .ok (.aload_n 0, 1) := by decide +kernel
theorem dL_stateOf_1 : decode cL_stateOf 1 = .ok (.iload_n 1, 1) := by decide +kernel
theorem dL_stateOf_2 : decode cL_stateOf 2 = .ok (.invokevirtual 93, 3) := by decide +kernel
theorem dL_stateOf_5 : decode cL_stateOf 5 = .ok (.ireturn, 1) := by decide +kernel
theorem dL_stateOf_6 : decode cL_stateOf 6 = .ok (.astore_n 2, 1) := by decide +kernel
theorem dL_stateOf_7 : decode cL_stateOf 7 = .ok (.bipush (-77), 2) := by decide +kernel
theorem dL_stateOf_9 : decode cL_stateOf 9 = .ok (.ireturn, 1) := by decide +kernel
theorem dL_isGrounded_0 : decode cL_isGrounded 0 = .ok (.aload_n 0, 1) := by decide +kernel
theorem dL_isGrounded_1 : decode cL_isGrounded 1 = .ok (.iload_n 1, 1) := by decide +kernel
theorem dL_isGrounded_2 : decode cL_isGrounded 2 = .ok (.invokevirtual 97, 3) := by decide +kernel
theorem dL_isGrounded_5 : decode cL_isGrounded 5 = .ok (.ifCond .eq 7, 3) := by decide +kernel
theorem dL_isGrounded_8 : decode cL_isGrounded 8 = .ok (.iconst 1, 1) := by decide +kernel
theorem dL_isGrounded_9 : decode cL_isGrounded 9 = .ok (.goto 4, 3) := by decide +kernel
theorem dL_isGrounded_12 : decode cL_isGrounded 12 = .ok (.iconst 0, 1) := by decide +kernel
theorem dL_isGrounded_13 : decode cL_isGrounded 13 = .ok (.ireturn, 1) := by decide +kernel
theorem dL_isGrounded_14 : decode cL_isGrounded 14 = .ok (.astore_n 2, 1) := by decide +kernel
theorem dL_isGrounded_15 : decode cL_isGrounded 15 = .ok (.bipush (-77), 2) := by decide +kernel
theorem dL_isGrounded_17 : decode cL_isGrounded 17 = .ok (.ireturn, 1) := by decide +kernel
theorem dL_isOut_0 : decode cL_isOut 0 = .ok (.aload_n 0, 1) := by decide +kernel
theorem dL_isOut_1 : decode cL_isOut 1 = .ok (.iload_n 1, 1) := by decide +kernel
theorem dL_isOut_2 : decode cL_isOut 2 = .ok (.invokevirtual 100, 3) := by decide +kernel
theorem dL_isOut_5 : decode cL_isOut 5 = .ok (.ifCond .eq 7, 3) := by decide +kernel
theorem dL_isOut_8 : decode cL_isOut 8 = .ok (.iconst 1, 1) := by decide +kernel
theorem dL_isOut_9 : decode cL_isOut 9 = .ok (.goto 4, 3) := by decide +kernel
theorem dL_isOut_12 : decode cL_isOut 12 = .ok (.iconst 0, 1) := by decide +kernel
theorem dL_isOut_13 : decode cL_isOut 13 = .ok (.ireturn, 1) := by decide +kernel
theorem dL_isOut_14 : decode cL_isOut 14 = .ok (.astore_n 2, 1) := by decide +kernel
theorem dL_isOut_15 : decode cL_isOut 15 = .ok (.bipush (-77), 2) := by decide +kernel
theorem dL_isOut_17 : decode cL_isOut 17 = .ok (.ireturn, 1) := by decide +kernel
theorem dL_packings_0 : decode cL_packings 0 = .ok (.aload_n 0, 1) := by decide +kernel
theorem dL_packings_1 : decode cL_packings 1 = .ok (.iload_n 1, 1) := by decide +kernel
theorem dL_packings_2 : decode cL_packings 2 = .ok (.invokevirtual 103, 3) := by decide +kernel
theorem dL_packings_5 : decode cL_packings 5 = .ok (.ireturn, 1) := by decide +kernel
theorem dL_packings_6 : decode cL_packings 6 = .ok (.astore_n 2, 1) := by decide +kernel
theorem dL_packings_7 : decode cL_packings 7 = .ok (.bipush (-77), 2) := by decide +kernel
theorem dL_packings_9 : decode cL_packings 9 = .ok (.ireturn, 1) := by decide +kernel
theorem dL_packingOf_0 : decode cL_packingOf 0 = .ok (.aload_n 0, 1) := by decide +kernel
theorem dL_packingOf_1 : decode cL_packingOf 1 = .ok (.iload_n 1, 1) := by decide +kernel
theorem dL_packingOf_2 : decode cL_packingOf 2 = .ok (.iload_n 2, 1) := by decide +kernel
theorem dL_packingOf_3 : decode cL_packingOf 3 = .ok (.iload_n 3, 1) := by decide +kernel
theorem dL_packingOf_4 : decode cL_packingOf 4 = .ok (.invokevirtual 106, 3) := by decide +kernel
theorem dL_packingOf_7 : decode cL_packingOf 7 = .ok (.ireturn, 1) := by decide +kernel
theorem dL_packingOf_8 : decode cL_packingOf 8 = .ok (.astore 4, 2) := by decide +kernel
theorem dL_packingOf_10 : decode cL_packingOf 10 = .ok (.bipush (-77), 2) := by decide +kernel
theorem dL_packingOf_12 : decode cL_packingOf 12 = .ok (.ireturn, 1) := by decide +kernel
theorem dL_packingOf_13 : decode cL_packingOf 13 = .ok (.astore 4, 2) := by decide +kernel
theorem dL_packingOf_15 : decode cL_packingOf 15 = .ok (.bipush (-78), 2) := by decide +kernel
theorem dL_packingOf_17 : decode cL_packingOf 17 = .ok (.ireturn, 1) := by decide +kernel
theorem dL_jumps_0 : decode cL_jumps 0 = .ok (.aload_n 0, 1) := by decide +kernel
theorem dL_jumps_1 : decode cL_jumps 1 = .ok (.iload_n 1, 1) := by decide +kernel
theorem dL_jumps_2 : decode cL_jumps 2 = .ok (.invokevirtual 110, 3) := by decide +kernel
theorem dL_jumps_5 : decode cL_jumps 5 = .ok (.ireturn, 1) := by decide +kernel
theorem dL_jumps_6 : decode cL_jumps 6 = .ok (.astore_n 2, 1) := by decide +kernel
theorem dL_jumps_7 : decode cL_jumps 7 = .ok (.bipush (-77), 2) := by decide +kernel
theorem dL_jumps_9 : decode cL_jumps 9 = .ok (.ireturn, 1) := by decide +kernel
theorem dL_sharers_0 : decode cL_sharers 0 = .ok (.aload_n 0, 1) := by decide +kernel
theorem dL_sharers_1 : decode cL_sharers 1 = .ok (.iload_n 1, 1) := by decide +kernel
theorem dL_sharers_2 : decode cL_sharers 2 = .ok (.invokevirtual 113, 3) := by decide +kernel
theorem dL_sharers_5 : decode cL_sharers 5 = .ok (.ireturn, 1) := by decide +kernel
theorem dL_sharers_6 : decode cL_sharers 6 = .ok (.astore_n 2, 1) := by decide +kernel
theorem dL_sharers_7 : decode cL_sharers 7 = .ok (.bipush (-77), 2) := by decide +kernel
theorem dL_sharers_9 : decode cL_sharers 9 = .ok (.ireturn, 1) := by decide +kernel
theorem dL_next_0 : decode cL_next 0 = .ok (.aload_n 0, 1) := by decide +kernel
theorem dL_next_1 : decode cL_next 1 = .ok (.invokevirtual 116, 3) := by decide +kernel
theorem dL_next_4 : decode cL_next 4 = .ok (.ireturn, 1) := by decide +kernel
theorem dL_next_5 : decode cL_next 5 = .ok (.astore_n 1, 1) := by decide +kernel
theorem dL_next_6 : decode cL_next 6 = .ok (.bipush (-75), 2) := by decide +kernel
theorem dL_next_8 : decode cL_next 8 = .ok (.ireturn, 1) := by decide +kernel
theorem dL_groundedShare_0 : decode cL_groundedShare 0 = .ok (.aload_n 0, 1) := by decide +kernel
theorem dL_groundedShare_1 : decode cL_groundedShare 1 = .ok (.invokevirtual 121, 3) := by decide +kernel
theorem dL_groundedShare_4 : decode cL_groundedShare 4 = .ok (.freturn, 1) := by decide +kernel
theorem dL_groundedShare_5 : decode cL_groundedShare 5 = .ok (.astore_n 1, 1) := by decide +kernel
theorem dL_groundedShare_6 : decode cL_groundedShare 6 = .ok (.ldc 127, 2) := by decide +kernel
theorem dL_groundedShare_8 : decode cL_groundedShare 8 = .ok (.freturn, 1) := by decide +kernel
theorem dL_meanDrops_0 : decode cL_meanDrops 0 = .ok (.aload_n 0, 1) := by decide +kernel
theorem dL_meanDrops_1 : decode cL_meanDrops 1 = .ok (.invokevirtual 128, 3) := by decide +kernel
theorem dL_meanDrops_4 : decode cL_meanDrops 4 = .ok (.dreturn, 1) := by decide +kernel
theorem dL_meanDrops_5 : decode cL_meanDrops 5 = .ok (.astore_n 1, 1) := by decide +kernel
theorem dL_meanDrops_6 : decode cL_meanDrops 6 = .ok (.ldc2_w 132, 3) := by decide +kernel
theorem dL_meanDrops_9 : decode cL_meanDrops 9 = .ok (.dreturn, 1) := by decide +kernel
theorem dL_law_0 : decode cL_law 0 = .ok (.new 15, 3) := by decide +kernel
theorem dL_law_3 : decode cL_law 3 = .ok (.dup, 1) := by decide +kernel
theorem dL_law_4 : decode cL_law 4 = .ok (.invokespecial 134, 3) := by decide +kernel
theorem dL_law_7 : decode cL_law 7 = .ok (.astore_n 1, 1) := by decide +kernel
theorem dL_law_8 : decode cL_law 8 = .ok (.iconst 1, 1) := by decide +kernel
theorem dL_law_9 : decode cL_law 9 = .ok (.istore_n 2, 1) := by decide +kernel
theorem dL_law_10 : decode cL_law 10 = .ok (.iconst 1, 1) := by decide +kernel
theorem dL_law_11 : decode cL_law 11 = .ok (.istore_n 3, 1) := by decide +kernel
theorem dL_law_12 : decode cL_law 12 = .ok (.iconst 0, 1) := by decide +kernel
theorem dL_law_13 : decode cL_law 13 = .ok (.istore 4, 2) := by decide +kernel
theorem dL_law_15 : decode cL_law 15 = .ok (.iload 4, 2) := by decide +kernel
theorem dL_law_17 : decode cL_law 17 = .ok (.iconst 4, 1) := by decide +kernel
theorem dL_law_18 : decode cL_law 18 = .ok (.if_icmp .ge 53, 3) := by decide +kernel
theorem dL_law_21 : decode cL_law 21 = .ok (.iload_n 3, 1) := by decide +kernel
theorem dL_law_22 : decode cL_law 22 = .ok (.aload_n 1, 1) := by decide +kernel
theorem dL_law_23 : decode cL_law 23 = .ok (.bipush 63, 2) := by decide +kernel
theorem dL_law_25 : decode cL_law 25 = .ok (.aload_n 0, 1) := by decide +kernel
theorem dL_law_26 : decode cL_law 26 = .ok (.iload_n 2, 1) := by decide +kernel
theorem dL_law_27 : decode cL_law 27 = .ok (.iconst 3, 1) := by decide +kernel
theorem dL_law_28 : decode cL_law 28 = .ok (.invokestatic 135, 3) := by decide +kernel
theorem dL_law_31 : decode cL_law 31 = .ok (.isub, 1) := by decide +kernel
theorem dL_law_32 : decode cL_law 32 = .ok (.bipush 50, 2) := by decide +kernel
theorem dL_law_34 : decode cL_law 34 = .ok (.bipush 100, 2) := by decide +kernel
theorem dL_law_36 : decode cL_law 36 = .ok (.aload_n 0, 1) := by decide +kernel
theorem dL_law_37 : decode cL_law 37 = .ok (.iload_n 2, 1) := by decide +kernel
theorem dL_law_38 : decode cL_law 38 = .ok (.iconst 1, 1) := by decide +kernel
theorem dL_law_39 : decode cL_law 39 = .ok (.iadd, 1) := by decide +kernel
theorem dL_law_40 : decode cL_law 40 = .ok (.bipush 9, 2) := by decide +kernel
theorem dL_law_42 : decode cL_law 42 = .ok (.invokestatic 135, 3) := by decide +kernel
theorem dL_law_45 : decode cL_law 45 = .ok (.imul, 1) := by decide +kernel
theorem dL_law_46 : decode cL_law 46 = .ok (.iadd, 1) := by decide +kernel
theorem dL_law_47 : decode cL_law 47 = .ok (.invokestatic 139, 3) := by decide +kernel
theorem dL_law_50 : decode cL_law 50 = .ok (.iload 4, 2) := by decide +kernel
theorem dL_law_52 : decode cL_law 52 = .ok (.if_icmp .ne 7, 3) := by decide +kernel
theorem dL_law_55 : decode cL_law 55 = .ok (.iconst 1, 1) := by decide +kernel
theorem dL_law_56 : decode cL_law 56 = .ok (.goto 4, 3) := by decide +kernel
theorem dL_law_59 : decode cL_law 59 = .ok (.iconst 0, 1) := by decide +kernel
theorem dL_law_60 : decode cL_law 60 = .ok (.iand, 1) := by decide +kernel
theorem dL_law_61 : decode cL_law 61 = .ok (.istore_n 3, 1) := by decide +kernel
theorem dL_law_62 : decode cL_law 62 = .ok (.iinc 2 2, 3) := by decide +kernel
theorem dL_law_65 : decode cL_law 65 = .ok (.iinc 4 1, 3) := by decide +kernel
theorem dL_law_68 : decode cL_law 68 = .ok (.goto (-53), 3) := by decide +kernel
theorem dL_law_71 : decode cL_law 71 = .ok (.iconst 0, 1) := by decide +kernel
theorem dL_law_72 : decode cL_law 72 = .ok (.istore 4, 2) := by decide +kernel
theorem dL_law_74 : decode cL_law 74 = .ok (.iload 4, 2) := by decide +kernel
theorem dL_law_76 : decode cL_law 76 = .ok (.bipush 8, 2) := by decide +kernel
theorem dL_law_78 : decode cL_law 78 = .ok (.if_icmp .ge 70, 3) := by decide +kernel
theorem dL_law_81 : decode cL_law 81 = .ok (.iload_n 3, 1) := by decide +kernel
theorem dL_law_82 : decode cL_law 82 = .ok (.aload_n 1, 1) := by decide +kernel
theorem dL_law_83 : decode cL_law 83 = .ok (.iload 4, 2) := by decide +kernel
theorem dL_law_85 : decode cL_law 85 = .ok (.iconst 2, 1) := by decide +kernel
theorem dL_law_86 : decode cL_law 86 = .ok (.irem, 1) := by decide +kernel
theorem dL_law_87 : decode cL_law 87 = .ok (.ifCond .ne 8, 3) := by decide +kernel
theorem dL_law_90 : decode cL_law 90 = .ok (.bipush 109, 2) := by decide +kernel
theorem dL_law_92 : decode cL_law 92 = .ok (.goto 5, 3) := by decide +kernel
theorem dL_law_95 : decode cL_law 95 = .ok (.bipush 114, 2) := by decide +kernel
theorem dL_law_97 : decode cL_law 97 = .ok (.aload_n 0, 1) := by decide +kernel
theorem dL_law_98 : decode cL_law 98 = .ok (.iload_n 2, 1) := by decide +kernel
theorem dL_law_99 : decode cL_law 99 = .ok (.iconst 3, 1) := by decide +kernel
theorem dL_law_100 : decode cL_law 100 = .ok (.invokestatic 135, 3) := by decide +kernel
theorem dL_law_103 : decode cL_law 103 = .ok (.aload_n 0, 1) := by decide +kernel
theorem dL_law_104 : decode cL_law 104 = .ok (.iload_n 2, 1) := by decide +kernel
theorem dL_law_105 : decode cL_law 105 = .ok (.iconst 1, 1) := by decide +kernel
theorem dL_law_106 : decode cL_law 106 = .ok (.iadd, 1) := by decide +kernel
theorem dL_law_107 : decode cL_law 107 = .ok (.iconst 3, 1) := by decide +kernel
theorem dL_law_108 : decode cL_law 108 = .ok (.invokestatic 135, 3) := by decide +kernel
theorem dL_law_111 : decode cL_law 111 = .ok (.bipush 40, 2) := by decide +kernel
theorem dL_law_113 : decode cL_law 113 = .ok (.bipush 60, 2) := by decide +kernel
theorem dL_law_115 : decode cL_law 115 = .ok (.aload_n 0, 1) := by decide +kernel
theorem dL_law_116 : decode cL_law 116 = .ok (.iload_n 2, 1) := by decide +kernel
theorem dL_law_117 : decode cL_law 117 = .ok (.bipush 9, 2) := by decide +kernel
theorem dL_law_119 : decode cL_law 119 = .ok (.invokestatic 135, 3) := by decide +kernel
theorem dL_law_122 : decode cL_law 122 = .ok (.imul, 1) := by decide +kernel
theorem dL_law_123 : decode cL_law 123 = .ok (.iadd, 1) := by decide +kernel
theorem dL_law_124 : decode cL_law 124 = .ok (.invokestatic 142, 3) := by decide +kernel
theorem dL_law_127 : decode cL_law 127 = .ok (.iload 4, 2) := by decide +kernel
theorem dL_law_129 : decode cL_law 129 = .ok (.if_icmp .ne 7, 3) := by decide +kernel
theorem dL_law_132 : decode cL_law 132 = .ok (.iconst 1, 1) := by decide +kernel
theorem dL_law_133 : decode cL_law 133 = .ok (.goto 4, 3) := by decide +kernel
theorem dL_law_136 : decode cL_law 136 = .ok (.iconst 0, 1) := by decide +kernel
theorem dL_law_137 : decode cL_law 137 = .ok (.iand, 1) := by decide +kernel
theorem dL_law_138 : decode cL_law 138 = .ok (.istore_n 3, 1) := by decide +kernel
theorem dL_law_139 : decode cL_law 139 = .ok (.iinc 2 2, 3) := by decide +kernel
theorem dL_law_142 : decode cL_law 142 = .ok (.iinc 4 1, 3) := by decide +kernel
theorem dL_law_145 : decode cL_law 145 = .ok (.goto (-71), 3) := by decide +kernel
theorem dL_law_148 : decode cL_law 148 = .ok (.iload_n 3, 1) := by decide +kernel
theorem dL_law_149 : decode cL_law 149 = .ok (.aload_n 1, 1) := by decide +kernel
theorem dL_law_150 : decode cL_law 150 = .ok (.invokestatic 145, 3) := by decide +kernel
theorem dL_law_153 : decode cL_law 153 = .ok (.ifCond .ne 23, 3) := by decide +kernel
theorem dL_law_156 : decode cL_law 156 = .ok (.aload_n 1, 1) := by decide +kernel
theorem dL_law_157 : decode cL_law 157 = .ok (.invokestatic 145, 3) := by decide +kernel
theorem dL_law_160 : decode cL_law 160 = .ok (.iconst 1, 1) := by decide +kernel
theorem dL_law_161 : decode cL_law 161 = .ok (.if_icmp .ne 15, 3) := by decide +kernel
theorem dL_law_164 : decode cL_law 164 = .ok (.aload_n 1, 1) := by decide +kernel
theorem dL_law_165 : decode cL_law 165 = .ok (.invokestatic 145, 3) := by decide +kernel
theorem dL_law_168 : decode cL_law 168 = .ok (.iconst 2, 1) := by decide +kernel
theorem dL_law_169 : decode cL_law 169 = .ok (.if_icmp .ne 7, 3) := by decide +kernel
theorem dL_law_172 : decode cL_law 172 = .ok (.iconst 1, 1) := by decide +kernel
theorem dL_law_173 : decode cL_law 173 = .ok (.goto 4, 3) := by decide +kernel
theorem dL_law_176 : decode cL_law 176 = .ok (.iconst 0, 1) := by decide +kernel
theorem dL_law_177 : decode cL_law 177 = .ok (.iand, 1) := by decide +kernel
theorem dL_law_178 : decode cL_law 178 = .ok (.istore_n 3, 1) := by decide +kernel
theorem dL_law_179 : decode cL_law 179 = .ok (.bipush 8, 2) := by decide +kernel
theorem dL_law_181 : decode cL_law 181 = .ok (.newarray .long, 2) := by decide +kernel
theorem dL_law_183 : decode cL_law 183 = .ok (.astore 4, 2) := by decide +kernel
theorem dL_law_185 : decode cL_law 185 = .ok (.iconst 0, 1) := by decide +kernel
theorem dL_law_186 : decode cL_law 186 = .ok (.istore 5, 2) := by decide +kernel
theorem dL_law_188 : decode cL_law 188 = .ok (.iload 5, 2) := by decide +kernel
theorem dL_law_190 : decode cL_law 190 = .ok (.bipush 46, 2) := by decide +kernel
theorem dL_law_192 : decode cL_law 192 = .ok (.if_icmp .ge 107, 3) := by decide +kernel
theorem dL_law_195 : decode cL_law 195 = .ok (.iload_n 3, 1) := by decide +kernel
theorem dL_law_196 : decode cL_law 196 = .ok (.ifCond .eq 103, 3) := by decide +kernel
theorem dL_law_199 : decode cL_law 199 = .ok (.aload_n 1, 1) := by decide +kernel
theorem dL_law_200 : decode cL_law 200 = .ok (.invokevirtual 148, 3) := by decide +kernel
theorem dL_law_203 : decode cL_law 203 = .ok (.lstore 6, 2) := by decide +kernel
theorem dL_law_205 : decode cL_law 205 = .ok (.bipush 8, 2) := by decide +kernel
theorem dL_law_207 : decode cL_law 207 = .ok (.newarray .int, 2) := by decide +kernel
theorem dL_law_209 : decode cL_law 209 = .ok (.astore 8, 2) := by decide +kernel
theorem dL_law_211 : decode cL_law 211 = .ok (.iconst 0, 1) := by decide +kernel
theorem dL_law_212 : decode cL_law 212 = .ok (.istore 9, 2) := by decide +kernel
theorem dL_law_214 : decode cL_law 214 = .ok (.iload 9, 2) := by decide +kernel
theorem dL_law_216 : decode cL_law 216 = .ok (.bipush 8, 2) := by decide +kernel
theorem dL_law_218 : decode cL_law 218 = .ok (.if_icmp .ge 20, 3) := by decide +kernel
theorem dL_law_221 : decode cL_law 221 = .ok (.aload 8, 2) := by decide +kernel
theorem dL_law_223 : decode cL_law 223 = .ok (.iload 9, 2) := by decide +kernel
theorem dL_law_225 : decode cL_law 225 = .ok (.aload_n 1, 1) := by decide +kernel
theorem dL_law_226 : decode cL_law 226 = .ok (.iload 9, 2) := by decide +kernel
theorem dL_law_228 : decode cL_law 228 = .ok (.invokestatic 152, 3) := by decide +kernel
theorem dL_law_231 : decode cL_law 231 = .ok (.iastore, 1) := by decide +kernel
theorem dL_law_232 : decode cL_law 232 = .ok (.iinc 9 1, 3) := by decide +kernel
theorem dL_law_235 : decode cL_law 235 = .ok (.goto (-21), 3) := by decide +kernel
theorem dL_law_238 : decode cL_law 238 = .ok (.aload_n 1, 1) := by decide +kernel
theorem dL_law_239 : decode cL_law 239 = .ok (.aload_n 0, 1) := by decide +kernel
theorem dL_law_240 : decode cL_law 240 = .ok (.iload_n 2, 1) := by decide +kernel
theorem dL_law_241 : decode cL_law 241 = .ok (.aload 4, 2) := by decide +kernel
theorem dL_law_243 : decode cL_law 243 = .ok (.invokestatic 155, 3) := by decide +kernel
theorem dL_law_246 : decode cL_law 246 = .ok (.ifCond .eq 42, 3) := by decide +kernel
theorem dL_law_249 : decode cL_law 249 = .ok (.aload_n 1, 1) := by decide +kernel
theorem dL_law_250 : decode cL_law 250 = .ok (.invokevirtual 148, 3) := by decide +kernel
theorem dL_law_253 : decode cL_law 253 = .ok (.lload 6, 2) := by decide +kernel
theorem dL_law_255 : decode cL_law 255 = .ok (.lcmp, 1) := by decide +kernel
theorem dL_law_256 : decode cL_law 256 = .ok (.ifCond .lt 32, 3) := by decide +kernel
theorem dL_law_259 : decode cL_law 259 = .ok (.aload_n 1, 1) := by decide +kernel
theorem dL_law_260 : decode cL_law 260 = .ok (.aload 8, 2) := by decide +kernel
theorem dL_law_262 : decode cL_law 262 = .ok (.aload 4, 2) := by decide +kernel
theorem dL_law_264 : decode cL_law 264 = .ok (.invokestatic 159, 3) := by decide +kernel
theorem dL_law_267 : decode cL_law 267 = .ok (.ifCond .eq 21, 3) := by decide +kernel
theorem dL_law_270 : decode cL_law 270 = .ok (.aload_n 1, 1) := by decide +kernel
theorem dL_law_271 : decode cL_law 271 = .ok (.invokestatic 163, 3) := by decide +kernel
theorem dL_law_274 : decode cL_law 274 = .ok (.ifCond .eq 14, 3) := by decide +kernel
theorem dL_law_277 : decode cL_law 277 = .ok (.aload_n 1, 1) := by decide +kernel
theorem dL_law_278 : decode cL_law 278 = .ok (.invokevirtual 167, 3) := by decide +kernel
theorem dL_law_281 : decode cL_law 281 = .ok (.ifCond .eq 7, 3) := by decide +kernel
theorem dL_law_284 : decode cL_law 284 = .ok (.iconst 1, 1) := by decide +kernel
theorem dL_law_285 : decode cL_law 285 = .ok (.goto 4, 3) := by decide +kernel
theorem dL_law_288 : decode cL_law 288 = .ok (.iconst 0, 1) := by decide +kernel
theorem dL_law_289 : decode cL_law 289 = .ok (.istore_n 3, 1) := by decide +kernel
theorem dL_law_290 : decode cL_law 290 = .ok (.iinc 2 4, 3) := by decide +kernel
theorem dL_law_293 : decode cL_law 293 = .ok (.iinc 5 1, 3) := by decide +kernel
theorem dL_law_296 : decode cL_law 296 = .ok (.goto (-108), 3) := by decide +kernel
theorem dL_law_299 : decode cL_law 299 = .ok (.iload_n 3, 1) := by decide +kernel
theorem dL_law_300 : decode cL_law 300 = .ok (.ifCond .eq 14, 3) := by decide +kernel
theorem dL_law_303 : decode cL_law 303 = .ok (.aload_n 1, 1) := by decide +kernel
theorem dL_law_304 : decode cL_law 304 = .ok (.invokestatic 171, 3) := by decide +kernel
theorem dL_law_307 : decode cL_law 307 = .ok (.ifCond .eq 7, 3) := by decide +kernel
theorem dL_law_310 : decode cL_law 310 = .ok (.iconst 1, 1) := by decide +kernel
theorem dL_law_311 : decode cL_law 311 = .ok (.goto 4, 3) := by decide +kernel
theorem dL_law_314 : decode cL_law 314 = .ok (.iconst 0, 1) := by decide +kernel
theorem dL_law_315 : decode cL_law 315 = .ok (.ireturn, 1) := by decide +kernel
theorem dL_acts_0 : decode cL_acts 0 = .ok (.aload_n 1, 1) := by decide +kernel
theorem dL_acts_1 : decode cL_acts 1 = .ok (.iload_n 2, 1) := by decide +kernel
theorem dL_acts_2 : decode cL_acts 2 = .ok (.iconst 1, 1) := by decide +kernel
theorem dL_acts_3 : decode cL_acts 3 = .ok (.iadd, 1) := by decide +kernel
theorem dL_acts_4 : decode cL_acts 4 = .ok (.bipush 8, 2) := by decide +kernel
theorem dL_acts_6 : decode cL_acts 6 = .ok (.invokestatic 135, 3) := by decide +kernel
theorem dL_acts_9 : decode cL_acts 9 = .ok (.istore 4, 2) := by decide +kernel
theorem dL_acts_11 : decode cL_acts 11 = .ok (.aload_n 1, 1) := by decide +kernel
theorem dL_acts_12 : decode cL_acts 12 = .ok (.iload_n 2, 1) := by decide +kernel
theorem dL_acts_13 : decode cL_acts 13 = .ok (.iconst 2, 1) := by decide +kernel
theorem dL_acts_14 : decode cL_acts 14 = .ok (.iadd, 1) := by decide +kernel
theorem dL_acts_15 : decode cL_acts 15 = .ok (.iconst 4, 1) := by decide +kernel
theorem dL_acts_16 : decode cL_acts 16 = .ok (.invokestatic 135, 3) := by decide +kernel
theorem dL_acts_19 : decode cL_acts 19 = .ok (.istore 5, 2) := by decide +kernel
theorem dL_acts_21 : decode cL_acts 21 = .ok (.aload_n 1, 1) := by decide +kernel
theorem dL_acts_22 : decode cL_acts 22 = .ok (.iload_n 2, 1) := by decide +kernel
theorem dL_acts_23 : decode cL_acts 23 = .ok (.iconst 3, 1) := by decide +kernel
theorem dL_acts_24 : decode cL_acts 24 = .ok (.iadd, 1) := by decide +kernel
theorem dL_acts_25 : decode cL_acts 25 = .ok (.bipush 6, 2) := by decide +kernel
theorem dL_acts_27 : decode cL_acts 27 = .ok (.invokestatic 135, 3) := by decide +kernel
theorem dL_acts_30 : decode cL_acts 30 = .ok (.istore 6, 2) := by decide +kernel
theorem dL_acts_32 : decode cL_acts 32 = .ok (.aload_n 0, 1) := by decide +kernel
theorem dL_acts_33 : decode cL_acts 33 = .ok (.iload 4, 2) := by decide +kernel
theorem dL_acts_35 : decode cL_acts 35 = .ok (.invokestatic 174, 3) := by decide +kernel
theorem dL_acts_38 : decode cL_acts 38 = .ok (.i2c, 1) := by decide +kernel
theorem dL_acts_39 : decode cL_acts 39 = .ok (.istore 7, 2) := by decide +kernel
theorem dL_acts_41 : decode cL_acts 41 = .ok (.aload_n 1, 1) := by decide +kernel
theorem dL_acts_42 : decode cL_acts 42 = .ok (.iload_n 2, 1) := by decide +kernel
theorem dL_acts_43 : decode cL_acts 43 = .ok (.bipush 16, 2) := by decide +kernel
theorem dL_acts_45 : decode cL_acts 45 = .ok (.invokestatic 135, 3) := by decide +kernel
theorem dL_acts_48 : decode cL_acts 48 = .ok (.tableswitch 812 0 14 #[76, 76, 76, 76, 209, 262, 338, 386, 403, 403, 488, 523, 564, 602, 650], 76) := by decide +kernel
theorem dL_acts_124 : decode cL_acts 124 = .ok (.aload_n 0, 1) := by decide +kernel
theorem dL_acts_125 : decode cL_acts 125 = .ok (.iload 4, 2) := by decide +kernel
theorem dL_acts_127 : decode cL_acts 127 = .ok (.iload 6, 2) := by decide +kernel
theorem dL_acts_129 : decode cL_acts 129 = .ok (.invokestatic 176, 3) := by decide +kernel
theorem dL_acts_132 : decode cL_acts 132 = .ok (.istore 8, 2) := by decide +kernel
theorem dL_acts_134 : decode cL_acts 134 = .ok (.iload 8, 2) := by decide +kernel
theorem dL_acts_136 : decode cL_acts 136 = .ok (.ifCond .le 7, 3) := by decide +kernel
theorem dL_acts_139 : decode cL_acts 139 = .ok (.iconst 1, 1) := by decide +kernel
theorem dL_acts_140 : decode cL_acts 140 = .ok (.goto 4, 3) := by decide +kernel
theorem dL_acts_143 : decode cL_acts 143 = .ok (.iconst 0, 1) := by decide +kernel
theorem dL_acts_144 : decode cL_acts 144 = .ok (.istore 9, 2) := by decide +kernel
theorem dL_acts_146 : decode cL_acts 146 = .ok (.iconst 0, 1) := by decide +kernel
theorem dL_acts_147 : decode cL_acts 147 = .ok (.istore 10, 2) := by decide +kernel
theorem dL_acts_149 : decode cL_acts 149 = .ok (.iload 10, 2) := by decide +kernel
theorem dL_acts_151 : decode cL_acts 151 = .ok (.iconst 5, 1) := by decide +kernel
theorem dL_acts_152 : decode cL_acts 152 = .ok (.if_icmp .ge 51, 3) := by decide +kernel
theorem dL_acts_155 : decode cL_acts 155 = .ok (.iload 9, 2) := by decide +kernel
theorem dL_acts_157 : decode cL_acts 157 = .ok (.ifCond .eq 46, 3) := by decide +kernel
theorem dL_acts_160 : decode cL_acts 160 = .ok (.aload_n 0, 1) := by decide +kernel
theorem dL_acts_161 : decode cL_acts 161 = .ok (.iload 4, 2) := by decide +kernel
theorem dL_acts_163 : decode cL_acts 163 = .ok (.iload 10, 2) := by decide +kernel
theorem dL_acts_165 : decode cL_acts 165 = .ok (.iconst 4, 1) := by decide +kernel
theorem dL_acts_166 : decode cL_acts 166 = .ok (.if_icmp .ne 12, 3) := by decide +kernel
theorem dL_acts_169 : decode cL_acts 169 = .ok (.iload 5, 2) := by decide +kernel
theorem dL_acts_171 : decode cL_acts 171 = .ok (.iconst 1, 1) := by decide +kernel
theorem dL_acts_172 : decode cL_acts 172 = .ok (.iadd, 1) := by decide +kernel
theorem dL_acts_173 : decode cL_acts 173 = .ok (.iconst 4, 1) := by decide +kernel
theorem dL_acts_174 : decode cL_acts 174 = .ok (.irem, 1) := by decide +kernel
theorem dL_acts_175 : decode cL_acts 175 = .ok (.goto 5, 3) := by decide +kernel
theorem dL_acts_178 : decode cL_acts 178 = .ok (.iload 5, 2) := by decide +kernel
theorem dL_acts_180 : decode cL_acts 180 = .ok (.invokestatic 178, 3) := by decide +kernel
theorem dL_acts_183 : decode cL_acts 183 = .ok (.iload 10, 2) := by decide +kernel
theorem dL_acts_185 : decode cL_acts 185 = .ok (.iconst 1, 1) := by decide +kernel
theorem dL_acts_186 : decode cL_acts 186 = .ok (.iadd, 1) := by decide +kernel
theorem dL_acts_187 : decode cL_acts 187 = .ok (.if_icmp .ne 7, 3) := by decide +kernel
theorem dL_acts_190 : decode cL_acts 190 = .ok (.iconst 1, 1) := by decide +kernel
theorem dL_acts_191 : decode cL_acts 191 = .ok (.goto 4, 3) := by decide +kernel
theorem dL_acts_194 : decode cL_acts 194 = .ok (.iconst 0, 1) := by decide +kernel
theorem dL_acts_195 : decode cL_acts 195 = .ok (.istore 9, 2) := by decide +kernel
theorem dL_acts_197 : decode cL_acts 197 = .ok (.iinc 10 1, 3) := by decide +kernel
theorem dL_acts_200 : decode cL_acts 200 = .ok (.goto (-51), 3) := by decide +kernel
theorem dL_acts_203 : decode cL_acts 203 = .ok (.iload 8, 2) := by decide +kernel
theorem dL_acts_205 : decode cL_acts 205 = .ok (.ifCond .le 32, 3) := by decide +kernel
theorem dL_acts_208 : decode cL_acts 208 = .ok (.aload_n 0, 1) := by decide +kernel
theorem dL_acts_209 : decode cL_acts 209 = .ok (.iload 4, 2) := by decide +kernel
theorem dL_acts_211 : decode cL_acts 211 = .ok (.invokestatic 174, 3) := by decide +kernel
theorem dL_acts_214 : decode cL_acts 214 = .ok (.iload 9, 2) := by decide +kernel
theorem dL_acts_216 : decode cL_acts 216 = .ok (.ifCond .eq 8, 3) := by decide +kernel
theorem dL_acts_219 : decode cL_acts 219 = .ok (.bipush 107, 2) := by decide +kernel
theorem dL_acts_221 : decode cL_acts 221 = .ok (.goto 5, 3) := by decide +kernel
theorem dL_acts_224 : decode cL_acts 224 = .ok (.bipush 112, 2) := by decide +kernel
theorem dL_acts_226 : decode cL_acts 226 = .ok (.if_icmp .ne 7, 3) := by decide +kernel
theorem dL_acts_229 : decode cL_acts 229 = .ok (.iconst 1, 1) := by decide +kernel
theorem dL_acts_230 : decode cL_acts 230 = .ok (.goto 26, 3) := by decide +kernel
theorem dL_acts_233 : decode cL_acts 233 = .ok (.iconst 0, 1) := by decide +kernel
theorem dL_acts_234 : decode cL_acts 234 = .ok (.goto 22, 3) := by decide +kernel
theorem dL_acts_237 : decode cL_acts 237 = .ok (.iload 7, 2) := by decide +kernel
theorem dL_acts_239 : decode cL_acts 239 = .ok (.bipush 111, 2) := by decide +kernel
theorem dL_acts_241 : decode cL_acts 241 = .ok (.if_icmp .ne 10, 3) := by decide +kernel
theorem dL_acts_244 : decode cL_acts 244 = .ok (.iload 8, 2) := by decide +kernel
theorem dL_acts_246 : decode cL_acts 246 = .ok (.bipush (-79), 2) := by decide +kernel
theorem dL_acts_248 : decode cL_acts 248 = .ok (.if_icmp .ne 7, 3) := by decide +kernel
theorem dL_acts_251 : decode cL_acts 251 = .ok (.iconst 1, 1) := by decide +kernel
theorem dL_acts_252 : decode cL_acts 252 = .ok (.goto 4, 3) := by decide +kernel
theorem dL_acts_255 : decode cL_acts 255 = .ok (.iconst 0, 1) := by decide +kernel
theorem dL_acts_256 : decode cL_acts 256 = .ok (.ireturn, 1) := by decide +kernel
theorem dL_acts_257 : decode cL_acts 257 = .ok (.aload_n 0, 1) := by decide +kernel
theorem dL_acts_258 : decode cL_acts 258 = .ok (.iload 4, 2) := by decide +kernel
theorem dL_acts_260 : decode cL_acts 260 = .ok (.invokestatic 180, 3) := by decide +kernel
theorem dL_acts_263 : decode cL_acts 263 = .ok (.ifCond .lt 7, 3) := by decide +kernel
theorem dL_acts_266 : decode cL_acts 266 = .ok (.iconst 1, 1) := by decide +kernel
theorem dL_acts_267 : decode cL_acts 267 = .ok (.goto 4, 3) := by decide +kernel
theorem dL_acts_270 : decode cL_acts 270 = .ok (.iconst 0, 1) := by decide +kernel
theorem dL_acts_271 : decode cL_acts 271 = .ok (.iload 7, 2) := by decide +kernel
theorem dL_acts_273 : decode cL_acts 273 = .ok (.bipush 112, 2) := by decide +kernel
theorem dL_acts_275 : decode cL_acts 275 = .ok (.if_icmp .ne 7, 3) := by decide +kernel
theorem dL_acts_278 : decode cL_acts 278 = .ok (.iconst 1, 1) := by decide +kernel
theorem dL_acts_279 : decode cL_acts 279 = .ok (.goto 4, 3) := by decide +kernel
theorem dL_acts_282 : decode cL_acts 282 = .ok (.iconst 0, 1) := by decide +kernel
theorem dL_acts_283 : decode cL_acts 283 = .ok (.if_icmp .ne 25, 3) := by decide +kernel
theorem dL_acts_286 : decode cL_acts 286 = .ok (.iload 7, 2) := by decide +kernel
theorem dL_acts_288 : decode cL_acts 288 = .ok (.bipush 112, 2) := by decide +kernel
theorem dL_acts_290 : decode cL_acts 290 = .ok (.if_icmp .ne 14, 3) := by decide +kernel
theorem dL_acts_293 : decode cL_acts 293 = .ok (.aload_n 0, 1) := by decide +kernel
theorem dL_acts_294 : decode cL_acts 294 = .ok (.iload 4, 2) := by decide +kernel
theorem dL_acts_296 : decode cL_acts 296 = .ok (.invokestatic 174, 3) := by decide +kernel
theorem dL_acts_299 : decode cL_acts 299 = .ok (.bipush 111, 2) := by decide +kernel
theorem dL_acts_301 : decode cL_acts 301 = .ok (.if_icmp .ne 7, 3) := by decide +kernel
theorem dL_acts_304 : decode cL_acts 304 = .ok (.iconst 1, 1) := by decide +kernel
theorem dL_acts_305 : decode cL_acts 305 = .ok (.goto 4, 3) := by decide +kernel
theorem dL_acts_308 : decode cL_acts 308 = .ok (.iconst 0, 1) := by decide +kernel
theorem dL_acts_309 : decode cL_acts 309 = .ok (.ireturn, 1) := by decide +kernel
theorem dL_acts_310 : decode cL_acts 310 = .ok (.aload_n 0, 1) := by decide +kernel
theorem dL_acts_311 : decode cL_acts 311 = .ok (.iload 5, 2) := by decide +kernel
theorem dL_acts_313 : decode cL_acts 313 = .ok (.iconst 2, 1) := by decide +kernel
theorem dL_acts_314 : decode cL_acts 314 = .ok (.iload 4, 2) := by decide +kernel
theorem dL_acts_316 : decode cL_acts 316 = .ok (.iconst 2, 1) := by decide +kernel
theorem dL_acts_317 : decode cL_acts 317 = .ok (.idiv, 1) := by decide +kernel
theorem dL_acts_318 : decode cL_acts 318 = .ok (.imul, 1) := by decide +kernel
theorem dL_acts_319 : decode cL_acts 319 = .ok (.iconst 2, 1) := by decide +kernel
theorem dL_acts_320 : decode cL_acts 320 = .ok (.iload 6, 2) := by decide +kernel
theorem dL_acts_322 : decode cL_acts 322 = .ok (.iconst 4, 1) := by decide +kernel
theorem dL_acts_323 : decode cL_acts 323 = .ok (.irem, 1) := by decide +kernel
theorem dL_acts_324 : decode cL_acts 324 = .ok (.imul, 1) := by decide +kernel
theorem dL_acts_325 : decode cL_acts 325 = .ok (.iconst 1, 1) := by decide +kernel
theorem dL_acts_326 : decode cL_acts 326 = .ok (.iadd, 1) := by decide +kernel
theorem dL_acts_327 : decode cL_acts 327 = .ok (.invokestatic 182, 3) := by decide +kernel
theorem dL_acts_330 : decode cL_acts 330 = .ok (.istore 8, 2) := by decide +kernel
theorem dL_acts_332 : decode cL_acts 332 = .ok (.iload 8, 2) := by decide +kernel
theorem dL_acts_334 : decode cL_acts 334 = .ok (.ifCond .lt 46, 3) := by decide +kernel
theorem dL_acts_337 : decode cL_acts 337 = .ok (.aload_n 0, 1) := by decide +kernel
theorem dL_acts_338 : decode cL_acts 338 = .ok (.iconst 2, 1) := by decide +kernel
theorem dL_acts_339 : decode cL_acts 339 = .ok (.iload 4, 2) := by decide +kernel
theorem dL_acts_341 : decode cL_acts 341 = .ok (.iconst 2, 1) := by decide +kernel
theorem dL_acts_342 : decode cL_acts 342 = .ok (.idiv, 1) := by decide +kernel
theorem dL_acts_343 : decode cL_acts 343 = .ok (.imul, 1) := by decide +kernel
theorem dL_acts_344 : decode cL_acts 344 = .ok (.invokestatic 185, 3) := by decide +kernel
theorem dL_acts_347 : decode cL_acts 347 = .ok (.ifCond .ne 37, 3) := by decide +kernel
theorem dL_acts_350 : decode cL_acts 350 = .ok (.aload_n 0, 1) := by decide +kernel
theorem dL_acts_351 : decode cL_acts 351 = .ok (.iconst 2, 1) := by decide +kernel
theorem dL_acts_352 : decode cL_acts 352 = .ok (.iload 6, 2) := by decide +kernel
theorem dL_acts_354 : decode cL_acts 354 = .ok (.iconst 4, 1) := by decide +kernel
theorem dL_acts_355 : decode cL_acts 355 = .ok (.irem, 1) := by decide +kernel
theorem dL_acts_356 : decode cL_acts 356 = .ok (.imul, 1) := by decide +kernel
theorem dL_acts_357 : decode cL_acts 357 = .ok (.iconst 1, 1) := by decide +kernel
theorem dL_acts_358 : decode cL_acts 358 = .ok (.iadd, 1) := by decide +kernel
theorem dL_acts_359 : decode cL_acts 359 = .ok (.invokestatic 187, 3) := by decide +kernel
theorem dL_acts_362 : decode cL_acts 362 = .ok (.ifCond .ne 22, 3) := by decide +kernel
theorem dL_acts_365 : decode cL_acts 365 = .ok (.aload_n 0, 1) := by decide +kernel
theorem dL_acts_366 : decode cL_acts 366 = .ok (.iconst 2, 1) := by decide +kernel
theorem dL_acts_367 : decode cL_acts 367 = .ok (.iload 4, 2) := by decide +kernel
theorem dL_acts_369 : decode cL_acts 369 = .ok (.iconst 2, 1) := by decide +kernel
theorem dL_acts_370 : decode cL_acts 370 = .ok (.idiv, 1) := by decide +kernel
theorem dL_acts_371 : decode cL_acts 371 = .ok (.imul, 1) := by decide +kernel
theorem dL_acts_372 : decode cL_acts 372 = .ok (.invokestatic 174, 3) := by decide +kernel
theorem dL_acts_375 : decode cL_acts 375 = .ok (.bipush 97, 2) := by decide +kernel
theorem dL_acts_377 : decode cL_acts 377 = .ok (.if_icmp .ne 7, 3) := by decide +kernel
theorem dL_acts_380 : decode cL_acts 380 = .ok (.iconst 1, 1) := by decide +kernel
theorem dL_acts_381 : decode cL_acts 381 = .ok (.goto 4, 3) := by decide +kernel
theorem dL_acts_384 : decode cL_acts 384 = .ok (.iconst 0, 1) := by decide +kernel
theorem dL_acts_385 : decode cL_acts 385 = .ok (.ireturn, 1) := by decide +kernel
theorem dL_acts_386 : decode cL_acts 386 = .ok (.aload_n 0, 1) := by decide +kernel
theorem dL_acts_387 : decode cL_acts 387 = .ok (.iload 5, 2) := by decide +kernel
theorem dL_acts_389 : decode cL_acts 389 = .ok (.iload 6, 2) := by decide +kernel
theorem dL_acts_391 : decode cL_acts 391 = .ok (.invokestatic 189, 3) := by decide +kernel
theorem dL_acts_394 : decode cL_acts 394 = .ok (.istore 8, 2) := by decide +kernel
theorem dL_acts_396 : decode cL_acts 396 = .ok (.iload 8, 2) := by decide +kernel
theorem dL_acts_398 : decode cL_acts 398 = .ok (.bipush (-76), 2) := by decide +kernel
theorem dL_acts_400 : decode cL_acts 400 = .ok (.if_icmp .eq 28, 3) := by decide +kernel
theorem dL_acts_403 : decode cL_acts 403 = .ok (.iload 8, 2) := by decide +kernel
theorem dL_acts_405 : decode cL_acts 405 = .ok (.bipush (-77), 2) := by decide +kernel
theorem dL_acts_407 : decode cL_acts 407 = .ok (.if_icmp .eq 21, 3) := by decide +kernel
theorem dL_acts_410 : decode cL_acts 410 = .ok (.iload 8, 2) := by decide +kernel
theorem dL_acts_412 : decode cL_acts 412 = .ok (.ifCond .le 20, 3) := by decide +kernel
theorem dL_acts_415 : decode cL_acts 415 = .ok (.aload_n 0, 1) := by decide +kernel
theorem dL_acts_416 : decode cL_acts 416 = .ok (.iload 5, 2) := by decide +kernel
theorem dL_acts_418 : decode cL_acts 418 = .ok (.iload 6, 2) := by decide +kernel
theorem dL_acts_420 : decode cL_acts 420 = .ok (.invokestatic 189, 3) := by decide +kernel
theorem dL_acts_423 : decode cL_acts 423 = .ok (.bipush (-76), 2) := by decide +kernel
theorem dL_acts_425 : decode cL_acts 425 = .ok (.if_icmp .ne 7, 3) := by decide +kernel
theorem dL_acts_428 : decode cL_acts 428 = .ok (.iconst 1, 1) := by decide +kernel
theorem dL_acts_429 : decode cL_acts 429 = .ok (.goto 4, 3) := by decide +kernel
theorem dL_acts_432 : decode cL_acts 432 = .ok (.iconst 0, 1) := by decide +kernel
theorem dL_acts_433 : decode cL_acts 433 = .ok (.ireturn, 1) := by decide +kernel
theorem dL_acts_434 : decode cL_acts 434 = .ok (.aload_n 0, 1) := by decide +kernel
theorem dL_acts_435 : decode cL_acts 435 = .ok (.iload 5, 2) := by decide +kernel
theorem dL_acts_437 : decode cL_acts 437 = .ok (.invokestatic 191, 3) := by decide +kernel
theorem dL_acts_440 : decode cL_acts 440 = .ok (.bipush (-77), 2) := by decide +kernel
theorem dL_acts_442 : decode cL_acts 442 = .ok (.if_icmp .lt 7, 3) := by decide +kernel
theorem dL_acts_445 : decode cL_acts 445 = .ok (.iconst 1, 1) := by decide +kernel
theorem dL_acts_446 : decode cL_acts 446 = .ok (.goto 4, 3) := by decide +kernel
theorem dL_acts_449 : decode cL_acts 449 = .ok (.iconst 0, 1) := by decide +kernel
theorem dL_acts_450 : decode cL_acts 450 = .ok (.ireturn, 1) := by decide +kernel
theorem dL_acts_451 : decode cL_acts 451 = .ok (.aload_n 0, 1) := by decide +kernel
theorem dL_acts_452 : decode cL_acts 452 = .ok (.iload 4, 2) := by decide +kernel
theorem dL_acts_454 : decode cL_acts 454 = .ok (.iload 6, 2) := by decide +kernel
theorem dL_acts_456 : decode cL_acts 456 = .ok (.ifCond .le 7, 3) := by decide +kernel
theorem dL_acts_459 : decode cL_acts 459 = .ok (.iconst 1, 1) := by decide +kernel
theorem dL_acts_460 : decode cL_acts 460 = .ok (.goto 4, 3) := by decide +kernel
theorem dL_acts_463 : decode cL_acts 463 = .ok (.iconst 0, 1) := by decide +kernel
theorem dL_acts_464 : decode cL_acts 464 = .ok (.invokestatic 193, 3) := by decide +kernel
theorem dL_acts_467 : decode cL_acts 467 = .ok (.istore 8, 2) := by decide +kernel
theorem dL_acts_469 : decode cL_acts 469 = .ok (.iload 8, 2) := by decide +kernel
theorem dL_acts_471 : decode cL_acts 471 = .ok (.ifCond .ge 18, 3) := by decide +kernel
theorem dL_acts_474 : decode cL_acts 474 = .ok (.iload 7, 2) := by decide +kernel
theorem dL_acts_476 : decode cL_acts 476 = .ok (.bipush 107, 2) := by decide +kernel
theorem dL_acts_478 : decode cL_acts 478 = .ok (.if_icmp .eq 7, 3) := by decide +kernel
theorem dL_acts_481 : decode cL_acts 481 = .ok (.iconst 1, 1) := by decide +kernel
theorem dL_acts_482 : decode cL_acts 482 = .ok (.goto 53, 3) := by decide +kernel
theorem dL_acts_485 : decode cL_acts 485 = .ok (.iconst 0, 1) := by decide +kernel
theorem dL_acts_486 : decode cL_acts 486 = .ok (.goto 49, 3) := by decide +kernel
theorem dL_acts_489 : decode cL_acts 489 = .ok (.iload 7, 2) := by decide +kernel
theorem dL_acts_491 : decode cL_acts 491 = .ok (.bipush 107, 2) := by decide +kernel
theorem dL_acts_493 : decode cL_acts 493 = .ok (.if_icmp .ne 41, 3) := by decide +kernel
theorem dL_acts_496 : decode cL_acts 496 = .ok (.aload_n 0, 1) := by decide +kernel
theorem dL_acts_497 : decode cL_acts 497 = .ok (.iload 4, 2) := by decide +kernel
theorem dL_acts_499 : decode cL_acts 499 = .ok (.invokestatic 174, 3) := by decide +kernel
theorem dL_acts_502 : decode cL_acts 502 = .ok (.bipush 111, 2) := by decide +kernel
theorem dL_acts_504 : decode cL_acts 504 = .ok (.if_icmp .ne 30, 3) := by decide +kernel
theorem dL_acts_507 : decode cL_acts 507 = .ok (.iload 8, 2) := by decide +kernel
theorem dL_acts_509 : decode cL_acts 509 = .ok (.ifCond .le 7, 3) := by decide +kernel
theorem dL_acts_512 : decode cL_acts 512 = .ok (.iconst 1, 1) := by decide +kernel
theorem dL_acts_513 : decode cL_acts 513 = .ok (.goto 4, 3) := by decide +kernel
theorem dL_acts_516 : decode cL_acts 516 = .ok (.iconst 0, 1) := by decide +kernel
theorem dL_acts_517 : decode cL_acts 517 = .ok (.iload 6, 2) := by decide +kernel
theorem dL_acts_519 : decode cL_acts 519 = .ok (.ifCond .le 7, 3) := by decide +kernel
theorem dL_acts_522 : decode cL_acts 522 = .ok (.iconst 1, 1) := by decide +kernel
theorem dL_acts_523 : decode cL_acts 523 = .ok (.goto 4, 3) := by decide +kernel
theorem dL_acts_526 : decode cL_acts 526 = .ok (.iconst 0, 1) := by decide +kernel
theorem dL_acts_527 : decode cL_acts 527 = .ok (.if_icmp .ne 7, 3) := by decide +kernel
theorem dL_acts_530 : decode cL_acts 530 = .ok (.iconst 1, 1) := by decide +kernel
theorem dL_acts_531 : decode cL_acts 531 = .ok (.goto 4, 3) := by decide +kernel
theorem dL_acts_534 : decode cL_acts 534 = .ok (.iconst 0, 1) := by decide +kernel
theorem dL_acts_535 : decode cL_acts 535 = .ok (.ireturn, 1) := by decide +kernel
theorem dL_acts_536 : decode cL_acts 536 = .ok (.aload_n 0, 1) := by decide +kernel
theorem dL_acts_537 : decode cL_acts 537 = .ok (.iload 4, 2) := by decide +kernel
theorem dL_acts_539 : decode cL_acts 539 = .ok (.iload 5, 2) := by decide +kernel
theorem dL_acts_541 : decode cL_acts 541 = .ok (.invokestatic 196, 3) := by decide +kernel
theorem dL_acts_544 : decode cL_acts 544 = .ok (.ifCond .gt 21, 3) := by decide +kernel
theorem dL_acts_547 : decode cL_acts 547 = .ok (.iload 7, 2) := by decide +kernel
theorem dL_acts_549 : decode cL_acts 549 = .ok (.bipush 111, 2) := by decide +kernel
theorem dL_acts_551 : decode cL_acts 551 = .ok (.if_icmp .ne 14, 3) := by decide +kernel
theorem dL_acts_554 : decode cL_acts 554 = .ok (.aload_n 0, 1) := by decide +kernel
theorem dL_acts_555 : decode cL_acts 555 = .ok (.iload 4, 2) := by decide +kernel
theorem dL_acts_557 : decode cL_acts 557 = .ok (.invokestatic 174, 3) := by decide +kernel
theorem dL_acts_560 : decode cL_acts 560 = .ok (.bipush 111, 2) := by decide +kernel
theorem dL_acts_562 : decode cL_acts 562 = .ok (.if_icmp .ne 7, 3) := by decide +kernel
theorem dL_acts_565 : decode cL_acts 565 = .ok (.iconst 1, 1) := by decide +kernel
theorem dL_acts_566 : decode cL_acts 566 = .ok (.goto 4, 3) := by decide +kernel
theorem dL_acts_569 : decode cL_acts 569 = .ok (.iconst 0, 1) := by decide +kernel
theorem dL_acts_570 : decode cL_acts 570 = .ok (.ireturn, 1) := by decide +kernel
theorem dL_acts_571 : decode cL_acts 571 = .ok (.aload_n 0, 1) := by decide +kernel
theorem dL_acts_572 : decode cL_acts 572 = .ok (.iload 4, 2) := by decide +kernel
theorem dL_acts_574 : decode cL_acts 574 = .ok (.invokestatic 198, 3) := by decide +kernel
theorem dL_acts_577 : decode cL_acts 577 = .ok (.istore 8, 2) := by decide +kernel
theorem dL_acts_579 : decode cL_acts 579 = .ok (.iload 8, 2) := by decide +kernel
theorem dL_acts_581 : decode cL_acts 581 = .ok (.bipush (-79), 2) := by decide +kernel
theorem dL_acts_583 : decode cL_acts 583 = .ok (.if_icmp .eq 23, 3) := by decide +kernel
theorem dL_acts_586 : decode cL_acts 586 = .ok (.aload_n 0, 1) := by decide +kernel
theorem dL_acts_587 : decode cL_acts 587 = .ok (.iload 4, 2) := by decide +kernel
theorem dL_acts_589 : decode cL_acts 589 = .ok (.invokestatic 185, 3) := by decide +kernel
theorem dL_acts_592 : decode cL_acts 592 = .ok (.iconst 1, 1) := by decide +kernel
theorem dL_acts_593 : decode cL_acts 593 = .ok (.if_icmp .ne 17, 3) := by decide +kernel
theorem dL_acts_596 : decode cL_acts 596 = .ok (.aload_n 0, 1) := by decide +kernel
theorem dL_acts_597 : decode cL_acts 597 = .ok (.iload 8, 2) := by decide +kernel
theorem dL_acts_599 : decode cL_acts 599 = .ok (.invokestatic 200, 3) := by decide +kernel
theorem dL_acts_602 : decode cL_acts 602 = .ok (.iconst 1, 1) := by decide +kernel
theorem dL_acts_603 : decode cL_acts 603 = .ok (.if_icmp .ne 7, 3) := by decide +kernel
theorem dL_acts_606 : decode cL_acts 606 = .ok (.iconst 1, 1) := by decide +kernel
theorem dL_acts_607 : decode cL_acts 607 = .ok (.goto 4, 3) := by decide +kernel
theorem dL_acts_610 : decode cL_acts 610 = .ok (.iconst 0, 1) := by decide +kernel
theorem dL_acts_611 : decode cL_acts 611 = .ok (.ireturn, 1) := by decide +kernel
theorem dL_acts_612 : decode cL_acts 612 = .ok (.aload_n 0, 1) := by decide +kernel
theorem dL_acts_613 : decode cL_acts 613 = .ok (.iload 4, 2) := by decide +kernel
theorem dL_acts_615 : decode cL_acts 615 = .ok (.invokestatic 200, 3) := by decide +kernel
theorem dL_acts_618 : decode cL_acts 618 = .ok (.istore 8, 2) := by decide +kernel
theorem dL_acts_620 : decode cL_acts 620 = .ok (.aload_n 0, 1) := by decide +kernel
theorem dL_acts_621 : decode cL_acts 621 = .ok (.iload 4, 2) := by decide +kernel
theorem dL_acts_623 : decode cL_acts 623 = .ok (.invokestatic 202, 3) := by decide +kernel
theorem dL_acts_626 : decode cL_acts 626 = .ok (.istore 9, 2) := by decide +kernel
theorem dL_acts_628 : decode cL_acts 628 = .ok (.iload 9, 2) := by decide +kernel
theorem dL_acts_630 : decode cL_acts 630 = .ok (.ifCond .lt 14, 3) := by decide +kernel
theorem dL_acts_633 : decode cL_acts 633 = .ok (.aload_n 0, 1) := by decide +kernel
theorem dL_acts_634 : decode cL_acts 634 = .ok (.iload 4, 2) := by decide +kernel
theorem dL_acts_636 : decode cL_acts 636 = .ok (.invokestatic 200, 3) := by decide +kernel
theorem dL_acts_639 : decode cL_acts 639 = .ok (.iload 8, 2) := by decide +kernel
theorem dL_acts_641 : decode cL_acts 641 = .ok (.if_icmp .lt 7, 3) := by decide +kernel
theorem dL_acts_644 : decode cL_acts 644 = .ok (.iconst 1, 1) := by decide +kernel
theorem dL_acts_645 : decode cL_acts 645 = .ok (.goto 4, 3) := by decide +kernel
theorem dL_acts_648 : decode cL_acts 648 = .ok (.iconst 0, 1) := by decide +kernel
theorem dL_acts_649 : decode cL_acts 649 = .ok (.ireturn, 1) := by decide +kernel
theorem dL_acts_650 : decode cL_acts 650 = .ok (.aload_n 0, 1) := by decide +kernel
theorem dL_acts_651 : decode cL_acts 651 = .ok (.iload 4, 2) := by decide +kernel
theorem dL_acts_653 : decode cL_acts 653 = .ok (.ldc 204, 2) := by decide +kernel
theorem dL_acts_655 : decode cL_acts 655 = .ok (.iload 6, 2) := by decide +kernel
theorem dL_acts_657 : decode cL_acts 657 = .ok (.iconst 5, 1) := by decide +kernel
theorem dL_acts_658 : decode cL_acts 658 = .ok (.irem, 1) := by decide +kernel
theorem dL_acts_659 : decode cL_acts 659 = .ok (.invokevirtual 206, 3) := by decide +kernel
theorem dL_acts_662 : decode cL_acts 662 = .ok (.invokestatic 211, 3) := by decide +kernel
theorem dL_acts_665 : decode cL_acts 665 = .ok (.ifCond .eq 31, 3) := by decide +kernel
theorem dL_acts_668 : decode cL_acts 668 = .ok (.iload 5, 2) := by decide +kernel
theorem dL_acts_670 : decode cL_acts 670 = .ok (.ifCond .gt 22, 3) := by decide +kernel
theorem dL_acts_673 : decode cL_acts 673 = .ok (.aload_n 0, 1) := by decide +kernel
theorem dL_acts_674 : decode cL_acts 674 = .ok (.iload 4, 2) := by decide +kernel
theorem dL_acts_676 : decode cL_acts 676 = .ok (.invokestatic 214, 3) := by decide +kernel
theorem dL_acts_679 : decode cL_acts 679 = .ok (.iconst 1, 1) := by decide +kernel
theorem dL_acts_680 : decode cL_acts 680 = .ok (.if_icmp .lt 12, 3) := by decide +kernel
theorem dL_acts_683 : decode cL_acts 683 = .ok (.aload_n 0, 1) := by decide +kernel
theorem dL_acts_684 : decode cL_acts 684 = .ok (.iload 4, 2) := by decide +kernel
theorem dL_acts_686 : decode cL_acts 686 = .ok (.invokestatic 200, 3) := by decide +kernel
theorem dL_acts_689 : decode cL_acts 689 = .ok (.ifCond .ne 7, 3) := by decide +kernel
theorem dL_acts_692 : decode cL_acts 692 = .ok (.iconst 1, 1) := by decide +kernel
theorem dL_acts_693 : decode cL_acts 693 = .ok (.goto 4, 3) := by decide +kernel
theorem dL_acts_696 : decode cL_acts 696 = .ok (.iconst 0, 1) := by decide +kernel
theorem dL_acts_697 : decode cL_acts 697 = .ok (.ireturn, 1) := by decide +kernel
theorem dL_acts_698 : decode cL_acts 698 = .ok (.iload 7, 2) := by decide +kernel
theorem dL_acts_700 : decode cL_acts 700 = .ok (.bipush 104, 2) := by decide +kernel
theorem dL_acts_702 : decode cL_acts 702 = .ok (.if_icmp .ne 85, 3) := by decide +kernel
theorem dL_acts_705 : decode cL_acts 705 = .ok (.aload_n 0, 1) := by decide +kernel
theorem dL_acts_706 : decode cL_acts 706 = .ok (.iload 4, 2) := by decide +kernel
theorem dL_acts_708 : decode cL_acts 708 = .ok (.iload 6, 2) := by decide +kernel
theorem dL_acts_710 : decode cL_acts 710 = .ok (.iconst 2, 1) := by decide +kernel
theorem dL_acts_711 : decode cL_acts 711 = .ok (.if_icmp .le 7, 3) := by decide +kernel
theorem dL_acts_714 : decode cL_acts 714 = .ok (.iconst 1, 1) := by decide +kernel
theorem dL_acts_715 : decode cL_acts 715 = .ok (.goto 4, 3) := by decide +kernel
theorem dL_acts_718 : decode cL_acts 718 = .ok (.iconst 0, 1) := by decide +kernel
theorem dL_acts_719 : decode cL_acts 719 = .ok (.iload 5, 2) := by decide +kernel
theorem dL_acts_721 : decode cL_acts 721 = .ok (.ifCond .ne 7, 3) := by decide +kernel
theorem dL_acts_724 : decode cL_acts 724 = .ok (.iconst 1, 1) := by decide +kernel
theorem dL_acts_725 : decode cL_acts 725 = .ok (.goto 4, 3) := by decide +kernel
theorem dL_acts_728 : decode cL_acts 728 = .ok (.iconst 0, 1) := by decide +kernel
theorem dL_acts_729 : decode cL_acts 729 = .ok (.invokestatic 216, 3) := by decide +kernel
theorem dL_acts_732 : decode cL_acts 732 = .ok (.istore 8, 2) := by decide +kernel
theorem dL_acts_734 : decode cL_acts 734 = .ok (.aload_n 3, 1) := by decide +kernel
theorem dL_acts_735 : decode cL_acts 735 = .ok (.iload 4, 2) := by decide +kernel
theorem dL_acts_737 : decode cL_acts 737 = .ok (.laload, 1) := by decide +kernel
theorem dL_acts_738 : decode cL_acts 738 = .ok (.lstore 9, 2) := by decide +kernel
theorem dL_acts_740 : decode cL_acts 740 = .ok (.aload_n 3, 1) := by decide +kernel
theorem dL_acts_741 : decode cL_acts 741 = .ok (.iload 4, 2) := by decide +kernel
theorem dL_acts_743 : decode cL_acts 743 = .ok (.lconst 0, 1) := by decide +kernel
theorem dL_acts_744 : decode cL_acts 744 = .ok (.lastore, 1) := by decide +kernel
theorem dL_acts_745 : decode cL_acts 745 = .ok (.iload 8, 2) := by decide +kernel
theorem dL_acts_747 : decode cL_acts 747 = .ok (.ifCond .lt 38, 3) := by decide +kernel
theorem dL_acts_750 : decode cL_acts 750 = .ok (.iload 8, 2) := by decide +kernel
theorem dL_acts_752 : decode cL_acts 752 = .ok (.i2l, 1) := by decide +kernel
theorem dL_acts_753 : decode cL_acts 753 = .ok (.lload 9, 2) := by decide +kernel
theorem dL_acts_755 : decode cL_acts 755 = .ok (.lcmp, 1) := by decide +kernel
theorem dL_acts_756 : decode cL_acts 756 = .ok (.ifCond .gt 29, 3) := by decide +kernel
theorem dL_acts_759 : decode cL_acts 759 = .ok (.aload_n 0, 1) := by decide +kernel
theorem dL_acts_760 : decode cL_acts 760 = .ok (.iload 4, 2) := by decide +kernel
theorem dL_acts_762 : decode cL_acts 762 = .ok (.invokestatic 174, 3) := by decide +kernel
theorem dL_acts_765 : decode cL_acts 765 = .ok (.iload 6, 2) := by decide +kernel
theorem dL_acts_767 : decode cL_acts 767 = .ok (.iconst 2, 1) := by decide +kernel
theorem dL_acts_768 : decode cL_acts 768 = .ok (.if_icmp .le 8, 3) := by decide +kernel
theorem dL_acts_771 : decode cL_acts 771 = .ok (.bipush 111, 2) := by decide +kernel
theorem dL_acts_773 : decode cL_acts 773 = .ok (.goto 5, 3) := by decide +kernel
theorem dL_acts_776 : decode cL_acts 776 = .ok (.bipush 107, 2) := by decide +kernel
theorem dL_acts_778 : decode cL_acts 778 = .ok (.if_icmp .ne 7, 3) := by decide +kernel
theorem dL_acts_781 : decode cL_acts 781 = .ok (.iconst 1, 1) := by decide +kernel
theorem dL_acts_782 : decode cL_acts 782 = .ok (.goto 4, 3) := by decide +kernel
theorem dL_acts_785 : decode cL_acts 785 = .ok (.iconst 0, 1) := by decide +kernel
theorem dL_acts_786 : decode cL_acts 786 = .ok (.ireturn, 1) := by decide +kernel
theorem dL_acts_787 : decode cL_acts 787 = .ok (.aload_n 0, 1) := by decide +kernel
theorem dL_acts_788 : decode cL_acts 788 = .ok (.iload 4, 2) := by decide +kernel
theorem dL_acts_790 : decode cL_acts 790 = .ok (.iconst 1, 1) := by decide +kernel
theorem dL_acts_791 : decode cL_acts 791 = .ok (.iload 6, 2) := by decide +kernel
theorem dL_acts_793 : decode cL_acts 793 = .ok (.iadd, 1) := by decide +kernel
theorem dL_acts_794 : decode cL_acts 794 = .ok (.bipush 20, 2) := by decide +kernel
theorem dL_acts_796 : decode cL_acts 796 = .ok (.iload 5, 2) := by decide +kernel
theorem dL_acts_798 : decode cL_acts 798 = .ok (.imul, 1) := by decide +kernel
theorem dL_acts_799 : decode cL_acts 799 = .ok (.invokestatic 219, 3) := by decide +kernel
theorem dL_acts_802 : decode cL_acts 802 = .ok (.istore 8, 2) := by decide +kernel
theorem dL_acts_804 : decode cL_acts 804 = .ok (.aload_n 3, 1) := by decide +kernel
theorem dL_acts_805 : decode cL_acts 805 = .ok (.iload 4, 2) := by decide +kernel
theorem dL_acts_807 : decode cL_acts 807 = .ok (.iload 8, 2) := by decide +kernel
theorem dL_acts_809 : decode cL_acts 809 = .ok (.ifCond .le 13, 3) := by decide +kernel
theorem dL_acts_812 : decode cL_acts 812 = .ok (.ldc2_w 221, 3) := by decide +kernel
theorem dL_acts_815 : decode cL_acts 815 = .ok (.iload 5, 2) := by decide +kernel
theorem dL_acts_817 : decode cL_acts 817 = .ok (.i2l, 1) := by decide +kernel
theorem dL_acts_818 : decode cL_acts 818 = .ok (.lmul, 1) := by decide +kernel
theorem dL_acts_819 : decode cL_acts 819 = .ok (.goto 4, 3) := by decide +kernel
theorem dL_acts_822 : decode cL_acts 822 = .ok (.lconst 0, 1) := by decide +kernel
theorem dL_acts_823 : decode cL_acts 823 = .ok (.lastore, 1) := by decide +kernel
theorem dL_acts_824 : decode cL_acts 824 = .ok (.iload 8, 2) := by decide +kernel
theorem dL_acts_826 : decode cL_acts 826 = .ok (.bipush (-76), 2) := by decide +kernel
theorem dL_acts_828 : decode cL_acts 828 = .ok (.if_icmp .eq 26, 3) := by decide +kernel
theorem dL_acts_831 : decode cL_acts 831 = .ok (.iload 8, 2) := by decide +kernel
theorem dL_acts_833 : decode cL_acts 833 = .ok (.ifCond .le 25, 3) := by decide +kernel
theorem dL_acts_836 : decode cL_acts 836 = .ok (.iload 7, 2) := by decide +kernel
theorem dL_acts_838 : decode cL_acts 838 = .ok (.bipush 107, 2) := by decide +kernel
theorem dL_acts_840 : decode cL_acts 840 = .ok (.if_icmp .ne 18, 3) := by decide +kernel
theorem dL_acts_843 : decode cL_acts 843 = .ok (.aload_n 0, 1) := by decide +kernel
theorem dL_acts_844 : decode cL_acts 844 = .ok (.iload 4, 2) := by decide +kernel
theorem dL_acts_846 : decode cL_acts 846 = .ok (.invokestatic 174, 3) := by decide +kernel
theorem dL_acts_849 : decode cL_acts 849 = .ok (.bipush 104, 2) := by decide +kernel
theorem dL_acts_851 : decode cL_acts 851 = .ok (.if_icmp .ne 7, 3) := by decide +kernel
theorem dL_acts_854 : decode cL_acts 854 = .ok (.iconst 1, 1) := by decide +kernel
theorem dL_acts_855 : decode cL_acts 855 = .ok (.goto 4, 3) := by decide +kernel
theorem dL_acts_858 : decode cL_acts 858 = .ok (.iconst 0, 1) := by decide +kernel
theorem dL_acts_859 : decode cL_acts 859 = .ok (.ireturn, 1) := by decide +kernel
theorem dL_acts_860 : decode cL_acts 860 = .ok (.aload_n 0, 1) := by decide +kernel
theorem dL_acts_861 : decode cL_acts 861 = .ok (.iconst 1, 1) := by decide +kernel
theorem dL_acts_862 : decode cL_acts 862 = .ok (.bipush 7, 2) := by decide +kernel
theorem dL_acts_864 : decode cL_acts 864 = .ok (.iload 6, 2) := by decide +kernel
theorem dL_acts_866 : decode cL_acts 866 = .ok (.imul, 1) := by decide +kernel
theorem dL_acts_867 : decode cL_acts 867 = .ok (.iadd, 1) := by decide +kernel
theorem dL_acts_868 : decode cL_acts 868 = .ok (.invokestatic 223, 3) := by decide +kernel
theorem dL_acts_871 : decode cL_acts 871 = .ok (.ifCond .le 7, 3) := by decide +kernel
theorem dL_acts_874 : decode cL_acts 874 = .ok (.iconst 1, 1) := by decide +kernel
theorem dL_acts_875 : decode cL_acts 875 = .ok (.goto 4, 3) := by decide +kernel
theorem dL_acts_878 : decode cL_acts 878 = .ok (.iconst 0, 1) := by decide +kernel
theorem dL_acts_879 : decode cL_acts 879 = .ok (.ireturn, 1) := by decide +kernel
theorem dL_areCanopies_0 : decode cL_areCanopies 0 = .ok (.iconst 1, 1) := by decide +kernel
theorem dL_areCanopies_1 : decode cL_areCanopies 1 = .ok (.istore_n 3, 1) := by decide +kernel
theorem dL_areCanopies_2 : decode cL_areCanopies 2 = .ok (.lconst 0, 1) := by decide +kernel
theorem dL_areCanopies_3 : decode cL_areCanopies 3 = .ok (.lstore 4, 2) := by decide +kernel
theorem dL_areCanopies_5 : decode cL_areCanopies 5 = .ok (.iconst 0, 1) := by decide +kernel
theorem dL_areCanopies_6 : decode cL_areCanopies 6 = .ok (.istore 6, 2) := by decide +kernel
theorem dL_areCanopies_8 : decode cL_areCanopies 8 = .ok (.iconst 0, 1) := by decide +kernel
theorem dL_areCanopies_9 : decode cL_areCanopies 9 = .ok (.istore 7, 2) := by decide +kernel
theorem dL_areCanopies_11 : decode cL_areCanopies 11 = .ok (.iload 7, 2) := by decide +kernel
theorem dL_areCanopies_13 : decode cL_areCanopies 13 = .ok (.bipush 8, 2) := by decide +kernel
theorem dL_areCanopies_15 : decode cL_areCanopies 15 = .ok (.if_icmp .ge 290, 3) := by decide +kernel
theorem dL_areCanopies_18 : decode cL_areCanopies 18 = .ok (.aload_n 0, 1) := by decide +kernel
theorem dL_areCanopies_19 : decode cL_areCanopies 19 = .ok (.iload 7, 2) := by decide +kernel
theorem dL_areCanopies_21 : decode cL_areCanopies 21 = .ok (.invokestatic 174, 3) := by decide +kernel
theorem dL_areCanopies_24 : decode cL_areCanopies 24 = .ok (.i2c, 1) := by decide +kernel
theorem dL_areCanopies_25 : decode cL_areCanopies 25 = .ok (.istore 8, 2) := by decide +kernel
theorem dL_areCanopies_27 : decode cL_areCanopies 27 = .ok (.aload_n 0, 1) := by decide +kernel
theorem dL_areCanopies_28 : decode cL_areCanopies 28 = .ok (.iload 7, 2) := by decide +kernel
theorem dL_areCanopies_30 : decode cL_areCanopies 30 = .ok (.invokestatic 152, 3) := by decide +kernel
theorem dL_areCanopies_33 : decode cL_areCanopies 33 = .ok (.istore 9, 2) := by decide +kernel
theorem dL_areCanopies_35 : decode cL_areCanopies 35 = .ok (.iload_n 3, 1) := by decide +kernel
theorem dL_areCanopies_36 : decode cL_areCanopies 36 = .ok (.ldc 225, 2) := by decide +kernel
theorem dL_areCanopies_38 : decode cL_areCanopies 38 = .ok (.iload 8, 2) := by decide +kernel
theorem dL_areCanopies_40 : decode cL_areCanopies 40 = .ok (.invokevirtual 227, 3) := by decide +kernel
theorem dL_areCanopies_43 : decode cL_areCanopies 43 = .ok (.ifCond .lt 88, 3) := by decide +kernel
theorem dL_areCanopies_46 : decode cL_areCanopies 46 = .ok (.iload 9, 2) := by decide +kernel
theorem dL_areCanopies_48 : decode cL_areCanopies 48 = .ok (.aload_n 1, 1) := by decide +kernel
theorem dL_areCanopies_49 : decode cL_areCanopies 49 = .ok (.iload 7, 2) := by decide +kernel
theorem dL_areCanopies_51 : decode cL_areCanopies 51 = .ok (.iaload, 1) := by decide +kernel
theorem dL_areCanopies_52 : decode cL_areCanopies 52 = .ok (.if_icmp .lt 79, 3) := by decide +kernel
theorem dL_areCanopies_55 : decode cL_areCanopies 55 = .ok (.iload 9, 2) := by decide +kernel
theorem dL_areCanopies_57 : decode cL_areCanopies 57 = .ok (.aload_n 1, 1) := by decide +kernel
theorem dL_areCanopies_58 : decode cL_areCanopies 58 = .ok (.iload 7, 2) := by decide +kernel
theorem dL_areCanopies_60 : decode cL_areCanopies 60 = .ok (.iaload, 1) := by decide +kernel
theorem dL_areCanopies_61 : decode cL_areCanopies 61 = .ok (.iconst 1, 1) := by decide +kernel
theorem dL_areCanopies_62 : decode cL_areCanopies 62 = .ok (.iadd, 1) := by decide +kernel
theorem dL_areCanopies_63 : decode cL_areCanopies 63 = .ok (.if_icmp .gt 68, 3) := by decide +kernel
theorem dL_areCanopies_66 : decode cL_areCanopies 66 = .ok (.iload 8, 2) := by decide +kernel
theorem dL_areCanopies_68 : decode cL_areCanopies 68 = .ok (.bipush 107, 2) := by decide +kernel
theorem dL_areCanopies_70 : decode cL_areCanopies 70 = .ok (.if_icmp .eq 17, 3) := by decide +kernel
theorem dL_areCanopies_73 : decode cL_areCanopies 73 = .ok (.iload 8, 2) := by decide +kernel
theorem dL_areCanopies_75 : decode cL_areCanopies 75 = .ok (.bipush 97, 2) := by decide +kernel
theorem dL_areCanopies_77 : decode cL_areCanopies 77 = .ok (.if_icmp .eq 10, 3) := by decide +kernel
theorem dL_areCanopies_80 : decode cL_areCanopies 80 = .ok (.iload 8, 2) := by decide +kernel
theorem dL_areCanopies_82 : decode cL_areCanopies 82 = .ok (.bipush 104, 2) := by decide +kernel
theorem dL_areCanopies_84 : decode cL_areCanopies 84 = .ok (.if_icmp .ne 8, 3) := by decide +kernel
theorem dL_areCanopies_87 : decode cL_areCanopies 87 = .ok (.iload 9, 2) := by decide +kernel
theorem dL_areCanopies_89 : decode cL_areCanopies 89 = .ok (.ifCond .le 42, 3) := by decide +kernel
theorem dL_areCanopies_92 : decode cL_areCanopies 92 = .ok (.aload_n 0, 1) := by decide +kernel
theorem dL_areCanopies_93 : decode cL_areCanopies 93 = .ok (.iload 7, 2) := by decide +kernel
theorem dL_areCanopies_95 : decode cL_areCanopies 95 = .ok (.invokestatic 230, 3) := by decide +kernel
theorem dL_areCanopies_98 : decode cL_areCanopies 98 = .ok (.ifCond .lt 33, 3) := by decide +kernel
theorem dL_areCanopies_101 : decode cL_areCanopies 101 = .ok (.aload_n 0, 1) := by decide +kernel
theorem dL_areCanopies_102 : decode cL_areCanopies 102 = .ok (.iload 7, 2) := by decide +kernel
theorem dL_areCanopies_104 : decode cL_areCanopies 104 = .ok (.invokestatic 232, 3) := by decide +kernel
theorem dL_areCanopies_107 : decode cL_areCanopies 107 = .ok (.bipush 7, 2) := by decide +kernel
theorem dL_areCanopies_109 : decode cL_areCanopies 109 = .ok (.if_icmp .gt 22, 3) := by decide +kernel
theorem dL_areCanopies_112 : decode cL_areCanopies 112 = .ok (.aload_n 0, 1) := by decide +kernel
theorem dL_areCanopies_113 : decode cL_areCanopies 113 = .ok (.iload 7, 2) := by decide +kernel
theorem dL_areCanopies_115 : decode cL_areCanopies 115 = .ok (.invokestatic 185, 3) := by decide +kernel
theorem dL_areCanopies_118 : decode cL_areCanopies 118 = .ok (.aload_n 0, 1) := by decide +kernel
theorem dL_areCanopies_119 : decode cL_areCanopies 119 = .ok (.iload 7, 2) := by decide +kernel
theorem dL_areCanopies_121 : decode cL_areCanopies 121 = .ok (.invokestatic 185, 3) := by decide +kernel
theorem dL_areCanopies_124 : decode cL_areCanopies 124 = .ok (.if_icmp .ne 7, 3) := by decide +kernel
theorem dL_areCanopies_127 : decode cL_areCanopies 127 = .ok (.iconst 1, 1) := by decide +kernel
theorem dL_areCanopies_128 : decode cL_areCanopies 128 = .ok (.goto 4, 3) := by decide +kernel
theorem dL_areCanopies_131 : decode cL_areCanopies 131 = .ok (.iconst 0, 1) := by decide +kernel
theorem dL_areCanopies_132 : decode cL_areCanopies 132 = .ok (.iand, 1) := by decide +kernel
theorem dL_areCanopies_133 : decode cL_areCanopies 133 = .ok (.istore_n 3, 1) := by decide +kernel
theorem dL_areCanopies_134 : decode cL_areCanopies 134 = .ok (.iconst 0, 1) := by decide +kernel
theorem dL_areCanopies_135 : decode cL_areCanopies 135 = .ok (.istore 10, 2) := by decide +kernel
theorem dL_areCanopies_137 : decode cL_areCanopies 137 = .ok (.iload 10, 2) := by decide +kernel
theorem dL_areCanopies_139 : decode cL_areCanopies 139 = .ok (.iload 9, 2) := by decide +kernel
theorem dL_areCanopies_141 : decode cL_areCanopies 141 = .ok (.if_icmp .ge 98, 3) := by decide +kernel
theorem dL_areCanopies_144 : decode cL_areCanopies 144 = .ok (.iload_n 3, 1) := by decide +kernel
theorem dL_areCanopies_145 : decode cL_areCanopies 145 = .ok (.aload_n 0, 1) := by decide +kernel
theorem dL_areCanopies_146 : decode cL_areCanopies 146 = .ok (.iload 7, 2) := by decide +kernel
theorem dL_areCanopies_148 : decode cL_areCanopies 148 = .ok (.iload 10, 2) := by decide +kernel
theorem dL_areCanopies_150 : decode cL_areCanopies 150 = .ok (.bipush 51, 2) := by decide +kernel
theorem dL_areCanopies_152 : decode cL_areCanopies 152 = .ok (.invokestatic 234, 3) := by decide +kernel
theorem dL_areCanopies_155 : decode cL_areCanopies 155 = .ok (.aload_n 0, 1) := by decide +kernel
theorem dL_areCanopies_156 : decode cL_areCanopies 156 = .ok (.iload 7, 2) := by decide +kernel
theorem dL_areCanopies_158 : decode cL_areCanopies 158 = .ok (.iload 10, 2) := by decide +kernel
theorem dL_areCanopies_160 : decode cL_areCanopies 160 = .ok (.bipush 52, 2) := by decide +kernel
theorem dL_areCanopies_162 : decode cL_areCanopies 162 = .ok (.invokestatic 234, 3) := by decide +kernel
theorem dL_areCanopies_165 : decode cL_areCanopies 165 = .ok (.if_icmp .eq 65, 3) := by decide +kernel
theorem dL_areCanopies_168 : decode cL_areCanopies 168 = .ok (.aload_n 0, 1) := by decide +kernel
theorem dL_areCanopies_169 : decode cL_areCanopies 169 = .ok (.iload 7, 2) := by decide +kernel
theorem dL_areCanopies_171 : decode cL_areCanopies 171 = .ok (.iload 10, 2) := by decide +kernel
theorem dL_areCanopies_173 : decode cL_areCanopies 173 = .ok (.bipush 104, 2) := by decide +kernel
theorem dL_areCanopies_175 : decode cL_areCanopies 175 = .ok (.invokestatic 234, 3) := by decide +kernel
theorem dL_areCanopies_178 : decode cL_areCanopies 178 = .ok (.ifCond .lt 52, 3) := by decide +kernel
theorem dL_areCanopies_181 : decode cL_areCanopies 181 = .ok (.aload_n 0, 1) := by decide +kernel
theorem dL_areCanopies_182 : decode cL_areCanopies 182 = .ok (.iload 7, 2) := by decide +kernel
theorem dL_areCanopies_184 : decode cL_areCanopies 184 = .ok (.iload 10, 2) := by decide +kernel
theorem dL_areCanopies_186 : decode cL_areCanopies 186 = .ok (.bipush 104, 2) := by decide +kernel
theorem dL_areCanopies_188 : decode cL_areCanopies 188 = .ok (.invokestatic 234, 3) := by decide +kernel
theorem dL_areCanopies_191 : decode cL_areCanopies 191 = .ok (.bipush 6, 2) := by decide +kernel
theorem dL_areCanopies_193 : decode cL_areCanopies 193 = .ok (.if_icmp .ge 37, 3) := by decide +kernel
theorem dL_areCanopies_196 : decode cL_areCanopies 196 = .ok (.iload 10, 2) := by decide +kernel
theorem dL_areCanopies_198 : decode cL_areCanopies 198 = .ok (.ifCond .eq 28, 3) := by decide +kernel
theorem dL_areCanopies_201 : decode cL_areCanopies 201 = .ok (.aload_n 0, 1) := by decide +kernel
theorem dL_areCanopies_202 : decode cL_areCanopies 202 = .ok (.iload 7, 2) := by decide +kernel
theorem dL_areCanopies_204 : decode cL_areCanopies 204 = .ok (.iload 10, 2) := by decide +kernel
theorem dL_areCanopies_206 : decode cL_areCanopies 206 = .ok (.bipush 100, 2) := by decide +kernel
theorem dL_areCanopies_208 : decode cL_areCanopies 208 = .ok (.invokestatic 234, 3) := by decide +kernel
theorem dL_areCanopies_211 : decode cL_areCanopies 211 = .ok (.aload_n 0, 1) := by decide +kernel
theorem dL_areCanopies_212 : decode cL_areCanopies 212 = .ok (.iload 7, 2) := by decide +kernel
theorem dL_areCanopies_214 : decode cL_areCanopies 214 = .ok (.iload 10, 2) := by decide +kernel
theorem dL_areCanopies_216 : decode cL_areCanopies 216 = .ok (.iconst 1, 1) := by decide +kernel
theorem dL_areCanopies_217 : decode cL_areCanopies 217 = .ok (.isub, 1) := by decide +kernel
theorem dL_areCanopies_218 : decode cL_areCanopies 218 = .ok (.bipush 100, 2) := by decide +kernel
theorem dL_areCanopies_220 : decode cL_areCanopies 220 = .ok (.invokestatic 234, 3) := by decide +kernel
theorem dL_areCanopies_223 : decode cL_areCanopies 223 = .ok (.if_icmp .lt 7, 3) := by decide +kernel
theorem dL_areCanopies_226 : decode cL_areCanopies 226 = .ok (.iconst 1, 1) := by decide +kernel
theorem dL_areCanopies_227 : decode cL_areCanopies 227 = .ok (.goto 4, 3) := by decide +kernel
theorem dL_areCanopies_230 : decode cL_areCanopies 230 = .ok (.iconst 0, 1) := by decide +kernel
theorem dL_areCanopies_231 : decode cL_areCanopies 231 = .ok (.iand, 1) := by decide +kernel
theorem dL_areCanopies_232 : decode cL_areCanopies 232 = .ok (.istore_n 3, 1) := by decide +kernel
theorem dL_areCanopies_233 : decode cL_areCanopies 233 = .ok (.iinc 10 1, 3) := by decide +kernel
theorem dL_areCanopies_236 : decode cL_areCanopies 236 = .ok (.goto (-99), 3) := by decide +kernel
theorem dL_areCanopies_239 : decode cL_areCanopies 239 = .ok (.iload_n 3, 1) := by decide +kernel
theorem dL_areCanopies_240 : decode cL_areCanopies 240 = .ok (.aload_n 0, 1) := by decide +kernel
theorem dL_areCanopies_241 : decode cL_areCanopies 241 = .ok (.iload 7, 2) := by decide +kernel
theorem dL_areCanopies_243 : decode cL_areCanopies 243 = .ok (.iload 9, 2) := by decide +kernel
theorem dL_areCanopies_245 : decode cL_areCanopies 245 = .ok (.bipush 104, 2) := by decide +kernel
theorem dL_areCanopies_247 : decode cL_areCanopies 247 = .ok (.invokestatic 234, 3) := by decide +kernel
theorem dL_areCanopies_250 : decode cL_areCanopies 250 = .ok (.bipush (-77), 2) := by decide +kernel
theorem dL_areCanopies_252 : decode cL_areCanopies 252 = .ok (.if_icmp .ne 7, 3) := by decide +kernel
theorem dL_areCanopies_255 : decode cL_areCanopies 255 = .ok (.iconst 1, 1) := by decide +kernel
theorem dL_areCanopies_256 : decode cL_areCanopies 256 = .ok (.goto 4, 3) := by decide +kernel
theorem dL_areCanopies_259 : decode cL_areCanopies 259 = .ok (.iconst 0, 1) := by decide +kernel
theorem dL_areCanopies_260 : decode cL_areCanopies 260 = .ok (.iand, 1) := by decide +kernel
theorem dL_areCanopies_261 : decode cL_areCanopies 261 = .ok (.istore_n 3, 1) := by decide +kernel
theorem dL_areCanopies_262 : decode cL_areCanopies 262 = .ok (.lload 4, 2) := by decide +kernel
theorem dL_areCanopies_264 : decode cL_areCanopies 264 = .ok (.iload 8, 2) := by decide +kernel
theorem dL_areCanopies_266 : decode cL_areCanopies 266 = .ok (.bipush 104, 2) := by decide +kernel
theorem dL_areCanopies_268 : decode cL_areCanopies 268 = .ok (.if_icmp .ne 10, 3) := by decide +kernel
theorem dL_areCanopies_271 : decode cL_areCanopies 271 = .ok (.aload_n 2, 1) := by decide +kernel
theorem dL_areCanopies_272 : decode cL_areCanopies 272 = .ok (.iload 7, 2) := by decide +kernel
theorem dL_areCanopies_274 : decode cL_areCanopies 274 = .ok (.laload, 1) := by decide +kernel
theorem dL_areCanopies_275 : decode cL_areCanopies 275 = .ok (.goto 4, 3) := by decide +kernel
theorem dL_areCanopies_278 : decode cL_areCanopies 278 = .ok (.lconst 0, 1) := by decide +kernel
theorem dL_areCanopies_279 : decode cL_areCanopies 279 = .ok (.ladd, 1) := by decide +kernel
theorem dL_areCanopies_280 : decode cL_areCanopies 280 = .ok (.lstore 4, 2) := by decide +kernel
theorem dL_areCanopies_282 : decode cL_areCanopies 282 = .ok (.iload 6, 2) := by decide +kernel
theorem dL_areCanopies_284 : decode cL_areCanopies 284 = .ok (.iload 8, 2) := by decide +kernel
theorem dL_areCanopies_286 : decode cL_areCanopies 286 = .ok (.bipush 112, 2) := by decide +kernel
theorem dL_areCanopies_288 : decode cL_areCanopies 288 = .ok (.if_icmp .ne 7, 3) := by decide +kernel
theorem dL_areCanopies_291 : decode cL_areCanopies 291 = .ok (.iconst 1, 1) := by decide +kernel
theorem dL_areCanopies_292 : decode cL_areCanopies 292 = .ok (.goto 4, 3) := by decide +kernel
theorem dL_areCanopies_295 : decode cL_areCanopies 295 = .ok (.iconst 0, 1) := by decide +kernel
theorem dL_areCanopies_296 : decode cL_areCanopies 296 = .ok (.iadd, 1) := by decide +kernel
theorem dL_areCanopies_297 : decode cL_areCanopies 297 = .ok (.istore 6, 2) := by decide +kernel
theorem dL_areCanopies_299 : decode cL_areCanopies 299 = .ok (.iinc 7 1, 3) := by decide +kernel
theorem dL_areCanopies_302 : decode cL_areCanopies 302 = .ok (.goto (-291), 3) := by decide +kernel
theorem dL_areCanopies_305 : decode cL_areCanopies 305 = .ok (.aload_n 0, 1) := by decide +kernel
theorem dL_areCanopies_306 : decode cL_areCanopies 306 = .ok (.invokestatic 237, 3) := by decide +kernel
theorem dL_areCanopies_309 : decode cL_areCanopies 309 = .ok (.fstore 7, 2) := by decide +kernel
theorem dL_areCanopies_311 : decode cL_areCanopies 311 = .ok (.aload_n 0, 1) := by decide +kernel
theorem dL_areCanopies_312 : decode cL_areCanopies 312 = .ok (.invokestatic 240, 3) := by decide +kernel
theorem dL_areCanopies_315 : decode cL_areCanopies 315 = .ok (.istore 8, 2) := by decide +kernel
theorem dL_areCanopies_317 : decode cL_areCanopies 317 = .ok (.iload_n 3, 1) := by decide +kernel
theorem dL_areCanopies_318 : decode cL_areCanopies 318 = .ok (.ifCond .eq 82, 3) := by decide +kernel
theorem dL_areCanopies_321 : decode cL_areCanopies 321 = .ok (.aload_n 0, 1) := by decide +kernel
theorem dL_areCanopies_322 : decode cL_areCanopies 322 = .ok (.invokevirtual 242, 3) := by decide +kernel
theorem dL_areCanopies_325 : decode cL_areCanopies 325 = .ok (.lload 4, 2) := by decide +kernel
theorem dL_areCanopies_327 : decode cL_areCanopies 327 = .ok (.lcmp, 1) := by decide +kernel
theorem dL_areCanopies_328 : decode cL_areCanopies 328 = .ok (.ifCond .ne 72, 3) := by decide +kernel
theorem dL_areCanopies_331 : decode cL_areCanopies 331 = .ok (.iload 6, 2) := by decide +kernel
theorem dL_areCanopies_333 : decode cL_areCanopies 333 = .ok (.bipush 6, 2) := by decide +kernel
theorem dL_areCanopies_335 : decode cL_areCanopies 335 = .ok (.if_icmp .gt 65, 3) := by decide +kernel
theorem dL_areCanopies_338 : decode cL_areCanopies 338 = .ok (.fload 7, 2) := by decide +kernel
theorem dL_areCanopies_340 : decode cL_areCanopies 340 = .ok (.fconst 0, 1) := by decide +kernel
theorem dL_areCanopies_341 : decode cL_areCanopies 341 = .ok (.fcmp .l, 1) := by decide +kernel
theorem dL_areCanopies_342 : decode cL_areCanopies 342 = .ok (.ifCond .lt 58, 3) := by decide +kernel
theorem dL_areCanopies_345 : decode cL_areCanopies 345 = .ok (.fload 7, 2) := by decide +kernel
theorem dL_areCanopies_347 : decode cL_areCanopies 347 = .ok (.fconst 1, 1) := by decide +kernel
theorem dL_areCanopies_348 : decode cL_areCanopies 348 = .ok (.fcmp .g, 1) := by decide +kernel
theorem dL_areCanopies_349 : decode cL_areCanopies 349 = .ok (.ifCond .gt 51, 3) := by decide +kernel
theorem dL_areCanopies_352 : decode cL_areCanopies 352 = .ok (.aload_n 0, 1) := by decide +kernel
theorem dL_areCanopies_353 : decode cL_areCanopies 353 = .ok (.invokestatic 245, 3) := by decide +kernel
theorem dL_areCanopies_356 : decode cL_areCanopies 356 = .ok (.dconst 0, 1) := by decide +kernel
theorem dL_areCanopies_357 : decode cL_areCanopies 357 = .ok (.dcmp .l, 1) := by decide +kernel
theorem dL_areCanopies_358 : decode cL_areCanopies 358 = .ok (.ifCond .lt 42, 3) := by decide +kernel
theorem dL_areCanopies_361 : decode cL_areCanopies 361 = .ok (.iload 8, 2) := by decide +kernel
theorem dL_areCanopies_363 : decode cL_areCanopies 363 = .ok (.bipush (-75), 2) := by decide +kernel
theorem dL_areCanopies_365 : decode cL_areCanopies 365 = .ok (.if_icmp .eq 31, 3) := by decide +kernel
theorem dL_areCanopies_368 : decode cL_areCanopies 368 = .ok (.iload 8, 2) := by decide +kernel
theorem dL_areCanopies_370 : decode cL_areCanopies 370 = .ok (.iconst 2, 1) := by decide +kernel
theorem dL_areCanopies_371 : decode cL_areCanopies 371 = .ok (.irem, 1) := by decide +kernel
theorem dL_areCanopies_372 : decode cL_areCanopies 372 = .ok (.iconst 1, 1) := by decide +kernel
theorem dL_areCanopies_373 : decode cL_areCanopies 373 = .ok (.if_icmp .ne 27, 3) := by decide +kernel
theorem dL_areCanopies_376 : decode cL_areCanopies 376 = .ok (.aload_n 0, 1) := by decide +kernel
theorem dL_areCanopies_377 : decode cL_areCanopies 377 = .ok (.iload 8, 2) := by decide +kernel
theorem dL_areCanopies_379 : decode cL_areCanopies 379 = .ok (.invokestatic 174, 3) := by decide +kernel
theorem dL_areCanopies_382 : decode cL_areCanopies 382 = .ok (.bipush 107, 2) := by decide +kernel
theorem dL_areCanopies_384 : decode cL_areCanopies 384 = .ok (.if_icmp .ne 16, 3) := by decide +kernel
theorem dL_areCanopies_387 : decode cL_areCanopies 387 = .ok (.aload_n 0, 1) := by decide +kernel
theorem dL_areCanopies_388 : decode cL_areCanopies 388 = .ok (.iload 8, 2) := by decide +kernel
theorem dL_areCanopies_390 : decode cL_areCanopies 390 = .ok (.invokestatic 187, 3) := by decide +kernel
theorem dL_areCanopies_393 : decode cL_areCanopies 393 = .ok (.ifCond .ne 7, 3) := by decide +kernel
theorem dL_areCanopies_396 : decode cL_areCanopies 396 = .ok (.iconst 1, 1) := by decide +kernel
theorem dL_areCanopies_397 : decode cL_areCanopies 397 = .ok (.goto 4, 3) := by decide +kernel
theorem dL_areCanopies_400 : decode cL_areCanopies 400 = .ok (.iconst 0, 1) := by decide +kernel
theorem dL_areCanopies_401 : decode cL_areCanopies 401 = .ok (.ireturn, 1) := by decide +kernel
theorem dL_areFindings_0 : decode cL_areFindings 0 = .ok (.iconst 0, 1) := by decide +kernel
theorem dL_areFindings_1 : decode cL_areFindings 1 = .ok (.istore_n 1, 1) := by decide +kernel
theorem dL_areFindings_2 : decode cL_areFindings 2 = .ok (.iconst 0, 1) := by decide +kernel
theorem dL_areFindings_3 : decode cL_areFindings 3 = .ok (.istore_n 2, 1) := by decide +kernel
theorem dL_areFindings_4 : decode cL_areFindings 4 = .ok (.iload_n 2, 1) := by decide +kernel
theorem dL_areFindings_5 : decode cL_areFindings 5 = .ok (.bipush 12, 2) := by decide +kernel
theorem dL_areFindings_7 : decode cL_areFindings 7 = .ok (.if_icmp .ge 25, 3) := by decide +kernel
theorem dL_areFindings_10 : decode cL_areFindings 10 = .ok (.aload_n 0, 1) := by decide +kernel
theorem dL_areFindings_11 : decode cL_areFindings 11 = .ok (.iload_n 2, 1) := by decide +kernel
theorem dL_areFindings_12 : decode cL_areFindings 12 = .ok (.invokestatic 200, 3) := by decide +kernel
theorem dL_areFindings_15 : decode cL_areFindings 15 = .ok (.ifCond .lt 17, 3) := by decide +kernel
theorem dL_areFindings_18 : decode cL_areFindings 18 = .ok (.iload_n 1, 1) := by decide +kernel
theorem dL_areFindings_19 : decode cL_areFindings 19 = .ok (.aload_n 0, 1) := by decide +kernel
theorem dL_areFindings_20 : decode cL_areFindings 20 = .ok (.iload_n 2, 1) := by decide +kernel
theorem dL_areFindings_21 : decode cL_areFindings 21 = .ok (.invokestatic 200, 3) := by decide +kernel
theorem dL_areFindings_24 : decode cL_areFindings 24 = .ok (.iadd, 1) := by decide +kernel
theorem dL_areFindings_25 : decode cL_areFindings 25 = .ok (.istore_n 1, 1) := by decide +kernel
theorem dL_areFindings_26 : decode cL_areFindings 26 = .ok (.iinc 2 1, 3) := by decide +kernel
theorem dL_areFindings_29 : decode cL_areFindings 29 = .ok (.goto (-25), 3) := by decide +kernel
theorem dL_areFindings_32 : decode cL_areFindings 32 = .ok (.iconst 0, 1) := by decide +kernel
theorem dL_areFindings_33 : decode cL_areFindings 33 = .ok (.istore_n 2, 1) := by decide +kernel
theorem dL_areFindings_34 : decode cL_areFindings 34 = .ok (.iconst 0, 1) := by decide +kernel
theorem dL_areFindings_35 : decode cL_areFindings 35 = .ok (.istore_n 3, 1) := by decide +kernel
theorem dL_areFindings_36 : decode cL_areFindings 36 = .ok (.iload_n 3, 1) := by decide +kernel
theorem dL_areFindings_37 : decode cL_areFindings 37 = .ok (.bipush 8, 2) := by decide +kernel
theorem dL_areFindings_39 : decode cL_areFindings 39 = .ok (.if_icmp .ge 17, 3) := by decide +kernel
theorem dL_areFindings_42 : decode cL_areFindings 42 = .ok (.iload_n 2, 1) := by decide +kernel
theorem dL_areFindings_43 : decode cL_areFindings 43 = .ok (.aload_n 0, 1) := by decide +kernel
theorem dL_areFindings_44 : decode cL_areFindings 44 = .ok (.iload_n 3, 1) := by decide +kernel
theorem dL_areFindings_45 : decode cL_areFindings 45 = .ok (.invokestatic 185, 3) := by decide +kernel
theorem dL_areFindings_48 : decode cL_areFindings 48 = .ok (.iadd, 1) := by decide +kernel
theorem dL_areFindings_49 : decode cL_areFindings 49 = .ok (.istore_n 2, 1) := by decide +kernel
theorem dL_areFindings_50 : decode cL_areFindings 50 = .ok (.iinc 3 1, 3) := by decide +kernel
theorem dL_areFindings_53 : decode cL_areFindings 53 = .ok (.goto (-17), 3) := by decide +kernel
theorem dL_areFindings_56 : decode cL_areFindings 56 = .ok (.iload_n 2, 1) := by decide +kernel
theorem dL_areFindings_57 : decode cL_areFindings 57 = .ok (.iload_n 1, 1) := by decide +kernel
theorem dL_areFindings_58 : decode cL_areFindings 58 = .ok (.if_icmp .gt 28, 3) := by decide +kernel
theorem dL_areFindings_61 : decode cL_areFindings 61 = .ok (.iload_n 1, 1) := by decide +kernel
theorem dL_areFindings_62 : decode cL_areFindings 62 = .ok (.ifCond .le 7, 3) := by decide +kernel
theorem dL_areFindings_65 : decode cL_areFindings 65 = .ok (.iconst 1, 1) := by decide +kernel
theorem dL_areFindings_66 : decode cL_areFindings 66 = .ok (.goto 4, 3) := by decide +kernel
theorem dL_areFindings_69 : decode cL_areFindings 69 = .ok (.iconst 0, 1) := by decide +kernel
theorem dL_areFindings_70 : decode cL_areFindings 70 = .ok (.iload_n 2, 1) := by decide +kernel
theorem dL_areFindings_71 : decode cL_areFindings 71 = .ok (.ifCond .le 7, 3) := by decide +kernel
theorem dL_areFindings_74 : decode cL_areFindings 74 = .ok (.iconst 1, 1) := by decide +kernel
theorem dL_areFindings_75 : decode cL_areFindings 75 = .ok (.goto 4, 3) := by decide +kernel
theorem dL_areFindings_78 : decode cL_areFindings 78 = .ok (.iconst 0, 1) := by decide +kernel
theorem dL_areFindings_79 : decode cL_areFindings 79 = .ok (.if_icmp .ne 7, 3) := by decide +kernel
theorem dL_areFindings_82 : decode cL_areFindings 82 = .ok (.iconst 1, 1) := by decide +kernel
theorem dL_areFindings_83 : decode cL_areFindings 83 = .ok (.goto 4, 3) := by decide +kernel
theorem dL_areFindings_86 : decode cL_areFindings 86 = .ok (.iconst 0, 1) := by decide +kernel
theorem dL_areFindings_87 : decode cL_areFindings 87 = .ok (.ireturn, 1) := by decide +kernel
theorem dL_isThrown_0 : decode cL_isThrown 0 = .ok (.aload_n 0, 1) := by decide +kernel
theorem dL_isThrown_1 : decode cL_isThrown 1 = .ok (.invokevirtual 242, 3) := by decide +kernel
theorem dL_isThrown_4 : decode cL_isThrown 4 = .ok (.lstore_n 1, 1) := by decide +kernel
theorem dL_isThrown_5 : decode cL_isThrown 5 = .ok (.aload_n 0, 1) := by decide +kernel
theorem dL_isThrown_6 : decode cL_isThrown 6 = .ok (.invokevirtual 148, 3) := by decide +kernel
theorem dL_isThrown_9 : decode cL_isThrown 9 = .ok (.lstore_n 3, 1) := by decide +kernel
theorem dL_isThrown_10 : decode cL_isThrown 10 = .ok (.aload_n 0, 1) := by decide +kernel
theorem dL_isThrown_11 : decode cL_isThrown 11 = .ok (.iconst 1, 1) := by decide +kernel
theorem dL_isThrown_12 : decode cL_isThrown 12 = .ok (.invokestatic 152, 3) := by decide +kernel
theorem dL_isThrown_15 : decode cL_isThrown 15 = .ok (.istore 5, 2) := by decide +kernel
theorem dL_isThrown_17 : decode cL_isThrown 17 = .ok (.aload_n 0, 1) := by decide +kernel
theorem dL_isThrown_18 : decode cL_isThrown 18 = .ok (.iconst 0, 1) := by decide +kernel
theorem dL_isThrown_19 : decode cL_isThrown 19 = .ok (.invokestatic 174, 3) := by decide +kernel
theorem dL_isThrown_22 : decode cL_isThrown 22 = .ok (.istore 6, 2) := by decide +kernel
theorem dL_isThrown_24 : decode cL_isThrown 24 = .ok (.aload_n 0, 1) := by decide +kernel
theorem dL_isThrown_25 : decode cL_isThrown 25 = .ok (.iconst (-1), 1) := by decide +kernel
theorem dL_isThrown_26 : decode cL_isThrown 26 = .ok (.iconst 0, 1) := by decide +kernel
theorem dL_isThrown_27 : decode cL_isThrown 27 = .ok (.invokestatic 139, 3) := by decide +kernel
theorem dL_isThrown_30 : decode cL_isThrown 30 = .ok (.bipush (-78), 2) := by decide +kernel
theorem dL_isThrown_32 : decode cL_isThrown 32 = .ok (.if_icmp .ne 135, 3) := by decide +kernel
theorem dL_isThrown_35 : decode cL_isThrown 35 = .ok (.aload_n 0, 1) := by decide +kernel
theorem dL_isThrown_36 : decode cL_isThrown 36 = .ok (.bipush 113, 2) := by decide +kernel
theorem dL_isThrown_38 : decode cL_isThrown 38 = .ok (.iconst 0, 1) := by decide +kernel
theorem dL_isThrown_39 : decode cL_isThrown 39 = .ok (.iconst 0, 1) := by decide +kernel
theorem dL_isThrown_40 : decode cL_isThrown 40 = .ok (.iconst 1, 1) := by decide +kernel
theorem dL_isThrown_41 : decode cL_isThrown 41 = .ok (.invokestatic 142, 3) := by decide +kernel
theorem dL_isThrown_44 : decode cL_isThrown 44 = .ok (.bipush (-78), 2) := by decide +kernel
theorem dL_isThrown_46 : decode cL_isThrown 46 = .ok (.if_icmp .ne 121, 3) := by decide +kernel
theorem dL_isThrown_49 : decode cL_isThrown 49 = .ok (.aload_n 0, 1) := by decide +kernel
theorem dL_isThrown_50 : decode cL_isThrown 50 = .ok (.bipush 8, 2) := by decide +kernel
theorem dL_isThrown_52 : decode cL_isThrown 52 = .ok (.iconst 0, 1) := by decide +kernel
theorem dL_isThrown_53 : decode cL_isThrown 53 = .ok (.invokestatic 176, 3) := by decide +kernel
theorem dL_isThrown_56 : decode cL_isThrown 56 = .ok (.bipush (-77), 2) := by decide +kernel
theorem dL_isThrown_58 : decode cL_isThrown 58 = .ok (.if_icmp .ne 109, 3) := by decide +kernel
theorem dL_isThrown_61 : decode cL_isThrown 61 = .ok (.aload_n 0, 1) := by decide +kernel
theorem dL_isThrown_62 : decode cL_isThrown 62 = .ok (.iconst 0, 1) := by decide +kernel
theorem dL_isThrown_63 : decode cL_isThrown 63 = .ok (.iconst 4, 1) := by decide +kernel
theorem dL_isThrown_64 : decode cL_isThrown 64 = .ok (.invokestatic 178, 3) := by decide +kernel
theorem dL_isThrown_67 : decode cL_isThrown 67 = .ok (.bipush (-77), 2) := by decide +kernel
theorem dL_isThrown_69 : decode cL_isThrown 69 = .ok (.if_icmp .ne 98, 3) := by decide +kernel
theorem dL_isThrown_72 : decode cL_isThrown 72 = .ok (.aload_n 0, 1) := by decide +kernel
theorem dL_isThrown_73 : decode cL_isThrown 73 = .ok (.iconst 0, 1) := by decide +kernel
theorem dL_isThrown_74 : decode cL_isThrown 74 = .ok (.iconst 1, 1) := by decide +kernel
theorem dL_isThrown_75 : decode cL_isThrown 75 = .ok (.iconst 0, 1) := by decide +kernel
theorem dL_isThrown_76 : decode cL_isThrown 76 = .ok (.invokestatic 182, 3) := by decide +kernel
theorem dL_isThrown_79 : decode cL_isThrown 79 = .ok (.bipush (-78), 2) := by decide +kernel
theorem dL_isThrown_81 : decode cL_isThrown 81 = .ok (.if_icmp .ne 86, 3) := by decide +kernel
theorem dL_isThrown_84 : decode cL_isThrown 84 = .ok (.aload_n 0, 1) := by decide +kernel
theorem dL_isThrown_85 : decode cL_isThrown 85 = .ok (.iconst 3, 1) := by decide +kernel
theorem dL_isThrown_86 : decode cL_isThrown 86 = .ok (.iconst 0, 1) := by decide +kernel
theorem dL_isThrown_87 : decode cL_isThrown 87 = .ok (.invokestatic 189, 3) := by decide +kernel
theorem dL_isThrown_90 : decode cL_isThrown 90 = .ok (.bipush (-77), 2) := by decide +kernel
theorem dL_isThrown_92 : decode cL_isThrown 92 = .ok (.if_icmp .ne 75, 3) := by decide +kernel
theorem dL_isThrown_95 : decode cL_isThrown 95 = .ok (.aload_n 0, 1) := by decide +kernel
theorem dL_isThrown_96 : decode cL_isThrown 96 = .ok (.iconst (-1), 1) := by decide +kernel
theorem dL_isThrown_97 : decode cL_isThrown 97 = .ok (.invokestatic 198, 3) := by decide +kernel
theorem dL_isThrown_100 : decode cL_isThrown 100 = .ok (.bipush (-77), 2) := by decide +kernel
theorem dL_isThrown_102 : decode cL_isThrown 102 = .ok (.if_icmp .ne 65, 3) := by decide +kernel
theorem dL_isThrown_105 : decode cL_isThrown 105 = .ok (.aload_n 0, 1) := by decide +kernel
theorem dL_isThrown_106 : decode cL_isThrown 106 = .ok (.bipush 12, 2) := by decide +kernel
theorem dL_isThrown_108 : decode cL_isThrown 108 = .ok (.invokestatic 202, 3) := by decide +kernel
theorem dL_isThrown_111 : decode cL_isThrown 111 = .ok (.bipush (-77), 2) := by decide +kernel
theorem dL_isThrown_113 : decode cL_isThrown 113 = .ok (.if_icmp .ne 54, 3) := by decide +kernel
theorem dL_isThrown_116 : decode cL_isThrown 116 = .ok (.aload_n 0, 1) := by decide +kernel
theorem dL_isThrown_117 : decode cL_isThrown 117 = .ok (.iconst 0, 1) := by decide +kernel
theorem dL_isThrown_118 : decode cL_isThrown 118 = .ok (.iconst 0, 1) := by decide +kernel
theorem dL_isThrown_119 : decode cL_isThrown 119 = .ok (.iconst 0, 1) := by decide +kernel
theorem dL_isThrown_120 : decode cL_isThrown 120 = .ok (.invokestatic 219, 3) := by decide +kernel
theorem dL_isThrown_123 : decode cL_isThrown 123 = .ok (.bipush (-78), 2) := by decide +kernel
theorem dL_isThrown_125 : decode cL_isThrown 125 = .ok (.if_icmp .ne 42, 3) := by decide +kernel
theorem dL_isThrown_128 : decode cL_isThrown 128 = .ok (.aload_n 0, 1) := by decide +kernel
theorem dL_isThrown_129 : decode cL_isThrown 129 = .ok (.bipush 8, 2) := by decide +kernel
theorem dL_isThrown_131 : decode cL_isThrown 131 = .ok (.iconst 1, 1) := by decide +kernel
theorem dL_isThrown_132 : decode cL_isThrown 132 = .ok (.iconst 1, 1) := by decide +kernel
theorem dL_isThrown_133 : decode cL_isThrown 133 = .ok (.invokestatic 216, 3) := by decide +kernel
theorem dL_isThrown_136 : decode cL_isThrown 136 = .ok (.bipush (-77), 2) := by decide +kernel
theorem dL_isThrown_138 : decode cL_isThrown 138 = .ok (.if_icmp .ne 29, 3) := by decide +kernel
theorem dL_isThrown_141 : decode cL_isThrown 141 = .ok (.aload_n 0, 1) := by decide +kernel
theorem dL_isThrown_142 : decode cL_isThrown 142 = .ok (.iconst 0, 1) := by decide +kernel
theorem dL_isThrown_143 : decode cL_isThrown 143 = .ok (.invokestatic 223, 3) := by decide +kernel
theorem dL_isThrown_146 : decode cL_isThrown 146 = .ok (.bipush (-78), 2) := by decide +kernel
theorem dL_isThrown_148 : decode cL_isThrown 148 = .ok (.if_icmp .ne 19, 3) := by decide +kernel
theorem dL_isThrown_151 : decode cL_isThrown 151 = .ok (.aload_n 0, 1) := by decide +kernel
theorem dL_isThrown_152 : decode cL_isThrown 152 = .ok (.sipush 1000, 3) := by decide +kernel
theorem dL_isThrown_155 : decode cL_isThrown 155 = .ok (.invokestatic 248, 3) := by decide +kernel
theorem dL_isThrown_158 : decode cL_isThrown 158 = .ok (.bipush (-78), 2) := by decide +kernel
theorem dL_isThrown_160 : decode cL_isThrown 160 = .ok (.if_icmp .ne 7, 3) := by decide +kernel
theorem dL_isThrown_163 : decode cL_isThrown 163 = .ok (.iconst 1, 1) := by decide +kernel
theorem dL_isThrown_164 : decode cL_isThrown 164 = .ok (.goto 4, 3) := by decide +kernel
theorem dL_isThrown_167 : decode cL_isThrown 167 = .ok (.iconst 0, 1) := by decide +kernel
theorem dL_isThrown_168 : decode cL_isThrown 168 = .ok (.istore 7, 2) := by decide +kernel
theorem dL_isThrown_170 : decode cL_isThrown 170 = .ok (.iload 7, 2) := by decide +kernel
theorem dL_isThrown_172 : decode cL_isThrown 172 = .ok (.ifCond .eq 45, 3) := by decide +kernel
theorem dL_isThrown_175 : decode cL_isThrown 175 = .ok (.aload_n 0, 1) := by decide +kernel
theorem dL_isThrown_176 : decode cL_isThrown 176 = .ok (.invokevirtual 242, 3) := by decide +kernel
theorem dL_isThrown_179 : decode cL_isThrown 179 = .ok (.lload_n 1, 1) := by decide +kernel
theorem dL_isThrown_180 : decode cL_isThrown 180 = .ok (.lcmp, 1) := by decide +kernel
theorem dL_isThrown_181 : decode cL_isThrown 181 = .ok (.ifCond .ne 36, 3) := by decide +kernel
theorem dL_isThrown_184 : decode cL_isThrown 184 = .ok (.aload_n 0, 1) := by decide +kernel
theorem dL_isThrown_185 : decode cL_isThrown 185 = .ok (.invokevirtual 148, 3) := by decide +kernel
theorem dL_isThrown_188 : decode cL_isThrown 188 = .ok (.lload_n 3, 1) := by decide +kernel
theorem dL_isThrown_189 : decode cL_isThrown 189 = .ok (.lcmp, 1) := by decide +kernel
theorem dL_isThrown_190 : decode cL_isThrown 190 = .ok (.ifCond .ne 27, 3) := by decide +kernel
theorem dL_isThrown_193 : decode cL_isThrown 193 = .ok (.aload_n 0, 1) := by decide +kernel
theorem dL_isThrown_194 : decode cL_isThrown 194 = .ok (.iconst 1, 1) := by decide +kernel
theorem dL_isThrown_195 : decode cL_isThrown 195 = .ok (.invokestatic 152, 3) := by decide +kernel
theorem dL_isThrown_198 : decode cL_isThrown 198 = .ok (.iload 5, 2) := by decide +kernel
theorem dL_isThrown_200 : decode cL_isThrown 200 = .ok (.if_icmp .ne 17, 3) := by decide +kernel
theorem dL_isThrown_203 : decode cL_isThrown 203 = .ok (.aload_n 0, 1) := by decide +kernel
theorem dL_isThrown_204 : decode cL_isThrown 204 = .ok (.iconst 0, 1) := by decide +kernel
theorem dL_isThrown_205 : decode cL_isThrown 205 = .ok (.invokestatic 174, 3) := by decide +kernel
theorem dL_isThrown_208 : decode cL_isThrown 208 = .ok (.iload 6, 2) := by decide +kernel
theorem dL_isThrown_210 : decode cL_isThrown 210 = .ok (.if_icmp .ne 7, 3) := by decide +kernel
theorem dL_isThrown_213 : decode cL_isThrown 213 = .ok (.iconst 1, 1) := by decide +kernel
theorem dL_isThrown_214 : decode cL_isThrown 214 = .ok (.goto 4, 3) := by decide +kernel
theorem dL_isThrown_217 : decode cL_isThrown 217 = .ok (.iconst 0, 1) := by decide +kernel
theorem dL_isThrown_218 : decode cL_isThrown 218 = .ok (.ireturn, 1) := by decide +kernel
