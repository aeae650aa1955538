theorem dX0_init_0 : decode cX0_init 0 = .ok (.aload_n 0, 1) := by decide +kernel
theorem dX0_init_1 : decode cX0_init 1 = .ok (.invokespecial 3, 3) := by decide +kernel
theorem dX0_init_4 : decode cX0_init 4 = .ok (.aload_n 0, 1) := by decide +kernel
theorem dX0_init_5 : decode cX0_init 5 = .ok (.bipush 86, 2) := by decide +kernel
theorem dX0_init_7 : decode cX0_init 7 = .ok (.newarray .int, 2) := by decide +kernel
theorem dX0_init_9 : decode cX0_init 9 = .ok (.putfield 9, 3) := by decide +kernel
theorem dX0_init_12 : decode cX0_init 12 = .ok (.aload_n 0, 1) := by decide +kernel
theorem dX0_init_13 : decode cX0_init 13 = .ok (.bipush 86, 2) := by decide +kernel
theorem dX0_init_15 : decode cX0_init 15 = .ok (.newarray .int, 2) := by decide +kernel
theorem dX0_init_17 : decode cX0_init 17 = .ok (.putfield 15, 3) := by decide +kernel
theorem dX0_init_20 : decode cX0_init 20 = .ok (.aload_n 0, 1) := by decide +kernel
theorem dX0_init_21 : decode cX0_init 21 = .ok (.bipush 86, 2) := by decide +kernel
theorem dX0_init_23 : decode cX0_init 23 = .ok (.newarray .int, 2) := by decide +kernel
theorem dX0_init_25 : decode cX0_init 25 = .ok (.putfield 18, 3) := by decide +kernel
theorem dX0_init_28 : decode cX0_init 28 = .ok (.aload_n 0, 1) := by decide +kernel
theorem dX0_init_29 : decode cX0_init 29 = .ok (.sipush 430, 3) := by decide +kernel
theorem dX0_init_32 : decode cX0_init 32 = .ok (.newarray .int, 2) := by decide +kernel
theorem dX0_init_34 : decode cX0_init 34 = .ok (.putfield 21, 3) := by decide +kernel
theorem dX0_init_37 : decode cX0_init 37 = .ok (.return_, 1) := by decide +kernel
theorem dX0_write_0 : decode cX0_write 0 = .ok (.aload_n 0, 1) := by decide +kernel
theorem dX0_write_1 : decode cX0_write 1 = .ok (.getfield 24, 3) := by decide +kernel
theorem dX0_write_4 : decode cX0_write 4 = .ok (.bipush 86, 2) := by decide +kernel
theorem dX0_write_6 : decode cX0_write 6 = .ok (.if_icmp .ge 10, 3) := by decide +kernel
theorem dX0_write_9 : decode cX0_write 9 = .ok (.aload 4, 2) := by decide +kernel
theorem dX0_write_11 : decode cX0_write 11 = .ok (.arraylength, 1) := by decide +kernel
theorem dX0_write_12 : decode cX0_write 12 = .ok (.iconst 5, 1) := by decide +kernel
theorem dX0_write_13 : decode cX0_write 13 = .ok (.if_icmp .ge 5, 3) := by decide +kernel
theorem dX0_write_16 : decode cX0_write 16 = .ok (.iconst (-1), 1) := by decide +kernel
theorem dX0_write_17 : decode cX0_write 17 = .ok (.ireturn, 1) := by decide +kernel
theorem dX0_write_18 : decode cX0_write 18 = .ok (.aload_n 0, 1) := by decide +kernel
theorem dX0_write_19 : decode cX0_write 19 = .ok (.getfield 9, 3) := by decide +kernel
theorem dX0_write_22 : decode cX0_write 22 = .ok (.aload_n 0, 1) := by decide +kernel
theorem dX0_write_23 : decode cX0_write 23 = .ok (.getfield 24, 3) := by decide +kernel
theorem dX0_write_26 : decode cX0_write 26 = .ok (.iload_n 1, 1) := by decide +kernel
theorem dX0_write_27 : decode cX0_write 27 = .ok (.iastore, 1) := by decide +kernel
theorem dX0_write_28 : decode cX0_write 28 = .ok (.aload_n 0, 1) := by decide +kernel
theorem dX0_write_29 : decode cX0_write 29 = .ok (.getfield 15, 3) := by decide +kernel
theorem dX0_write_32 : decode cX0_write 32 = .ok (.aload_n 0, 1) := by decide +kernel
theorem dX0_write_33 : decode cX0_write 33 = .ok (.getfield 24, 3) := by decide +kernel
theorem dX0_write_36 : decode cX0_write 36 = .ok (.iload_n 2, 1) := by decide +kernel
theorem dX0_write_37 : decode cX0_write 37 = .ok (.iastore, 1) := by decide +kernel
theorem dX0_write_38 : decode cX0_write 38 = .ok (.aload_n 0, 1) := by decide +kernel
theorem dX0_write_39 : decode cX0_write 39 = .ok (.getfield 18, 3) := by decide +kernel
theorem dX0_write_42 : decode cX0_write 42 = .ok (.aload_n 0, 1) := by decide +kernel
theorem dX0_write_43 : decode cX0_write 43 = .ok (.getfield 24, 3) := by decide +kernel
theorem dX0_write_46 : decode cX0_write 46 = .ok (.iload_n 3, 1) := by decide +kernel
theorem dX0_write_47 : decode cX0_write 47 = .ok (.iastore, 1) := by decide +kernel
theorem dX0_write_48 : decode cX0_write 48 = .ok (.iconst 0, 1) := by decide +kernel
theorem dX0_write_49 : decode cX0_write 49 = .ok (.istore 5, 2) := by decide +kernel
theorem dX0_write_51 : decode cX0_write 51 = .ok (.iload 5, 2) := by decide +kernel
theorem dX0_write_53 : decode cX0_write 53 = .ok (.iconst 5, 1) := by decide +kernel
theorem dX0_write_54 : decode cX0_write 54 = .ok (.if_icmp .ge 28, 3) := by decide +kernel
theorem dX0_write_57 : decode cX0_write 57 = .ok (.aload_n 0, 1) := by decide +kernel
theorem dX0_write_58 : decode cX0_write 58 = .ok (.getfield 21, 3) := by decide +kernel
theorem dX0_write_61 : decode cX0_write 61 = .ok (.aload_n 0, 1) := by decide +kernel
theorem dX0_write_62 : decode cX0_write 62 = .ok (.getfield 24, 3) := by decide +kernel
theorem dX0_write_65 : decode cX0_write 65 = .ok (.iconst 5, 1) := by decide +kernel
theorem dX0_write_66 : decode cX0_write 66 = .ok (.imul, 1) := by decide +kernel
theorem dX0_write_67 : decode cX0_write 67 = .ok (.iload 5, 2) := by decide +kernel
theorem dX0_write_69 : decode cX0_write 69 = .ok (.iadd, 1) := by decide +kernel
theorem dX0_write_70 : decode cX0_write 70 = .ok (.aload 4, 2) := by decide +kernel
theorem dX0_write_72 : decode cX0_write 72 = .ok (.iload 5, 2) := by decide +kernel
theorem dX0_write_74 : decode cX0_write 74 = .ok (.iaload, 1) := by decide +kernel
theorem dX0_write_75 : decode cX0_write 75 = .ok (.iastore, 1) := by decide +kernel
theorem dX0_write_76 : decode cX0_write 76 = .ok (.iinc 5 1, 3) := by decide +kernel
theorem dX0_write_79 : decode cX0_write 79 = .ok (.goto (-28), 3) := by decide +kernel
theorem dX0_write_82 : decode cX0_write 82 = .ok (.aload_n 0, 1) := by decide +kernel
theorem dX0_write_83 : decode cX0_write 83 = .ok (.dup, 1) := by decide +kernel
theorem dX0_write_84 : decode cX0_write 84 = .ok (.getfield 24, 3) := by decide +kernel
theorem dX0_write_87 : decode cX0_write 87 = .ok (.iconst 1, 1) := by decide +kernel
theorem dX0_write_88 : decode cX0_write 88 = .ok (.iadd, 1) := by decide +kernel
theorem dX0_write_89 : decode cX0_write 89 = .ok (.putfield 24, 3) := by decide +kernel
theorem dX0_write_92 : decode cX0_write 92 = .ok (.aload_n 0, 1) := by decide +kernel
theorem dX0_write_93 : decode cX0_write 93 = .ok (.getfield 24, 3) := by decide +kernel
theorem dX0_write_96 : decode cX0_write 96 = .ok (.iconst 1, 1) := by decide +kernel
theorem dX0_write_97 : decode cX0_write 97 = .ok (.isub, 1) := by decide +kernel
theorem dX0_write_98 : decode cX0_write 98 = .ok (.ireturn, 1) := by decide +kernel
theorem dX0_has_0 : decode cX0_has 0 = .ok (.iload_n 1, 1) := by decide +kernel
theorem dX0_has_1 : decode cX0_has 1 = .ok (.ifCond .lt 15, 3) := by decide +kernel
theorem dX0_has_4 : decode cX0_has 4 = .ok (.iload_n 1, 1) := by decide +kernel
theorem dX0_has_5 : decode cX0_has 5 = .ok (.aload_n 0, 1) := by decide +kernel
theorem dX0_has_6 : decode cX0_has 6 = .ok (.getfield 24, 3) := by decide +kernel
theorem dX0_has_9 : decode cX0_has 9 = .ok (.if_icmp .ge 7, 3) := by decide +kernel
theorem dX0_has_12 : decode cX0_has 12 = .ok (.iconst 1, 1) := by decide +kernel
theorem dX0_has_13 : decode cX0_has 13 = .ok (.goto 4, 3) := by decide +kernel
theorem dX0_has_16 : decode cX0_has 16 = .ok (.iconst 0, 1) := by decide +kernel
theorem dX0_has_17 : decode cX0_has 17 = .ok (.ireturn, 1) := by decide +kernel
theorem dX0_handsOf_0 : decode cX0_handsOf 0 = .ok (.lconst 0, 1) := by decide +kernel
theorem dX0_handsOf_1 : decode cX0_handsOf 1 = .ok (.lstore_n 2, 1) := by decide +kernel
theorem dX0_handsOf_2 : decode cX0_handsOf 2 = .ok (.iconst 0, 1) := by decide +kernel
theorem dX0_handsOf_3 : decode cX0_handsOf 3 = .ok (.istore 4, 2) := by decide +kernel
theorem dX0_handsOf_5 : decode cX0_handsOf 5 = .ok (.iload 4, 2) := by decide +kernel
theorem dX0_handsOf_7 : decode cX0_handsOf 7 = .ok (.iconst 5, 1) := by decide +kernel
theorem dX0_handsOf_8 : decode cX0_handsOf 8 = .ok (.if_icmp .ge 31, 3) := by decide +kernel
theorem dX0_handsOf_11 : decode cX0_handsOf 11 = .ok (.lload_n 2, 1) := by decide +kernel
theorem dX0_handsOf_12 : decode cX0_handsOf 12 = .ok (.lconst 1, 1) := by decide +kernel
theorem dX0_handsOf_13 : decode cX0_handsOf 13 = .ok (.bipush 8, 2) := by decide +kernel
theorem dX0_handsOf_15 : decode cX0_handsOf 15 = .ok (.iload 4, 2) := by decide +kernel
theorem dX0_handsOf_17 : decode cX0_handsOf 17 = .ok (.imul, 1) := by decide +kernel
theorem dX0_handsOf_18 : decode cX0_handsOf 18 = .ok (.aload_n 0, 1) := by decide +kernel
theorem dX0_handsOf_19 : decode cX0_handsOf 19 = .ok (.getfield 21, 3) := by decide +kernel
theorem dX0_handsOf_22 : decode cX0_handsOf 22 = .ok (.iload_n 1, 1) := by decide +kernel
theorem dX0_handsOf_23 : decode cX0_handsOf 23 = .ok (.iconst 5, 1) := by decide +kernel
theorem dX0_handsOf_24 : decode cX0_handsOf 24 = .ok (.imul, 1) := by decide +kernel
theorem dX0_handsOf_25 : decode cX0_handsOf 25 = .ok (.iload 4, 2) := by decide +kernel
theorem dX0_handsOf_27 : decode cX0_handsOf 27 = .ok (.iadd, 1) := by decide +kernel
theorem dX0_handsOf_28 : decode cX0_handsOf 28 = .ok (.iaload, 1) := by decide +kernel
theorem dX0_handsOf_29 : decode cX0_handsOf 29 = .ok (.iadd, 1) := by decide +kernel
theorem dX0_handsOf_30 : decode cX0_handsOf 30 = .ok (.lshl, 1) := by decide +kernel
theorem dX0_handsOf_31 : decode cX0_handsOf 31 = .ok (.lor, 1) := by decide +kernel
theorem dX0_handsOf_32 : decode cX0_handsOf 32 = .ok (.lstore_n 2, 1) := by decide +kernel
theorem dX0_handsOf_33 : decode cX0_handsOf 33 = .ok (.iinc 4 1, 3) := by decide +kernel
theorem dX0_handsOf_36 : decode cX0_handsOf 36 = .ok (.goto (-31), 3) := by decide +kernel
theorem dX0_handsOf_39 : decode cX0_handsOf 39 = .ok (.lload_n 2, 1) := by decide +kernel
theorem dX0_handsOf_40 : decode cX0_handsOf 40 = .ok (.lreturn, 1) := by decide +kernel
theorem dX0_lookUp_0 : decode cX0_lookUp 0 = .ok (.aload_n 0, 1) := by decide +kernel
theorem dX0_lookUp_1 : decode cX0_lookUp 1 = .ok (.iload_n 1, 1) := by decide +kernel
theorem dX0_lookUp_2 : decode cX0_lookUp 2 = .ok (.iload_n 2, 1) := by decide +kernel
theorem dX0_lookUp_3 : decode cX0_lookUp 3 = .ok (.invokevirtual 28, 3) := by decide +kernel
theorem dX0_lookUp_6 : decode cX0_lookUp 6 = .ok (.istore 4, 2) := by decide +kernel
theorem dX0_lookUp_8 : decode cX0_lookUp 8 = .ok (.aload_n 0, 1) := by decide +kernel
theorem dX0_lookUp_9 : decode cX0_lookUp 9 = .ok (.iload 4, 2) := by decide +kernel
theorem dX0_lookUp_11 : decode cX0_lookUp 11 = .ok (.invokevirtual 32, 3) := by decide +kernel
theorem dX0_lookUp_14 : decode cX0_lookUp 14 = .ok (.ifCond .ne 5, 3) := by decide +kernel
theorem dX0_lookUp_17 : decode cX0_lookUp 17 = .ok (.iconst 0, 1) := by decide +kernel
theorem dX0_lookUp_18 : decode cX0_lookUp 18 = .ok (.ireturn, 1) := by decide +kernel
theorem dX0_lookUp_19 : decode cX0_lookUp 19 = .ok (.iload_n 3, 1) := by decide +kernel
theorem dX0_lookUp_20 : decode cX0_lookUp 20 = .ok (.bipush 104, 2) := by decide +kernel
theorem dX0_lookUp_22 : decode cX0_lookUp 22 = .ok (.if_icmp .ne 11, 3) := by decide +kernel
theorem dX0_lookUp_25 : decode cX0_lookUp 25 = .ok (.aload_n 0, 1) := by decide +kernel
theorem dX0_lookUp_26 : decode cX0_lookUp 26 = .ok (.getfield 15, 3) := by decide +kernel
theorem dX0_lookUp_29 : decode cX0_lookUp 29 = .ok (.iload 4, 2) := by decide +kernel
theorem dX0_lookUp_31 : decode cX0_lookUp 31 = .ok (.iaload, 1) := by decide +kernel
theorem dX0_lookUp_32 : decode cX0_lookUp 32 = .ok (.ireturn, 1) := by decide +kernel
theorem dX0_lookUp_33 : decode cX0_lookUp 33 = .ok (.iload_n 3, 1) := by decide +kernel
theorem dX0_lookUp_34 : decode cX0_lookUp 34 = .ok (.bipush 100, 2) := by decide +kernel
theorem dX0_lookUp_36 : decode cX0_lookUp 36 = .ok (.if_icmp .ne 11, 3) := by decide +kernel
theorem dX0_lookUp_39 : decode cX0_lookUp 39 = .ok (.aload_n 0, 1) := by decide +kernel
theorem dX0_lookUp_40 : decode cX0_lookUp 40 = .ok (.getfield 18, 3) := by decide +kernel
theorem dX0_lookUp_43 : decode cX0_lookUp 43 = .ok (.iload 4, 2) := by decide +kernel
theorem dX0_lookUp_45 : decode cX0_lookUp 45 = .ok (.iaload, 1) := by decide +kernel
theorem dX0_lookUp_46 : decode cX0_lookUp 46 = .ok (.ireturn, 1) := by decide +kernel
theorem dX0_lookUp_47 : decode cX0_lookUp 47 = .ok (.iload_n 3, 1) := by decide +kernel
theorem dX0_lookUp_48 : decode cX0_lookUp 48 = .ok (.bipush 48, 2) := by decide +kernel
theorem dX0_lookUp_50 : decode cX0_lookUp 50 = .ok (.isub, 1) := by decide +kernel
theorem dX0_lookUp_51 : decode cX0_lookUp 51 = .ok (.istore 5, 2) := by decide +kernel
theorem dX0_lookUp_53 : decode cX0_lookUp 53 = .ok (.iload 5, 2) := by decide +kernel
theorem dX0_lookUp_55 : decode cX0_lookUp 55 = .ok (.ifCond .lt 9, 3) := by decide +kernel
theorem dX0_lookUp_58 : decode cX0_lookUp 58 = .ok (.iload 5, 2) := by decide +kernel
theorem dX0_lookUp_60 : decode cX0_lookUp 60 = .ok (.iconst 5, 1) := by decide +kernel
theorem dX0_lookUp_61 : decode cX0_lookUp 61 = .ok (.if_icmp .lt 5, 3) := by decide +kernel
theorem dX0_lookUp_64 : decode cX0_lookUp 64 = .ok (.iconst 0, 1) := by decide +kernel
theorem dX0_lookUp_65 : decode cX0_lookUp 65 = .ok (.ireturn, 1) := by decide +kernel
theorem dX0_lookUp_66 : decode cX0_lookUp 66 = .ok (.aload_n 0, 1) := by decide +kernel
theorem dX0_lookUp_67 : decode cX0_lookUp 67 = .ok (.getfield 21, 3) := by decide +kernel
theorem dX0_lookUp_70 : decode cX0_lookUp 70 = .ok (.iload 4, 2) := by decide +kernel
theorem dX0_lookUp_72 : decode cX0_lookUp 72 = .ok (.iconst 5, 1) := by decide +kernel
theorem dX0_lookUp_73 : decode cX0_lookUp 73 = .ok (.imul, 1) := by decide +kernel
theorem dX0_lookUp_74 : decode cX0_lookUp 74 = .ok (.iload 5, 2) := by decide +kernel
theorem dX0_lookUp_76 : decode cX0_lookUp 76 = .ok (.iadd, 1) := by decide +kernel
theorem dX0_lookUp_77 : decode cX0_lookUp 77 = .ok (.iaload, 1) := by decide +kernel
theorem dX0_lookUp_78 : decode cX0_lookUp 78 = .ok (.ireturn, 1) := by decide +kernel
theorem dX0_numberOf_0 : decode cX0_numberOf 0 = .ok (.iconst 0, 1) := by decide +kernel
theorem dX0_numberOf_1 : decode cX0_numberOf 1 = .ok (.istore_n 3, 1) := by decide +kernel
theorem dX0_numberOf_2 : decode cX0_numberOf 2 = .ok (.iconst 0, 1) := by decide +kernel
theorem dX0_numberOf_3 : decode cX0_numberOf 3 = .ok (.istore 4, 2) := by decide +kernel
theorem dX0_numberOf_5 : decode cX0_numberOf 5 = .ok (.iload 4, 2) := by decide +kernel
theorem dX0_numberOf_7 : decode cX0_numberOf 7 = .ok (.aload_n 0, 1) := by decide +kernel
theorem dX0_numberOf_8 : decode cX0_numberOf 8 = .ok (.getfield 24, 3) := by decide +kernel
theorem dX0_numberOf_11 : decode cX0_numberOf 11 = .ok (.if_icmp .ge 31, 3) := by decide +kernel
theorem dX0_numberOf_14 : decode cX0_numberOf 14 = .ok (.aload_n 0, 1) := by decide +kernel
theorem dX0_numberOf_15 : decode cX0_numberOf 15 = .ok (.getfield 9, 3) := by decide +kernel
theorem dX0_numberOf_18 : decode cX0_numberOf 18 = .ok (.iload 4, 2) := by decide +kernel
theorem dX0_numberOf_20 : decode cX0_numberOf 20 = .ok (.iaload, 1) := by decide +kernel
theorem dX0_numberOf_21 : decode cX0_numberOf 21 = .ok (.iload_n 1, 1) := by decide +kernel
theorem dX0_numberOf_22 : decode cX0_numberOf 22 = .ok (.if_icmp .ne 14, 3) := by decide +kernel
theorem dX0_numberOf_25 : decode cX0_numberOf 25 = .ok (.iload_n 3, 1) := by decide +kernel
theorem dX0_numberOf_26 : decode cX0_numberOf 26 = .ok (.iload_n 2, 1) := by decide +kernel
theorem dX0_numberOf_27 : decode cX0_numberOf 27 = .ok (.if_icmp .ne 6, 3) := by decide +kernel
theorem dX0_numberOf_30 : decode cX0_numberOf 30 = .ok (.iload 4, 2) := by decide +kernel
theorem dX0_numberOf_32 : decode cX0_numberOf 32 = .ok (.ireturn, 1) := by decide +kernel
theorem dX0_numberOf_33 : decode cX0_numberOf 33 = .ok (.iinc 3 1, 3) := by decide +kernel
theorem dX0_numberOf_36 : decode cX0_numberOf 36 = .ok (.iinc 4 1, 3) := by decide +kernel
theorem dX0_numberOf_39 : decode cX0_numberOf 39 = .ok (.goto (-34), 3) := by decide +kernel
theorem dX0_numberOf_42 : decode cX0_numberOf 42 = .ok (.iconst (-1), 1) := by decide +kernel
theorem dX0_numberOf_43 : decode cX0_numberOf 43 = .ok (.ireturn, 1) := by decide +kernel
theorem dX0_isLike_0 : decode cX0_isLike 0 = .ok (.aload_n 0, 1) := by decide +kernel
theorem dX0_isLike_1 : decode cX0_isLike 1 = .ok (.getfield 24, 3) := by decide +kernel
theorem dX0_isLike_4 : decode cX0_isLike 4 = .ok (.aload_n 1, 1) := by decide +kernel
theorem dX0_isLike_5 : decode cX0_isLike 5 = .ok (.getfield 24, 3) := by decide +kernel
theorem dX0_isLike_8 : decode cX0_isLike 8 = .ok (.if_icmp .eq 5, 3) := by decide +kernel
theorem dX0_isLike_11 : decode cX0_isLike 11 = .ok (.iconst 0, 1) := by decide +kernel
theorem dX0_isLike_12 : decode cX0_isLike 12 = .ok (.ireturn, 1) := by decide +kernel
theorem dX0_isLike_13 : decode cX0_isLike 13 = .ok (.iconst 0, 1) := by decide +kernel
theorem dX0_isLike_14 : decode cX0_isLike 14 = .ok (.istore_n 2, 1) := by decide +kernel
theorem dX0_isLike_15 : decode cX0_isLike 15 = .ok (.iload_n 2, 1) := by decide +kernel
theorem dX0_isLike_16 : decode cX0_isLike 16 = .ok (.aload_n 0, 1) := by decide +kernel
theorem dX0_isLike_17 : decode cX0_isLike 17 = .ok (.getfield 24, 3) := by decide +kernel
theorem dX0_isLike_20 : decode cX0_isLike 20 = .ok (.if_icmp .ge 56, 3) := by decide +kernel
theorem dX0_isLike_23 : decode cX0_isLike 23 = .ok (.aload_n 0, 1) := by decide +kernel
theorem dX0_isLike_24 : decode cX0_isLike 24 = .ok (.getfield 9, 3) := by decide +kernel
theorem dX0_isLike_27 : decode cX0_isLike 27 = .ok (.iload_n 2, 1) := by decide +kernel
theorem dX0_isLike_28 : decode cX0_isLike 28 = .ok (.iaload, 1) := by decide +kernel
theorem dX0_isLike_29 : decode cX0_isLike 29 = .ok (.aload_n 1, 1) := by decide +kernel
theorem dX0_isLike_30 : decode cX0_isLike 30 = .ok (.getfield 9, 3) := by decide +kernel
theorem dX0_isLike_33 : decode cX0_isLike 33 = .ok (.iload_n 2, 1) := by decide +kernel
theorem dX0_isLike_34 : decode cX0_isLike 34 = .ok (.iaload, 1) := by decide +kernel
theorem dX0_isLike_35 : decode cX0_isLike 35 = .ok (.if_icmp .ne 33, 3) := by decide +kernel
theorem dX0_isLike_38 : decode cX0_isLike 38 = .ok (.aload_n 0, 1) := by decide +kernel
theorem dX0_isLike_39 : decode cX0_isLike 39 = .ok (.getfield 15, 3) := by decide +kernel
theorem dX0_isLike_42 : decode cX0_isLike 42 = .ok (.iload_n 2, 1) := by decide +kernel
theorem dX0_isLike_43 : decode cX0_isLike 43 = .ok (.iaload, 1) := by decide +kernel
theorem dX0_isLike_44 : decode cX0_isLike 44 = .ok (.aload_n 1, 1) := by decide +kernel
theorem dX0_isLike_45 : decode cX0_isLike 45 = .ok (.getfield 15, 3) := by decide +kernel
theorem dX0_isLike_48 : decode cX0_isLike 48 = .ok (.iload_n 2, 1) := by decide +kernel
theorem dX0_isLike_49 : decode cX0_isLike 49 = .ok (.iaload, 1) := by decide +kernel
theorem dX0_isLike_50 : decode cX0_isLike 50 = .ok (.if_icmp .ne 18, 3) := by decide +kernel
theorem dX0_isLike_53 : decode cX0_isLike 53 = .ok (.aload_n 0, 1) := by decide +kernel
theorem dX0_isLike_54 : decode cX0_isLike 54 = .ok (.getfield 18, 3) := by decide +kernel
theorem dX0_isLike_57 : decode cX0_isLike 57 = .ok (.iload_n 2, 1) := by decide +kernel
theorem dX0_isLike_58 : decode cX0_isLike 58 = .ok (.iaload, 1) := by decide +kernel
theorem dX0_isLike_59 : decode cX0_isLike 59 = .ok (.aload_n 1, 1) := by decide +kernel
theorem dX0_isLike_60 : decode cX0_isLike 60 = .ok (.getfield 18, 3) := by decide +kernel
theorem dX0_isLike_63 : decode cX0_isLike 63 = .ok (.iload_n 2, 1) := by decide +kernel
theorem dX0_isLike_64 : decode cX0_isLike 64 = .ok (.iaload, 1) := by decide +kernel
theorem dX0_isLike_65 : decode cX0_isLike 65 = .ok (.if_icmp .eq 5, 3) := by decide +kernel
theorem dX0_isLike_68 : decode cX0_isLike 68 = .ok (.iconst 0, 1) := by decide +kernel
theorem dX0_isLike_69 : decode cX0_isLike 69 = .ok (.ireturn, 1) := by decide +kernel
theorem dX0_isLike_70 : decode cX0_isLike 70 = .ok (.iinc 2 1, 3) := by decide +kernel
theorem dX0_isLike_73 : decode cX0_isLike 73 = .ok (.goto (-58), 3) := by decide +kernel
theorem dX0_isLike_76 : decode cX0_isLike 76 = .ok (.iconst 0, 1) := by decide +kernel
theorem dX0_isLike_77 : decode cX0_isLike 77 = .ok (.istore_n 2, 1) := by decide +kernel
theorem dX0_isLike_78 : decode cX0_isLike 78 = .ok (.iload_n 2, 1) := by decide +kernel
theorem dX0_isLike_79 : decode cX0_isLike 79 = .ok (.aload_n 0, 1) := by decide +kernel
theorem dX0_isLike_80 : decode cX0_isLike 80 = .ok (.getfield 24, 3) := by decide +kernel
theorem dX0_isLike_83 : decode cX0_isLike 83 = .ok (.iconst 5, 1) := by decide +kernel
theorem dX0_isLike_84 : decode cX0_isLike 84 = .ok (.imul, 1) := by decide +kernel
theorem dX0_isLike_85 : decode cX0_isLike 85 = .ok (.if_icmp .ge 26, 3) := by decide +kernel
theorem dX0_isLike_88 : decode cX0_isLike 88 = .ok (.aload_n 0, 1) := by decide +kernel
theorem dX0_isLike_89 : decode cX0_isLike 89 = .ok (.getfield 21, 3) := by decide +kernel
theorem dX0_isLike_92 : decode cX0_isLike 92 = .ok (.iload_n 2, 1) := by decide +kernel
theorem dX0_isLike_93 : decode cX0_isLike 93 = .ok (.iaload, 1) := by decide +kernel
theorem dX0_isLike_94 : decode cX0_isLike 94 = .ok (.aload_n 1, 1) := by decide +kernel
theorem dX0_isLike_95 : decode cX0_isLike 95 = .ok (.getfield 21, 3) := by decide +kernel
theorem dX0_isLike_98 : decode cX0_isLike 98 = .ok (.iload_n 2, 1) := by decide +kernel
theorem dX0_isLike_99 : decode cX0_isLike 99 = .ok (.iaload, 1) := by decide +kernel
theorem dX0_isLike_100 : decode cX0_isLike 100 = .ok (.if_icmp .eq 5, 3) := by decide +kernel
theorem dX0_isLike_103 : decode cX0_isLike 103 = .ok (.iconst 0, 1) := by decide +kernel
theorem dX0_isLike_104 : decode cX0_isLike 104 = .ok (.ireturn, 1) := by decide +kernel
theorem dX0_isLike_105 : decode cX0_isLike 105 = .ok (.iinc 2 1, 3) := by decide +kernel
theorem dX0_isLike_108 : decode cX0_isLike 108 = .ok (.goto (-30), 3) := by decide +kernel
theorem dX0_isLike_111 : decode cX0_isLike 111 = .ok (.iconst 1, 1) := by decide +kernel
theorem dX0_isLike_112 : decode cX0_isLike 112 = .ok (.ireturn, 1) := by decide +kernel
theorem dX1_init_0 : decode cX1_init 0 = .ok (.aload_n 0, 1) := by decide +kernel
theorem dX1_init_1 : decode cX1_init 1 = .ok (.invokespecial 3, 3) := by decide +kernel
theorem dX1_init_4 : decode cX1_init 4 = .ok (.aload_n 0, 1) := by decide +kernel
theorem dX1_init_5 : decode cX1_init 5 = .ok (.iconst 5, 1) := by decide +kernel
theorem dX1_init_6 : decode cX1_init 6 = .ok (.newarray .int, 2) := by decide +kernel
theorem dX1_init_8 : decode cX1_init 8 = .ok (.putfield 9, 3) := by decide +kernel
theorem dX1_init_11 : decode cX1_init 11 = .ok (.return_, 1) := by decide +kernel
theorem dX1_begin_0 : decode cX1_begin 0 = .ok (.aload_n 0, 1) := by decide +kernel
theorem dX1_begin_1 : decode cX1_begin 1 = .ok (.iload_n 1, 1) := by decide +kernel
theorem dX1_begin_2 : decode cX1_begin 2 = .ok (.putfield 15, 3) := by decide +kernel
theorem dX1_begin_5 : decode cX1_begin 5 = .ok (.aload_n 0, 1) := by decide +kernel
theorem dX1_begin_6 : decode cX1_begin 6 = .ok (.iload_n 2, 1) := by decide +kernel
theorem dX1_begin_7 : decode cX1_begin 7 = .ok (.putfield 19, 3) := by decide +kernel
theorem dX1_begin_10 : decode cX1_begin 10 = .ok (.aload_n 0, 1) := by decide +kernel
theorem dX1_begin_11 : decode cX1_begin 11 = .ok (.iload_n 3, 1) := by decide +kernel
theorem dX1_begin_12 : decode cX1_begin 12 = .ok (.putfield 23, 3) := by decide +kernel
theorem dX1_begin_15 : decode cX1_begin 15 = .ok (.aload_n 0, 1) := by decide +kernel
theorem dX1_begin_16 : decode cX1_begin 16 = .ok (.iload 4, 2) := by decide +kernel
theorem dX1_begin_18 : decode cX1_begin 18 = .ok (.putfield 26, 3) := by decide +kernel
theorem dX1_begin_21 : decode cX1_begin 21 = .ok (.aload_n 0, 1) := by decide +kernel
theorem dX1_begin_22 : decode cX1_begin 22 = .ok (.iload 5, 2) := by decide +kernel
theorem dX1_begin_24 : decode cX1_begin 24 = .ok (.putfield 29, 3) := by decide +kernel
theorem dX1_begin_27 : decode cX1_begin 27 = .ok (.aload_n 0, 1) := by decide +kernel
theorem dX1_begin_28 : decode cX1_begin 28 = .ok (.bipush 111, 2) := by decide +kernel
theorem dX1_begin_30 : decode cX1_begin 30 = .ok (.putfield 32, 3) := by decide +kernel
theorem dX1_begin_33 : decode cX1_begin 33 = .ok (.aload_n 0, 1) := by decide +kernel
theorem dX1_begin_34 : decode cX1_begin 34 = .ok (.iconst (-1), 1) := by decide +kernel
theorem dX1_begin_35 : decode cX1_begin 35 = .ok (.putfield 35, 3) := by decide +kernel
theorem dX1_begin_38 : decode cX1_begin 38 = .ok (.aload_n 0, 1) := by decide +kernel
theorem dX1_begin_39 : decode cX1_begin 39 = .ok (.iconst 0, 1) := by decide +kernel
theorem dX1_begin_40 : decode cX1_begin 40 = .ok (.putfield 38, 3) := by decide +kernel
theorem dX1_begin_43 : decode cX1_begin 43 = .ok (.aload_n 0, 1) := by decide +kernel
theorem dX1_begin_44 : decode cX1_begin 44 = .ok (.iconst 0, 1) := by decide +kernel
theorem dX1_begin_45 : decode cX1_begin 45 = .ok (.putfield 41, 3) := by decide +kernel
theorem dX1_begin_48 : decode cX1_begin 48 = .ok (.aload_n 0, 1) := by decide +kernel
theorem dX1_begin_49 : decode cX1_begin 49 = .ok (.iconst (-1), 1) := by decide +kernel
theorem dX1_begin_50 : decode cX1_begin 50 = .ok (.putfield 44, 3) := by decide +kernel
theorem dX1_begin_53 : decode cX1_begin 53 = .ok (.aload_n 0, 1) := by decide +kernel
theorem dX1_begin_54 : decode cX1_begin 54 = .ok (.iconst 0, 1) := by decide +kernel
theorem dX1_begin_55 : decode cX1_begin 55 = .ok (.putfield 47, 3) := by decide +kernel
theorem dX1_begin_58 : decode cX1_begin 58 = .ok (.aload_n 0, 1) := by decide +kernel
theorem dX1_begin_59 : decode cX1_begin 59 = .ok (.lconst 0, 1) := by decide +kernel
theorem dX1_begin_60 : decode cX1_begin 60 = .ok (.putfield 50, 3) := by decide +kernel
theorem dX1_begin_63 : decode cX1_begin 63 = .ok (.aload_n 0, 1) := by decide +kernel
theorem dX1_begin_64 : decode cX1_begin 64 = .ok (.iconst 0, 1) := by decide +kernel
theorem dX1_begin_65 : decode cX1_begin 65 = .ok (.putfield 54, 3) := by decide +kernel
theorem dX1_begin_68 : decode cX1_begin 68 = .ok (.aload_n 0, 1) := by decide +kernel
theorem dX1_begin_69 : decode cX1_begin 69 = .ok (.iconst 0, 1) := by decide +kernel
theorem dX1_begin_70 : decode cX1_begin 70 = .ok (.putfield 57, 3) := by decide +kernel
theorem dX1_begin_73 : decode cX1_begin 73 = .ok (.aload_n 0, 1) := by decide +kernel
theorem dX1_begin_74 : decode cX1_begin 74 = .ok (.iconst 0, 1) := by decide +kernel
theorem dX1_begin_75 : decode cX1_begin 75 = .ok (.putfield 60, 3) := by decide +kernel
theorem dX1_begin_78 : decode cX1_begin 78 = .ok (.aload_n 0, 1) := by decide +kernel
theorem dX1_begin_79 : decode cX1_begin 79 = .ok (.iconst 0, 1) := by decide +kernel
theorem dX1_begin_80 : decode cX1_begin 80 = .ok (.putfield 63, 3) := by decide +kernel
theorem dX1_begin_83 : decode cX1_begin 83 = .ok (.aload_n 0, 1) := by decide +kernel
theorem dX1_begin_84 : decode cX1_begin 84 = .ok (.iconst 0, 1) := by decide +kernel
theorem dX1_begin_85 : decode cX1_begin 85 = .ok (.putfield 66, 3) := by decide +kernel
theorem dX1_begin_88 : decode cX1_begin 88 = .ok (.aload_n 0, 1) := by decide +kernel
theorem dX1_begin_89 : decode cX1_begin 89 = .ok (.iconst 0, 1) := by decide +kernel
theorem dX1_begin_90 : decode cX1_begin 90 = .ok (.putfield 69, 3) := by decide +kernel
theorem dX1_begin_93 : decode cX1_begin 93 = .ok (.aload_n 0, 1) := by decide +kernel
theorem dX1_begin_94 : decode cX1_begin 94 = .ok (.iconst 0, 1) := by decide +kernel
theorem dX1_begin_95 : decode cX1_begin 95 = .ok (.putfield 72, 3) := by decide +kernel
theorem dX1_begin_98 : decode cX1_begin 98 = .ok (.return_, 1) := by decide +kernel
theorem dX1_noteDrop_0 : decode cX1_noteDrop 0 = .ok (.iload_n 1, 1) := by decide +kernel
theorem dX1_noteDrop_1 : decode cX1_noteDrop 1 = .ok (.ifCond .eq 29, 3) := by decide +kernel
theorem dX1_noteDrop_4 : decode cX1_noteDrop 4 = .ok (.aload_n 0, 1) := by decide +kernel
theorem dX1_noteDrop_5 : decode cX1_noteDrop 5 = .ok (.dup, 1) := by decide +kernel
theorem dX1_noteDrop_6 : decode cX1_noteDrop 6 = .ok (.getfield 60, 3) := by decide +kernel
theorem dX1_noteDrop_9 : decode cX1_noteDrop 9 = .ok (.iconst 1, 1) := by decide +kernel
theorem dX1_noteDrop_10 : decode cX1_noteDrop 10 = .ok (.iadd, 1) := by decide +kernel
theorem dX1_noteDrop_11 : decode cX1_noteDrop 11 = .ok (.putfield 60, 3) := by decide +kernel
theorem dX1_noteDrop_14 : decode cX1_noteDrop 14 = .ok (.aload_n 0, 1) := by decide +kernel
theorem dX1_noteDrop_15 : decode cX1_noteDrop 15 = .ok (.aload_n 0, 1) := by decide +kernel
theorem dX1_noteDrop_16 : decode cX1_noteDrop 16 = .ok (.getfield 63, 3) := by decide +kernel
theorem dX1_noteDrop_19 : decode cX1_noteDrop 19 = .ok (.putfield 66, 3) := by decide +kernel
theorem dX1_noteDrop_22 : decode cX1_noteDrop 22 = .ok (.aload_n 0, 1) := by decide +kernel
theorem dX1_noteDrop_23 : decode cX1_noteDrop 23 = .ok (.iload_n 2, 1) := by decide +kernel
theorem dX1_noteDrop_24 : decode cX1_noteDrop 24 = .ok (.putfield 63, 3) := by decide +kernel
theorem dX1_noteDrop_27 : decode cX1_noteDrop 27 = .ok (.goto 18, 3) := by decide +kernel
theorem dX1_noteDrop_30 : decode cX1_noteDrop 30 = .ok (.aload_n 0, 1) := by decide +kernel
theorem dX1_noteDrop_31 : decode cX1_noteDrop 31 = .ok (.iconst 0, 1) := by decide +kernel
theorem dX1_noteDrop_32 : decode cX1_noteDrop 32 = .ok (.putfield 60, 3) := by decide +kernel
theorem dX1_noteDrop_35 : decode cX1_noteDrop 35 = .ok (.aload_n 0, 1) := by decide +kernel
theorem dX1_noteDrop_36 : decode cX1_noteDrop 36 = .ok (.iconst 0, 1) := by decide +kernel
theorem dX1_noteDrop_37 : decode cX1_noteDrop 37 = .ok (.putfield 66, 3) := by decide +kernel
theorem dX1_noteDrop_40 : decode cX1_noteDrop 40 = .ok (.aload_n 0, 1) := by decide +kernel
theorem dX1_noteDrop_41 : decode cX1_noteDrop 41 = .ok (.iconst 0, 1) := by decide +kernel
theorem dX1_noteDrop_42 : decode cX1_noteDrop 42 = .ok (.putfield 63, 3) := by decide +kernel
theorem dX1_noteDrop_45 : decode cX1_noteDrop 45 = .ok (.return_, 1) := by decide +kernel
theorem dX1_land_0 : decode cX1_land 0 = .ok (.aload_n 0, 1) := by decide +kernel
theorem dX1_land_1 : decode cX1_land 1 = .ok (.bipush 111, 2) := by decide +kernel
theorem dX1_land_3 : decode cX1_land 3 = .ok (.putfield 32, 3) := by decide +kernel
theorem dX1_land_6 : decode cX1_land 6 = .ok (.aload_n 0, 1) := by decide +kernel
theorem dX1_land_7 : decode cX1_land 7 = .ok (.dup, 1) := by decide +kernel
theorem dX1_land_8 : decode cX1_land 8 = .ok (.getfield 54, 3) := by decide +kernel
theorem dX1_land_11 : decode cX1_land 11 = .ok (.iconst 1, 1) := by decide +kernel
theorem dX1_land_12 : decode cX1_land 12 = .ok (.iadd, 1) := by decide +kernel
theorem dX1_land_13 : decode cX1_land 13 = .ok (.putfield 54, 3) := by decide +kernel
theorem dX1_land_16 : decode cX1_land 16 = .ok (.return_, 1) := by decide +kernel
theorem dX1_isLike_0 : decode cX1_isLike 0 = .ok (.aload_n 0, 1) := by decide +kernel
theorem dX1_isLike_1 : decode cX1_isLike 1 = .ok (.aload_n 1, 1) := by decide +kernel
theorem dX1_isLike_2 : decode cX1_isLike 2 = .ok (.invokevirtual 75, 3) := by decide +kernel
theorem dX1_isLike_5 : decode cX1_isLike 5 = .ok (.ifCond .eq 23, 3) := by decide +kernel
theorem dX1_isLike_8 : decode cX1_isLike 8 = .ok (.aload_n 0, 1) := by decide +kernel
theorem dX1_isLike_9 : decode cX1_isLike 9 = .ok (.aload_n 1, 1) := by decide +kernel
theorem dX1_isLike_10 : decode cX1_isLike 10 = .ok (.invokevirtual 79, 3) := by decide +kernel
theorem dX1_isLike_13 : decode cX1_isLike 13 = .ok (.ifCond .eq 15, 3) := by decide +kernel
theorem dX1_isLike_16 : decode cX1_isLike 16 = .ok (.aload_n 0, 1) := by decide +kernel
theorem dX1_isLike_17 : decode cX1_isLike 17 = .ok (.aload_n 1, 1) := by decide +kernel
theorem dX1_isLike_18 : decode cX1_isLike 18 = .ok (.invokevirtual 82, 3) := by decide +kernel
theorem dX1_isLike_21 : decode cX1_isLike 21 = .ok (.ifCond .eq 7, 3) := by decide +kernel
theorem dX1_isLike_24 : decode cX1_isLike 24 = .ok (.iconst 1, 1) := by decide +kernel
theorem dX1_isLike_25 : decode cX1_isLike 25 = .ok (.goto 4, 3) := by decide +kernel
theorem dX1_isLike_28 : decode cX1_isLike 28 = .ok (.iconst 0, 1) := by decide +kernel
theorem dX1_isLike_29 : decode cX1_isLike 29 = .ok (.ireturn, 1) := by decide +kernel
theorem dX1_isMadeLike_0 : decode cX1_isMadeLike 0 = .ok (.aload_n 0, 1) := by decide +kernel
theorem dX1_isMadeLike_1 : decode cX1_isMadeLike 1 = .ok (.getfield 15, 3) := by decide +kernel
theorem dX1_isMadeLike_4 : decode cX1_isMadeLike 4 = .ok (.aload_n 1, 1) := by decide +kernel
theorem dX1_isMadeLike_5 : decode cX1_isMadeLike 5 = .ok (.getfield 15, 3) := by decide +kernel
theorem dX1_isMadeLike_8 : decode cX1_isMadeLike 8 = .ok (.if_icmp .ne 51, 3) := by decide +kernel
theorem dX1_isMadeLike_11 : decode cX1_isMadeLike 11 = .ok (.aload_n 0, 1) := by decide +kernel
theorem dX1_isMadeLike_12 : decode cX1_isMadeLike 12 = .ok (.getfield 19, 3) := by decide +kernel
theorem dX1_isMadeLike_15 : decode cX1_isMadeLike 15 = .ok (.aload_n 1, 1) := by decide +kernel
theorem dX1_isMadeLike_16 : decode cX1_isMadeLike 16 = .ok (.getfield 19, 3) := by decide +kernel
theorem dX1_isMadeLike_19 : decode cX1_isMadeLike 19 = .ok (.if_icmp .ne 40, 3) := by decide +kernel
theorem dX1_isMadeLike_22 : decode cX1_isMadeLike 22 = .ok (.aload_n 0, 1) := by decide +kernel
theorem dX1_isMadeLike_23 : decode cX1_isMadeLike 23 = .ok (.getfield 23, 3) := by decide +kernel
theorem dX1_isMadeLike_26 : decode cX1_isMadeLike 26 = .ok (.aload_n 1, 1) := by decide +kernel
theorem dX1_isMadeLike_27 : decode cX1_isMadeLike 27 = .ok (.getfield 23, 3) := by decide +kernel
theorem dX1_isMadeLike_30 : decode cX1_isMadeLike 30 = .ok (.if_icmp .ne 29, 3) := by decide +kernel
theorem dX1_isMadeLike_33 : decode cX1_isMadeLike 33 = .ok (.aload_n 0, 1) := by decide +kernel
theorem dX1_isMadeLike_34 : decode cX1_isMadeLike 34 = .ok (.getfield 26, 3) := by decide +kernel
theorem dX1_isMadeLike_37 : decode cX1_isMadeLike 37 = .ok (.aload_n 1, 1) := by decide +kernel
theorem dX1_isMadeLike_38 : decode cX1_isMadeLike 38 = .ok (.getfield 26, 3) := by decide +kernel
theorem dX1_isMadeLike_41 : decode cX1_isMadeLike 41 = .ok (.if_icmp .ne 18, 3) := by decide +kernel
theorem dX1_isMadeLike_44 : decode cX1_isMadeLike 44 = .ok (.aload_n 0, 1) := by decide +kernel
theorem dX1_isMadeLike_45 : decode cX1_isMadeLike 45 = .ok (.getfield 29, 3) := by decide +kernel
theorem dX1_isMadeLike_48 : decode cX1_isMadeLike 48 = .ok (.aload_n 1, 1) := by decide +kernel
theorem dX1_isMadeLike_49 : decode cX1_isMadeLike 49 = .ok (.getfield 29, 3) := by decide +kernel
theorem dX1_isMadeLike_52 : decode cX1_isMadeLike 52 = .ok (.if_icmp .ne 7, 3) := by decide +kernel
theorem dX1_isMadeLike_55 : decode cX1_isMadeLike 55 = .ok (.iconst 1, 1) := by decide +kernel
theorem dX1_isMadeLike_56 : decode cX1_isMadeLike 56 = .ok (.goto 4, 3) := by decide +kernel
theorem dX1_isMadeLike_59 : decode cX1_isMadeLike 59 = .ok (.iconst 0, 1) := by decide +kernel
theorem dX1_isMadeLike_60 : decode cX1_isMadeLike 60 = .ok (.ireturn, 1) := by decide +kernel
theorem dX1_isPackedLike_0 : decode cX1_isPackedLike 0 = .ok (.aload_n 0, 1) := by decide +kernel
theorem dX1_isPackedLike_1 : decode cX1_isPackedLike 1 = .ok (.getfield 32, 3) := by decide +kernel
theorem dX1_isPackedLike_4 : decode cX1_isPackedLike 4 = .ok (.aload_n 1, 1) := by decide +kernel
theorem dX1_isPackedLike_5 : decode cX1_isPackedLike 5 = .ok (.getfield 32, 3) := by decide +kernel
theorem dX1_isPackedLike_8 : decode cX1_isPackedLike 8 = .ok (.if_icmp .ne 25, 3) := by decide +kernel
theorem dX1_isPackedLike_11 : decode cX1_isPackedLike 11 = .ok (.aload_n 0, 1) := by decide +kernel
theorem dX1_isPackedLike_12 : decode cX1_isPackedLike 12 = .ok (.getfield 35, 3) := by decide +kernel
theorem dX1_isPackedLike_15 : decode cX1_isPackedLike 15 = .ok (.aload_n 1, 1) := by decide +kernel
theorem dX1_isPackedLike_16 : decode cX1_isPackedLike 16 = .ok (.getfield 35, 3) := by decide +kernel
theorem dX1_isPackedLike_19 : decode cX1_isPackedLike 19 = .ok (.if_icmp .ne 14, 3) := by decide +kernel
theorem dX1_isPackedLike_22 : decode cX1_isPackedLike 22 = .ok (.aload_n 0, 1) := by decide +kernel
theorem dX1_isPackedLike_23 : decode cX1_isPackedLike 23 = .ok (.getfield 38, 3) := by decide +kernel
theorem dX1_isPackedLike_26 : decode cX1_isPackedLike 26 = .ok (.aload_n 1, 1) := by decide +kernel
theorem dX1_isPackedLike_27 : decode cX1_isPackedLike 27 = .ok (.getfield 38, 3) := by decide +kernel
theorem dX1_isPackedLike_30 : decode cX1_isPackedLike 30 = .ok (.if_icmp .eq 5, 3) := by decide +kernel
theorem dX1_isPackedLike_33 : decode cX1_isPackedLike 33 = .ok (.iconst 0, 1) := by decide +kernel
theorem dX1_isPackedLike_34 : decode cX1_isPackedLike 34 = .ok (.ireturn, 1) := by decide +kernel
theorem dX1_isPackedLike_35 : decode cX1_isPackedLike 35 = .ok (.iconst 0, 1) := by decide +kernel
theorem dX1_isPackedLike_36 : decode cX1_isPackedLike 36 = .ok (.istore_n 2, 1) := by decide +kernel
theorem dX1_isPackedLike_37 : decode cX1_isPackedLike 37 = .ok (.iload_n 2, 1) := by decide +kernel
theorem dX1_isPackedLike_38 : decode cX1_isPackedLike 38 = .ok (.aload_n 0, 1) := by decide +kernel
theorem dX1_isPackedLike_39 : decode cX1_isPackedLike 39 = .ok (.getfield 38, 3) := by decide +kernel
theorem dX1_isPackedLike_42 : decode cX1_isPackedLike 42 = .ok (.if_icmp .ge 31, 3) := by decide +kernel
theorem dX1_isPackedLike_45 : decode cX1_isPackedLike 45 = .ok (.iload_n 2, 1) := by decide +kernel
theorem dX1_isPackedLike_46 : decode cX1_isPackedLike 46 = .ok (.iconst 5, 1) := by decide +kernel
theorem dX1_isPackedLike_47 : decode cX1_isPackedLike 47 = .ok (.if_icmp .ge 26, 3) := by decide +kernel
theorem dX1_isPackedLike_50 : decode cX1_isPackedLike 50 = .ok (.aload_n 0, 1) := by decide +kernel
theorem dX1_isPackedLike_51 : decode cX1_isPackedLike 51 = .ok (.getfield 9, 3) := by decide +kernel
theorem dX1_isPackedLike_54 : decode cX1_isPackedLike 54 = .ok (.iload_n 2, 1) := by decide +kernel
theorem dX1_isPackedLike_55 : decode cX1_isPackedLike 55 = .ok (.iaload, 1) := by decide +kernel
theorem dX1_isPackedLike_56 : decode cX1_isPackedLike 56 = .ok (.aload_n 1, 1) := by decide +kernel
theorem dX1_isPackedLike_57 : decode cX1_isPackedLike 57 = .ok (.getfield 9, 3) := by decide +kernel
theorem dX1_isPackedLike_60 : decode cX1_isPackedLike 60 = .ok (.iload_n 2, 1) := by decide +kernel
theorem dX1_isPackedLike_61 : decode cX1_isPackedLike 61 = .ok (.iaload, 1) := by decide +kernel
theorem dX1_isPackedLike_62 : decode cX1_isPackedLike 62 = .ok (.if_icmp .eq 5, 3) := by decide +kernel
theorem dX1_isPackedLike_65 : decode cX1_isPackedLike 65 = .ok (.iconst 0, 1) := by decide +kernel
theorem dX1_isPackedLike_66 : decode cX1_isPackedLike 66 = .ok (.ireturn, 1) := by decide +kernel
theorem dX1_isPackedLike_67 : decode cX1_isPackedLike 67 = .ok (.iinc 2 1, 3) := by decide +kernel
theorem dX1_isPackedLike_70 : decode cX1_isPackedLike 70 = .ok (.goto (-33), 3) := by decide +kernel
theorem dX1_isPackedLike_73 : decode cX1_isPackedLike 73 = .ok (.aload_n 0, 1) := by decide +kernel
theorem dX1_isPackedLike_74 : decode cX1_isPackedLike 74 = .ok (.getfield 41, 3) := by decide +kernel
theorem dX1_isPackedLike_77 : decode cX1_isPackedLike 77 = .ok (.aload_n 1, 1) := by decide +kernel
theorem dX1_isPackedLike_78 : decode cX1_isPackedLike 78 = .ok (.getfield 41, 3) := by decide +kernel
theorem dX1_isPackedLike_81 : decode cX1_isPackedLike 81 = .ok (.if_icmp .ne 41, 3) := by decide +kernel
theorem dX1_isPackedLike_84 : decode cX1_isPackedLike 84 = .ok (.aload_n 0, 1) := by decide +kernel
theorem dX1_isPackedLike_85 : decode cX1_isPackedLike 85 = .ok (.getfield 44, 3) := by decide +kernel
theorem dX1_isPackedLike_88 : decode cX1_isPackedLike 88 = .ok (.aload_n 1, 1) := by decide +kernel
theorem dX1_isPackedLike_89 : decode cX1_isPackedLike 89 = .ok (.getfield 44, 3) := by decide +kernel
theorem dX1_isPackedLike_92 : decode cX1_isPackedLike 92 = .ok (.if_icmp .ne 30, 3) := by decide +kernel
theorem dX1_isPackedLike_95 : decode cX1_isPackedLike 95 = .ok (.aload_n 0, 1) := by decide +kernel
theorem dX1_isPackedLike_96 : decode cX1_isPackedLike 96 = .ok (.getfield 47, 3) := by decide +kernel
theorem dX1_isPackedLike_99 : decode cX1_isPackedLike 99 = .ok (.aload_n 1, 1) := by decide +kernel
theorem dX1_isPackedLike_100 : decode cX1_isPackedLike 100 = .ok (.getfield 47, 3) := by decide +kernel
theorem dX1_isPackedLike_103 : decode cX1_isPackedLike 103 = .ok (.if_icmp .ne 19, 3) := by decide +kernel
theorem dX1_isPackedLike_106 : decode cX1_isPackedLike 106 = .ok (.aload_n 0, 1) := by decide +kernel
theorem dX1_isPackedLike_107 : decode cX1_isPackedLike 107 = .ok (.getfield 50, 3) := by decide +kernel
theorem dX1_isPackedLike_110 : decode cX1_isPackedLike 110 = .ok (.aload_n 1, 1) := by decide +kernel
theorem dX1_isPackedLike_111 : decode cX1_isPackedLike 111 = .ok (.getfield 50, 3) := by decide +kernel
theorem dX1_isPackedLike_114 : decode cX1_isPackedLike 114 = .ok (.lcmp, 1) := by decide +kernel
theorem dX1_isPackedLike_115 : decode cX1_isPackedLike 115 = .ok (.ifCond .ne 7, 3) := by decide +kernel
theorem dX1_isPackedLike_118 : decode cX1_isPackedLike 118 = .ok (.iconst 1, 1) := by decide +kernel
theorem dX1_isPackedLike_119 : decode cX1_isPackedLike 119 = .ok (.goto 4, 3) := by decide +kernel
theorem dX1_isPackedLike_122 : decode cX1_isPackedLike 122 = .ok (.iconst 0, 1) := by decide +kernel
theorem dX1_isPackedLike_123 : decode cX1_isPackedLike 123 = .ok (.ireturn, 1) := by decide +kernel
theorem dX1_isTriedLike_0 : decode cX1_isTriedLike 0 = .ok (.aload_n 0, 1) := by decide +kernel
theorem dX1_isTriedLike_1 : decode cX1_isTriedLike 1 = .ok (.getfield 54, 3) := by decide +kernel
theorem dX1_isTriedLike_4 : decode cX1_isTriedLike 4 = .ok (.aload_n 1, 1) := by decide +kernel
theorem dX1_isTriedLike_5 : decode cX1_isTriedLike 5 = .ok (.getfield 54, 3) := by decide +kernel
theorem dX1_isTriedLike_8 : decode cX1_isTriedLike 8 = .ok (.if_icmp .ne 73, 3) := by decide +kernel
theorem dX1_isTriedLike_11 : decode cX1_isTriedLike 11 = .ok (.aload_n 0, 1) := by decide +kernel
theorem dX1_isTriedLike_12 : decode cX1_isTriedLike 12 = .ok (.getfield 57, 3) := by decide +kernel
theorem dX1_isTriedLike_15 : decode cX1_isTriedLike 15 = .ok (.aload_n 1, 1) := by decide +kernel
theorem dX1_isTriedLike_16 : decode cX1_isTriedLike 16 = .ok (.getfield 57, 3) := by decide +kernel
theorem dX1_isTriedLike_19 : decode cX1_isTriedLike 19 = .ok (.if_icmp .ne 62, 3) := by decide +kernel
theorem dX1_isTriedLike_22 : decode cX1_isTriedLike 22 = .ok (.aload_n 0, 1) := by decide +kernel
theorem dX1_isTriedLike_23 : decode cX1_isTriedLike 23 = .ok (.getfield 60, 3) := by decide +kernel
theorem dX1_isTriedLike_26 : decode cX1_isTriedLike 26 = .ok (.aload_n 1, 1) := by decide +kernel
theorem dX1_isTriedLike_27 : decode cX1_isTriedLike 27 = .ok (.getfield 60, 3) := by decide +kernel
theorem dX1_isTriedLike_30 : decode cX1_isTriedLike 30 = .ok (.if_icmp .ne 51, 3) := by decide +kernel
theorem dX1_isTriedLike_33 : decode cX1_isTriedLike 33 = .ok (.aload_n 0, 1) := by decide +kernel
theorem dX1_isTriedLike_34 : decode cX1_isTriedLike 34 = .ok (.getfield 63, 3) := by decide +kernel
theorem dX1_isTriedLike_37 : decode cX1_isTriedLike 37 = .ok (.aload_n 1, 1) := by decide +kernel
theorem dX1_isTriedLike_38 : decode cX1_isTriedLike 38 = .ok (.getfield 63, 3) := by decide +kernel
theorem dX1_isTriedLike_41 : decode cX1_isTriedLike 41 = .ok (.if_icmp .ne 40, 3) := by decide +kernel
theorem dX1_isTriedLike_44 : decode cX1_isTriedLike 44 = .ok (.aload_n 0, 1) := by decide +kernel
theorem dX1_isTriedLike_45 : decode cX1_isTriedLike 45 = .ok (.getfield 66, 3) := by decide +kernel
theorem dX1_isTriedLike_48 : decode cX1_isTriedLike 48 = .ok (.aload_n 1, 1) := by decide +kernel
theorem dX1_isTriedLike_49 : decode cX1_isTriedLike 49 = .ok (.getfield 66, 3) := by decide +kernel
theorem dX1_isTriedLike_52 : decode cX1_isTriedLike 52 = .ok (.if_icmp .ne 29, 3) := by decide +kernel
theorem dX1_isTriedLike_55 : decode cX1_isTriedLike 55 = .ok (.aload_n 0, 1) := by decide +kernel
theorem dX1_isTriedLike_56 : decode cX1_isTriedLike 56 = .ok (.getfield 69, 3) := by decide +kernel
theorem dX1_isTriedLike_59 : decode cX1_isTriedLike 59 = .ok (.aload_n 1, 1) := by decide +kernel
theorem dX1_isTriedLike_60 : decode cX1_isTriedLike 60 = .ok (.getfield 69, 3) := by decide +kernel
theorem dX1_isTriedLike_63 : decode cX1_isTriedLike 63 = .ok (.if_icmp .ne 18, 3) := by decide +kernel
theorem dX1_isTriedLike_66 : decode cX1_isTriedLike 66 = .ok (.aload_n 0, 1) := by decide +kernel
theorem dX1_isTriedLike_67 : decode cX1_isTriedLike 67 = .ok (.getfield 72, 3) := by decide +kernel
theorem dX1_isTriedLike_70 : decode cX1_isTriedLike 70 = .ok (.aload_n 1, 1) := by decide +kernel
theorem dX1_isTriedLike_71 : decode cX1_isTriedLike 71 = .ok (.getfield 72, 3) := by decide +kernel
theorem dX1_isTriedLike_74 : decode cX1_isTriedLike 74 = .ok (.if_icmp .ne 7, 3) := by decide +kernel
theorem dX1_isTriedLike_77 : decode cX1_isTriedLike 77 = .ok (.iconst 1, 1) := by decide +kernel
theorem dX1_isTriedLike_78 : decode cX1_isTriedLike 78 = .ok (.goto 4, 3) := by decide +kernel
theorem dX1_isTriedLike_81 : decode cX1_isTriedLike 81 = .ok (.iconst 0, 1) := by decide +kernel
theorem dX1_isTriedLike_82 : decode cX1_isTriedLike 82 = .ok (.ireturn, 1) := by decide +kernel
theorem dX2_init_0 : decode cX2_init 0 = .ok (.aload_n 0, 1) := by decide +kernel
theorem dX2_init_1 : decode cX2_init 1 = .ok (.invokespecial 3, 3) := by decide +kernel
theorem dX2_init_4 : decode cX2_init 4 = .ok (.aload_n 0, 1) := by decide +kernel
theorem dX2_init_5 : decode cX2_init 5 = .ok (.sipush 2560, 3) := by decide +kernel
theorem dX2_init_8 : decode cX2_init 8 = .ok (.newarray .int, 2) := by decide +kernel
theorem dX2_init_10 : decode cX2_init 10 = .ok (.putfield 11, 3) := by decide +kernel
theorem dX2_init_13 : decode cX2_init 13 = .ok (.return_, 1) := by decide +kernel
theorem dX2_isFull_0 : decode cX2_isFull 0 = .ok (.aload_n 0, 1) := by decide +kernel
theorem dX2_isFull_1 : decode cX2_isFull 1 = .ok (.getfield 15, 3) := by decide +kernel
theorem dX2_isFull_4 : decode cX2_isFull 4 = .ok (.sipush 512, 3) := by decide +kernel
theorem dX2_isFull_7 : decode cX2_isFull 7 = .ok (.if_icmp .lt 7, 3) := by decide +kernel
theorem dX2_isFull_10 : decode cX2_isFull 10 = .ok (.iconst 1, 1) := by decide +kernel
theorem dX2_isFull_11 : decode cX2_isFull 11 = .ok (.goto 4, 3) := by decide +kernel
theorem dX2_isFull_14 : decode cX2_isFull 14 = .ok (.iconst 0, 1) := by decide +kernel
theorem dX2_isFull_15 : decode cX2_isFull 15 = .ok (.ireturn, 1) := by decide +kernel
theorem dX2_write_0 : decode cX2_write 0 = .ok (.aload_n 0, 1) := by decide +kernel
theorem dX2_write_1 : decode cX2_write 1 = .ok (.invokevirtual 19, 3) := by decide +kernel
theorem dX2_write_4 : decode cX2_write 4 = .ok (.ifCond .eq 4, 3) := by decide +kernel
theorem dX2_write_7 : decode cX2_write 7 = .ok (.return_, 1) := by decide +kernel
theorem dX2_write_8 : decode cX2_write 8 = .ok (.aload_n 0, 1) := by decide +kernel
theorem dX2_write_9 : decode cX2_write 9 = .ok (.getfield 15, 3) := by decide +kernel
theorem dX2_write_12 : decode cX2_write 12 = .ok (.iconst 5, 1) := by decide +kernel
theorem dX2_write_13 : decode cX2_write 13 = .ok (.imul, 1) := by decide +kernel
theorem dX2_write_14 : decode cX2_write 14 = .ok (.istore 6, 2) := by decide +kernel
theorem dX2_write_16 : decode cX2_write 16 = .ok (.aload_n 0, 1) := by decide +kernel
theorem dX2_write_17 : decode cX2_write 17 = .ok (.getfield 11, 3) := by decide +kernel
theorem dX2_write_20 : decode cX2_write 20 = .ok (.iload 6, 2) := by decide +kernel
theorem dX2_write_22 : decode cX2_write 22 = .ok (.iload_n 1, 1) := by decide +kernel
theorem dX2_write_23 : decode cX2_write 23 = .ok (.iastore, 1) := by decide +kernel
theorem dX2_write_24 : decode cX2_write 24 = .ok (.aload_n 0, 1) := by decide +kernel
theorem dX2_write_25 : decode cX2_write 25 = .ok (.getfield 11, 3) := by decide +kernel
theorem dX2_write_28 : decode cX2_write 28 = .ok (.iload 6, 2) := by decide +kernel
theorem dX2_write_30 : decode cX2_write 30 = .ok (.iconst 1, 1) := by decide +kernel
theorem dX2_write_31 : decode cX2_write 31 = .ok (.iadd, 1) := by decide +kernel
theorem dX2_write_32 : decode cX2_write 32 = .ok (.iload_n 2, 1) := by decide +kernel
theorem dX2_write_33 : decode cX2_write 33 = .ok (.iastore, 1) := by decide +kernel
theorem dX2_write_34 : decode cX2_write 34 = .ok (.aload_n 0, 1) := by decide +kernel
theorem dX2_write_35 : decode cX2_write 35 = .ok (.getfield 11, 3) := by decide +kernel
theorem dX2_write_38 : decode cX2_write 38 = .ok (.iload 6, 2) := by decide +kernel
theorem dX2_write_40 : decode cX2_write 40 = .ok (.iconst 2, 1) := by decide +kernel
theorem dX2_write_41 : decode cX2_write 41 = .ok (.iadd, 1) := by decide +kernel
theorem dX2_write_42 : decode cX2_write 42 = .ok (.iload_n 3, 1) := by decide +kernel
theorem dX2_write_43 : decode cX2_write 43 = .ok (.iastore, 1) := by decide +kernel
theorem dX2_write_44 : decode cX2_write 44 = .ok (.aload_n 0, 1) := by decide +kernel
theorem dX2_write_45 : decode cX2_write 45 = .ok (.getfield 11, 3) := by decide +kernel
theorem dX2_write_48 : decode cX2_write 48 = .ok (.iload 6, 2) := by decide +kernel
theorem dX2_write_50 : decode cX2_write 50 = .ok (.iconst 3, 1) := by decide +kernel
theorem dX2_write_51 : decode cX2_write 51 = .ok (.iadd, 1) := by decide +kernel
theorem dX2_write_52 : decode cX2_write 52 = .ok (.iload 4, 2) := by decide +kernel
theorem dX2_write_54 : decode cX2_write 54 = .ok (.iastore, 1) := by decide +kernel
theorem dX2_write_55 : decode cX2_write 55 = .ok (.aload_n 0, 1) := by decide +kernel
theorem dX2_write_56 : decode cX2_write 56 = .ok (.getfield 11, 3) := by decide +kernel
theorem dX2_write_59 : decode cX2_write 59 = .ok (.iload 6, 2) := by decide +kernel
theorem dX2_write_61 : decode cX2_write 61 = .ok (.iconst 4, 1) := by decide +kernel
theorem dX2_write_62 : decode cX2_write 62 = .ok (.iadd, 1) := by decide +kernel
theorem dX2_write_63 : decode cX2_write 63 = .ok (.iload 5, 2) := by decide +kernel
theorem dX2_write_65 : decode cX2_write 65 = .ok (.iastore, 1) := by decide +kernel
theorem dX2_write_66 : decode cX2_write 66 = .ok (.aload_n 0, 1) := by decide +kernel
theorem dX2_write_67 : decode cX2_write 67 = .ok (.dup, 1) := by decide +kernel
theorem dX2_write_68 : decode cX2_write 68 = .ok (.getfield 15, 3) := by decide +kernel
theorem dX2_write_71 : decode cX2_write 71 = .ok (.iconst 1, 1) := by decide +kernel
theorem dX2_write_72 : decode cX2_write 72 = .ok (.iadd, 1) := by decide +kernel
theorem dX2_write_73 : decode cX2_write 73 = .ok (.putfield 15, 3) := by decide +kernel
theorem dX2_write_76 : decode cX2_write 76 = .ok (.return_, 1) := by decide +kernel
theorem dX2_repeat_0 : decode cX2_repeat 0 = .ok (.iload_n 1, 1) := by decide +kernel
theorem dX2_repeat_1 : decode cX2_repeat 1 = .ok (.ifCond .lt 11, 3) := by decide +kernel
theorem dX2_repeat_4 : decode cX2_repeat 4 = .ok (.iload_n 1, 1) := by decide +kernel
theorem dX2_repeat_5 : decode cX2_repeat 5 = .ok (.aload_n 0, 1) := by decide +kernel
theorem dX2_repeat_6 : decode cX2_repeat 6 = .ok (.getfield 15, 3) := by decide +kernel
theorem dX2_repeat_9 : decode cX2_repeat 9 = .ok (.if_icmp .lt 5, 3) := by decide +kernel
theorem dX2_repeat_12 : decode cX2_repeat 12 = .ok (.iconst 0, 1) := by decide +kernel
theorem dX2_repeat_13 : decode cX2_repeat 13 = .ok (.ireturn, 1) := by decide +kernel
theorem dX2_repeat_14 : decode cX2_repeat 14 = .ok (.iload_n 1, 1) := by decide +kernel
theorem dX2_repeat_15 : decode cX2_repeat 15 = .ok (.iconst 5, 1) := by decide +kernel
theorem dX2_repeat_16 : decode cX2_repeat 16 = .ok (.imul, 1) := by decide +kernel
theorem dX2_repeat_17 : decode cX2_repeat 17 = .ok (.istore_n 3, 1) := by decide +kernel
theorem dX2_repeat_18 : decode cX2_repeat 18 = .ok (.aload_n 0, 1) := by decide +kernel
theorem dX2_repeat_19 : decode cX2_repeat 19 = .ok (.getfield 11, 3) := by decide +kernel
theorem dX2_repeat_22 : decode cX2_repeat 22 = .ok (.iload_n 3, 1) := by decide +kernel
theorem dX2_repeat_23 : decode cX2_repeat 23 = .ok (.iaload, 1) := by decide +kernel
theorem dX2_repeat_24 : decode cX2_repeat 24 = .ok (.istore 4, 2) := by decide +kernel
theorem dX2_repeat_26 : decode cX2_repeat 26 = .ok (.aload_n 0, 1) := by decide +kernel
theorem dX2_repeat_27 : decode cX2_repeat 27 = .ok (.getfield 11, 3) := by decide +kernel
theorem dX2_repeat_30 : decode cX2_repeat 30 = .ok (.iload_n 3, 1) := by decide +kernel
theorem dX2_repeat_31 : decode cX2_repeat 31 = .ok (.iconst 1, 1) := by decide +kernel
theorem dX2_repeat_32 : decode cX2_repeat 32 = .ok (.iadd, 1) := by decide +kernel
theorem dX2_repeat_33 : decode cX2_repeat 33 = .ok (.iaload, 1) := by decide +kernel
theorem dX2_repeat_34 : decode cX2_repeat 34 = .ok (.istore 5, 2) := by decide +kernel
theorem dX2_repeat_36 : decode cX2_repeat 36 = .ok (.aload_n 0, 1) := by decide +kernel
theorem dX2_repeat_37 : decode cX2_repeat 37 = .ok (.getfield 11, 3) := by decide +kernel
theorem dX2_repeat_40 : decode cX2_repeat 40 = .ok (.iload_n 3, 1) := by decide +kernel
theorem dX2_repeat_41 : decode cX2_repeat 41 = .ok (.iconst 2, 1) := by decide +kernel
theorem dX2_repeat_42 : decode cX2_repeat 42 = .ok (.iadd, 1) := by decide +kernel
theorem dX2_repeat_43 : decode cX2_repeat 43 = .ok (.iaload, 1) := by decide +kernel
theorem dX2_repeat_44 : decode cX2_repeat 44 = .ok (.istore 6, 2) := by decide +kernel
theorem dX2_repeat_46 : decode cX2_repeat 46 = .ok (.aload_n 0, 1) := by decide +kernel
theorem dX2_repeat_47 : decode cX2_repeat 47 = .ok (.getfield 11, 3) := by decide +kernel
theorem dX2_repeat_50 : decode cX2_repeat 50 = .ok (.iload_n 3, 1) := by decide +kernel
theorem dX2_repeat_51 : decode cX2_repeat 51 = .ok (.iconst 3, 1) := by decide +kernel
theorem dX2_repeat_52 : decode cX2_repeat 52 = .ok (.iadd, 1) := by decide +kernel
theorem dX2_repeat_53 : decode cX2_repeat 53 = .ok (.iaload, 1) := by decide +kernel
theorem dX2_repeat_54 : decode cX2_repeat 54 = .ok (.istore 7, 2) := by decide +kernel
theorem dX2_repeat_56 : decode cX2_repeat 56 = .ok (.aload_n 0, 1) := by decide +kernel
theorem dX2_repeat_57 : decode cX2_repeat 57 = .ok (.getfield 11, 3) := by decide +kernel
theorem dX2_repeat_60 : decode cX2_repeat 60 = .ok (.iload_n 3, 1) := by decide +kernel
theorem dX2_repeat_61 : decode cX2_repeat 61 = .ok (.iconst 4, 1) := by decide +kernel
theorem dX2_repeat_62 : decode cX2_repeat 62 = .ok (.iadd, 1) := by decide +kernel
theorem dX2_repeat_63 : decode cX2_repeat 63 = .ok (.iaload, 1) := by decide +kernel
theorem dX2_repeat_64 : decode cX2_repeat 64 = .ok (.istore 8, 2) := by decide +kernel
theorem dX2_repeat_66 : decode cX2_repeat 66 = .ok (.aload_n 2, 1) := by decide +kernel
theorem dX2_repeat_67 : decode cX2_repeat 67 = .ok (.iload 4, 2) := by decide +kernel
theorem dX2_repeat_69 : decode cX2_repeat 69 = .ok (.iload 5, 2) := by decide +kernel
theorem dX2_repeat_71 : decode cX2_repeat 71 = .ok (.iload 6, 2) := by decide +kernel
theorem dX2_repeat_73 : decode cX2_repeat 73 = .ok (.iload 7, 2) := by decide +kernel
theorem dX2_repeat_75 : decode cX2_repeat 75 = .ok (.iload 8, 2) := by decide +kernel
theorem dX2_repeat_77 : decode cX2_repeat 77 = .ok (.invokestatic 23, 3) := by decide +kernel
theorem dX2_repeat_80 : decode cX2_repeat 80 = .ok (.getstatic 29, 3) := by decide +kernel
theorem dX2_repeat_83 : decode cX2_repeat 83 = .ok (.if_acmp .eq 5, 3) := by decide +kernel
theorem dX2_repeat_86 : decode cX2_repeat 86 = .ok (.iconst 0, 1) := by decide +kernel
theorem dX2_repeat_87 : decode cX2_repeat 87 = .ok (.ireturn, 1) := by decide +kernel
theorem dX2_repeat_88 : decode cX2_repeat 88 = .ok (.aload_n 2, 1) := by decide +kernel
theorem dX2_repeat_89 : decode cX2_repeat 89 = .ok (.iload 4, 2) := by decide +kernel
theorem dX2_repeat_91 : decode cX2_repeat 91 = .ok (.iload 5, 2) := by decide +kernel
theorem dX2_repeat_93 : decode cX2_repeat 93 = .ok (.iload 6, 2) := by decide +kernel
theorem dX2_repeat_95 : decode cX2_repeat 95 = .ok (.iload 7, 2) := by decide +kernel
theorem dX2_repeat_97 : decode cX2_repeat 97 = .ok (.iload 8, 2) := by decide +kernel
theorem dX2_repeat_99 : decode cX2_repeat 99 = .ok (.invokevirtual 35, 3) := by decide +kernel
theorem dX2_repeat_102 : decode cX2_repeat 102 = .ok (.pop, 1) := by decide +kernel
theorem dX2_repeat_103 : decode cX2_repeat 103 = .ok (.iconst 1, 1) := by decide +kernel
theorem dX2_repeat_104 : decode cX2_repeat 104 = .ok (.ireturn, 1) := by decide +kernel
theorem dX3_init_0 : decode cX3_init 0 = .ok (.aload_n 0, 1) := by decide +kernel
theorem dX3_init_1 : decode cX3_init 1 = .ok (.invokespecial 3, 3) := by decide +kernel
theorem dX3_init_4 : decode cX3_init 4 = .ok (.return_, 1) := by decide +kernel
theorem dX3_begin_0 : decode cX3_begin 0 = .ok (.aload_n 0, 1) := by decide +kernel
theorem dX3_begin_1 : decode cX3_begin 1 = .ok (.iload_n 1, 1) := by decide +kernel
theorem dX3_begin_2 : decode cX3_begin 2 = .ok (.putfield 9, 3) := by decide +kernel
theorem dX3_begin_5 : decode cX3_begin 5 = .ok (.aload_n 0, 1) := by decide +kernel
theorem dX3_begin_6 : decode cX3_begin 6 = .ok (.iload_n 2, 1) := by decide +kernel
theorem dX3_begin_7 : decode cX3_begin 7 = .ok (.putfield 15, 3) := by decide +kernel
theorem dX3_begin_10 : decode cX3_begin 10 = .ok (.aload_n 0, 1) := by decide +kernel
theorem dX3_begin_11 : decode cX3_begin 11 = .ok (.iconst 0, 1) := by decide +kernel
theorem dX3_begin_12 : decode cX3_begin 12 = .ok (.putfield 18, 3) := by decide +kernel
theorem dX3_begin_15 : decode cX3_begin 15 = .ok (.aload_n 0, 1) := by decide +kernel
theorem dX3_begin_16 : decode cX3_begin 16 = .ok (.bipush 45, 2) := by decide +kernel
theorem dX3_begin_18 : decode cX3_begin 18 = .ok (.putfield 21, 3) := by decide +kernel
theorem dX3_begin_21 : decode cX3_begin 21 = .ok (.aload_n 0, 1) := by decide +kernel
theorem dX3_begin_22 : decode cX3_begin 22 = .ok (.iconst 0, 1) := by decide +kernel
theorem dX3_begin_23 : decode cX3_begin 23 = .ok (.putfield 25, 3) := by decide +kernel
theorem dX3_begin_26 : decode cX3_begin 26 = .ok (.aload_n 0, 1) := by decide +kernel
theorem dX3_begin_27 : decode cX3_begin 27 = .ok (.iload_n 3, 1) := by decide +kernel
theorem dX3_begin_28 : decode cX3_begin 28 = .ok (.putfield 29, 3) := by decide +kernel
theorem dX3_begin_31 : decode cX3_begin 31 = .ok (.aload_n 0, 1) := by decide +kernel
theorem dX3_begin_32 : decode cX3_begin 32 = .ok (.iconst 0, 1) := by decide +kernel
theorem dX3_begin_33 : decode cX3_begin 33 = .ok (.putfield 32, 3) := by decide +kernel
theorem dX3_begin_36 : decode cX3_begin 36 = .ok (.return_, 1) := by decide +kernel
theorem dX3_goesBy_0 : decode cX3_goesBy 0 = .ok (.aload_n 0, 1) := by decide +kernel
theorem dX3_goesBy_1 : decode cX3_goesBy 1 = .ok (.getfield 21, 3) := by decide +kernel
theorem dX3_goesBy_4 : decode cX3_goesBy 4 = .ok (.bipush 45, 2) := by decide +kernel
theorem dX3_goesBy_6 : decode cX3_goesBy 6 = .ok (.if_icmp .ne 19, 3) := by decide +kernel
theorem dX3_goesBy_9 : decode cX3_goesBy 9 = .ok (.aload_n 0, 1) := by decide +kernel
theorem dX3_goesBy_10 : decode cX3_goesBy 10 = .ok (.getfield 18, 3) := by decide +kernel
theorem dX3_goesBy_13 : decode cX3_goesBy 13 = .ok (.iload_n 1, 1) := by decide +kernel
theorem dX3_goesBy_14 : decode cX3_goesBy 14 = .ok (.if_icmp .lt 7, 3) := by decide +kernel
theorem dX3_goesBy_17 : decode cX3_goesBy 17 = .ok (.iconst 1, 1) := by decide +kernel
theorem dX3_goesBy_18 : decode cX3_goesBy 18 = .ok (.goto 20, 3) := by decide +kernel
theorem dX3_goesBy_21 : decode cX3_goesBy 21 = .ok (.iconst 0, 1) := by decide +kernel
theorem dX3_goesBy_22 : decode cX3_goesBy 22 = .ok (.goto 16, 3) := by decide +kernel
theorem dX3_goesBy_25 : decode cX3_goesBy 25 = .ok (.aload_n 0, 1) := by decide +kernel
theorem dX3_goesBy_26 : decode cX3_goesBy 26 = .ok (.getfield 21, 3) := by decide +kernel
theorem dX3_goesBy_29 : decode cX3_goesBy 29 = .ok (.iload_n 2, 1) := by decide +kernel
theorem dX3_goesBy_30 : decode cX3_goesBy 30 = .ok (.if_icmp .ne 7, 3) := by decide +kernel
theorem dX3_goesBy_33 : decode cX3_goesBy 33 = .ok (.iconst 1, 1) := by decide +kernel
theorem dX3_goesBy_34 : decode cX3_goesBy 34 = .ok (.goto 4, 3) := by decide +kernel
theorem dX3_goesBy_37 : decode cX3_goesBy 37 = .ok (.iconst 0, 1) := by decide +kernel
theorem dX3_goesBy_38 : decode cX3_goesBy 38 = .ok (.ireturn, 1) := by decide +kernel
theorem dX3_isLike_0 : decode cX3_isLike 0 = .ok (.aload_n 0, 1) := by decide +kernel
theorem dX3_isLike_1 : decode cX3_isLike 1 = .ok (.getfield 9, 3) := by decide +kernel
theorem dX3_isLike_4 : decode cX3_isLike 4 = .ok (.aload_n 1, 1) := by decide +kernel
theorem dX3_isLike_5 : decode cX3_isLike 5 = .ok (.getfield 9, 3) := by decide +kernel
theorem dX3_isLike_8 : decode cX3_isLike 8 = .ok (.if_icmp .ne 73, 3) := by decide +kernel
theorem dX3_isLike_11 : decode cX3_isLike 11 = .ok (.aload_n 0, 1) := by decide +kernel
theorem dX3_isLike_12 : decode cX3_isLike 12 = .ok (.getfield 15, 3) := by decide +kernel
theorem dX3_isLike_15 : decode cX3_isLike 15 = .ok (.aload_n 1, 1) := by decide +kernel
theorem dX3_isLike_16 : decode cX3_isLike 16 = .ok (.getfield 15, 3) := by decide +kernel
theorem dX3_isLike_19 : decode cX3_isLike 19 = .ok (.if_icmp .ne 62, 3) := by decide +kernel
theorem dX3_isLike_22 : decode cX3_isLike 22 = .ok (.aload_n 0, 1) := by decide +kernel
theorem dX3_isLike_23 : decode cX3_isLike 23 = .ok (.getfield 18, 3) := by decide +kernel
theorem dX3_isLike_26 : decode cX3_isLike 26 = .ok (.aload_n 1, 1) := by decide +kernel
theorem dX3_isLike_27 : decode cX3_isLike 27 = .ok (.getfield 18, 3) := by decide +kernel
theorem dX3_isLike_30 : decode cX3_isLike 30 = .ok (.if_icmp .ne 51, 3) := by decide +kernel
theorem dX3_isLike_33 : decode cX3_isLike 33 = .ok (.aload_n 0, 1) := by decide +kernel
theorem dX3_isLike_34 : decode cX3_isLike 34 = .ok (.getfield 21, 3) := by decide +kernel
theorem dX3_isLike_37 : decode cX3_isLike 37 = .ok (.aload_n 1, 1) := by decide +kernel
theorem dX3_isLike_38 : decode cX3_isLike 38 = .ok (.getfield 21, 3) := by decide +kernel
theorem dX3_isLike_41 : decode cX3_isLike 41 = .ok (.if_icmp .ne 40, 3) := by decide +kernel
theorem dX3_isLike_44 : decode cX3_isLike 44 = .ok (.aload_n 0, 1) := by decide +kernel
theorem dX3_isLike_45 : decode cX3_isLike 45 = .ok (.getfield 25, 3) := by decide +kernel
theorem dX3_isLike_48 : decode cX3_isLike 48 = .ok (.aload_n 1, 1) := by decide +kernel
theorem dX3_isLike_49 : decode cX3_isLike 49 = .ok (.getfield 25, 3) := by decide +kernel
theorem dX3_isLike_52 : decode cX3_isLike 52 = .ok (.if_icmp .ne 29, 3) := by decide +kernel
theorem dX3_isLike_55 : decode cX3_isLike 55 = .ok (.aload_n 0, 1) := by decide +kernel
theorem dX3_isLike_56 : decode cX3_isLike 56 = .ok (.getfield 29, 3) := by decide +kernel
theorem dX3_isLike_59 : decode cX3_isLike 59 = .ok (.aload_n 1, 1) := by decide +kernel
theorem dX3_isLike_60 : decode cX3_isLike 60 = .ok (.getfield 29, 3) := by decide +kernel
theorem dX3_isLike_63 : decode cX3_isLike 63 = .ok (.if_icmp .ne 18, 3) := by decide +kernel
theorem dX3_isLike_66 : decode cX3_isLike 66 = .ok (.aload_n 0, 1) := by decide +kernel
theorem dX3_isLike_67 : decode cX3_isLike 67 = .ok (.getfield 32, 3) := by decide +kernel
theorem dX3_isLike_70 : decode cX3_isLike 70 = .ok (.aload_n 1, 1) := by decide +kernel
theorem dX3_isLike_71 : decode cX3_isLike 71 = .ok (.getfield 32, 3) := by decide +kernel
theorem dX3_isLike_74 : decode cX3_isLike 74 = .ok (.if_icmp .ne 7, 3) := by decide +kernel
theorem dX3_isLike_77 : decode cX3_isLike 77 = .ok (.iconst 1, 1) := by decide +kernel
theorem dX3_isLike_78 : decode cX3_isLike 78 = .ok (.goto 4, 3) := by decide +kernel
theorem dX3_isLike_81 : decode cX3_isLike 81 = .ok (.iconst 0, 1) := by decide +kernel
theorem dX3_isLike_82 : decode cX3_isLike 82 = .ok (.ireturn, 1) := by decide +kernel
theorem dX4_init_0 : decode cX4_init 0 = .ok (.aload_n 0, 1) := by decide +kernel
theorem dX4_init_1 : decode cX4_init 1 = .ok (.invokespecial 3, 3) := by decide +kernel
theorem dX4_init_4 : decode cX4_init 4 = .ok (.aload_n 0, 1) := by decide +kernel
theorem dX4_init_5 : decode cX4_init 5 = .ok (.bipush 6, 2) := by decide +kernel
theorem dX4_init_7 : decode cX4_init 7 = .ok (.newarray .int, 2) := by decide +kernel
theorem dX4_init_9 : decode cX4_init 9 = .ok (.putfield 9, 3) := by decide +kernel
theorem dX4_init_12 : decode cX4_init 12 = .ok (.aload_n 0, 1) := by decide +kernel
theorem dX4_init_13 : decode cX4_init 13 = .ok (.bipush 6, 2) := by decide +kernel
theorem dX4_init_15 : decode cX4_init 15 = .ok (.newarray .int, 2) := by decide +kernel
theorem dX4_init_17 : decode cX4_init 17 = .ok (.putfield 15, 3) := by decide +kernel
theorem dX4_init_20 : decode cX4_init 20 = .ok (.return_, 1) := by decide +kernel
theorem dX4_begin_0 : decode cX4_begin 0 = .ok (.aload_n 0, 1) := by decide +kernel
theorem dX4_begin_1 : decode cX4_begin 1 = .ok (.iconst 0, 1) := by decide +kernel
theorem dX4_begin_2 : decode cX4_begin 2 = .ok (.putfield 18, 3) := by decide +kernel
theorem dX4_begin_5 : decode cX4_begin 5 = .ok (.aload_n 0, 1) := by decide +kernel
theorem dX4_begin_6 : decode cX4_begin 6 = .ok (.iconst 0, 1) := by decide +kernel
theorem dX4_begin_7 : decode cX4_begin 7 = .ok (.putfield 22, 3) := by decide +kernel
theorem dX4_begin_10 : decode cX4_begin 10 = .ok (.return_, 1) := by decide +kernel
theorem dX4_isLike_0 : decode cX4_isLike 0 = .ok (.aload_n 0, 1) := by decide +kernel
theorem dX4_isLike_1 : decode cX4_isLike 1 = .ok (.getfield 18, 3) := by decide +kernel
theorem dX4_isLike_4 : decode cX4_isLike 4 = .ok (.aload_n 1, 1) := by decide +kernel
theorem dX4_isLike_5 : decode cX4_isLike 5 = .ok (.getfield 18, 3) := by decide +kernel
theorem dX4_isLike_8 : decode cX4_isLike 8 = .ok (.if_icmp .ne 14, 3) := by decide +kernel
theorem dX4_isLike_11 : decode cX4_isLike 11 = .ok (.aload_n 0, 1) := by decide +kernel
theorem dX4_isLike_12 : decode cX4_isLike 12 = .ok (.getfield 22, 3) := by decide +kernel
theorem dX4_isLike_15 : decode cX4_isLike 15 = .ok (.aload_n 1, 1) := by decide +kernel
theorem dX4_isLike_16 : decode cX4_isLike 16 = .ok (.getfield 22, 3) := by decide +kernel
theorem dX4_isLike_19 : decode cX4_isLike 19 = .ok (.if_icmp .eq 5, 3) := by decide +kernel
theorem dX4_isLike_22 : decode cX4_isLike 22 = .ok (.iconst 0, 1) := by decide +kernel
theorem dX4_isLike_23 : decode cX4_isLike 23 = .ok (.ireturn, 1) := by decide +kernel
theorem dX4_isLike_24 : decode cX4_isLike 24 = .ok (.iconst 0, 1) := by decide +kernel
theorem dX4_isLike_25 : decode cX4_isLike 25 = .ok (.istore_n 2, 1) := by decide +kernel
theorem dX4_isLike_26 : decode cX4_isLike 26 = .ok (.iload_n 2, 1) := by decide +kernel
theorem dX4_isLike_27 : decode cX4_isLike 27 = .ok (.aload_n 0, 1) := by decide +kernel
theorem dX4_isLike_28 : decode cX4_isLike 28 = .ok (.getfield 18, 3) := by decide +kernel
theorem dX4_isLike_31 : decode cX4_isLike 31 = .ok (.if_icmp .ge 47, 3) := by decide +kernel
theorem dX4_isLike_34 : decode cX4_isLike 34 = .ok (.iload_n 2, 1) := by decide +kernel
theorem dX4_isLike_35 : decode cX4_isLike 35 = .ok (.bipush 6, 2) := by decide +kernel
theorem dX4_isLike_37 : decode cX4_isLike 37 = .ok (.if_icmp .ge 41, 3) := by decide +kernel
theorem dX4_isLike_40 : decode cX4_isLike 40 = .ok (.aload_n 0, 1) := by decide +kernel
theorem dX4_isLike_41 : decode cX4_isLike 41 = .ok (.getfield 9, 3) := by decide +kernel
theorem dX4_isLike_44 : decode cX4_isLike 44 = .ok (.iload_n 2, 1) := by decide +kernel
theorem dX4_isLike_45 : decode cX4_isLike 45 = .ok (.iaload, 1) := by decide +kernel
theorem dX4_isLike_46 : decode cX4_isLike 46 = .ok (.aload_n 1, 1) := by decide +kernel
theorem dX4_isLike_47 : decode cX4_isLike 47 = .ok (.getfield 9, 3) := by decide +kernel
theorem dX4_isLike_50 : decode cX4_isLike 50 = .ok (.iload_n 2, 1) := by decide +kernel
theorem dX4_isLike_51 : decode cX4_isLike 51 = .ok (.iaload, 1) := by decide +kernel
theorem dX4_isLike_52 : decode cX4_isLike 52 = .ok (.if_icmp .ne 18, 3) := by decide +kernel
theorem dX4_isLike_55 : decode cX4_isLike 55 = .ok (.aload_n 0, 1) := by decide +kernel
theorem dX4_isLike_56 : decode cX4_isLike 56 = .ok (.getfield 15, 3) := by decide +kernel
theorem dX4_isLike_59 : decode cX4_isLike 59 = .ok (.iload_n 2, 1) := by decide +kernel
theorem dX4_isLike_60 : decode cX4_isLike 60 = .ok (.iaload, 1) := by decide +kernel
theorem dX4_isLike_61 : decode cX4_isLike 61 = .ok (.aload_n 1, 1) := by decide +kernel
theorem dX4_isLike_62 : decode cX4_isLike 62 = .ok (.getfield 15, 3) := by decide +kernel
theorem dX4_isLike_65 : decode cX4_isLike 65 = .ok (.iload_n 2, 1) := by decide +kernel
theorem dX4_isLike_66 : decode cX4_isLike 66 = .ok (.iaload, 1) := by decide +kernel
theorem dX4_isLike_67 : decode cX4_isLike 67 = .ok (.if_icmp .eq 5, 3) := by decide +kernel
theorem dX4_isLike_70 : decode cX4_isLike 70 = .ok (.iconst 0, 1) := by decide +kernel
theorem dX4_isLike_71 : decode cX4_isLike 71 = .ok (.ireturn, 1) := by decide +kernel
theorem dX4_isLike_72 : decode cX4_isLike 72 = .ok (.iinc 2 1, 3) := by decide +kernel
theorem dX4_isLike_75 : decode cX4_isLike 75 = .ok (.goto (-49), 3) := by decide +kernel
theorem dX4_isLike_78 : decode cX4_isLike 78 = .ok (.iconst 1, 1) := by decide +kernel
theorem dX4_isLike_79 : decode cX4_isLike 79 = .ok (.ireturn, 1) := by decide +kernel
theorem dX5_init_0 : decode cX5_init 0 = .ok (.aload_n 0, 1) := by decide +kernel
theorem dX5_init_1 : decode cX5_init 1 = .ok (.invokespecial 3, 3) := by decide +kernel
theorem dX5_init_4 : decode cX5_init 4 = .ok (.aload_n 0, 1) := by decide +kernel
theorem dX5_init_5 : decode cX5_init 5 = .ok (.bipush 8, 2) := by decide +kernel
theorem dX5_init_7 : decode cX5_init 7 = .ok (.anewarray 9, 3) := by decide +kernel
theorem dX5_init_10 : decode cX5_init 10 = .ok (.putfield 11, 3) := by decide +kernel
theorem dX5_init_13 : decode cX5_init 13 = .ok (.aload_n 0, 1) := by decide +kernel
theorem dX5_init_14 : decode cX5_init 14 = .ok (.bipush 24, 2) := by decide +kernel
theorem dX5_init_16 : decode cX5_init 16 = .ok (.anewarray 17, 3) := by decide +kernel
theorem dX5_init_19 : decode cX5_init 19 = .ok (.putfield 19, 3) := by decide +kernel
theorem dX5_init_22 : decode cX5_init 22 = .ok (.aload_n 0, 1) := by decide +kernel
theorem dX5_init_23 : decode cX5_init 23 = .ok (.bipush 30, 2) := by decide +kernel
theorem dX5_init_25 : decode cX5_init 25 = .ok (.anewarray 23, 3) := by decide +kernel
theorem dX5_init_28 : decode cX5_init 28 = .ok (.putfield 25, 3) := by decide +kernel
theorem dX5_init_31 : decode cX5_init 31 = .ok (.aload_n 0, 1) := by decide +kernel
theorem dX5_init_32 : decode cX5_init 32 = .ok (.bipush 12, 2) := by decide +kernel
theorem dX5_init_34 : decode cX5_init 34 = .ok (.anewarray 29, 3) := by decide +kernel
theorem dX5_init_37 : decode cX5_init 37 = .ok (.putfield 31, 3) := by decide +kernel
theorem dX5_init_40 : decode cX5_init 40 = .ok (.aload_n 0, 1) := by decide +kernel
theorem dX5_init_41 : decode cX5_init 41 = .ok (.new 35, 3) := by decide +kernel
theorem dX5_init_44 : decode cX5_init 44 = .ok (.dup, 1) := by decide +kernel
theorem dX5_init_45 : decode cX5_init 45 = .ok (.invokespecial 37, 3) := by decide +kernel
theorem dX5_init_48 : decode cX5_init 48 = .ok (.putfield 38, 3) := by decide +kernel
theorem dX5_init_51 : decode cX5_init 51 = .ok (.iconst 0, 1) := by decide +kernel
theorem dX5_init_52 : decode cX5_init 52 = .ok (.istore_n 1, 1) := by decide +kernel
theorem dX5_init_53 : decode cX5_init 53 = .ok (.iload_n 1, 1) := by decide +kernel
theorem dX5_init_54 : decode cX5_init 54 = .ok (.bipush 8, 2) := by decide +kernel
theorem dX5_init_56 : decode cX5_init 56 = .ok (.if_icmp .ge 22, 3) := by decide +kernel
theorem dX5_init_59 : decode cX5_init 59 = .ok (.aload_n 0, 1) := by decide +kernel
theorem dX5_init_60 : decode cX5_init 60 = .ok (.getfield 11, 3) := by decide +kernel
theorem dX5_init_63 : decode cX5_init 63 = .ok (.iload_n 1, 1) := by decide +kernel
theorem dX5_init_64 : decode cX5_init 64 = .ok (.new 9, 3) := by decide +kernel
theorem dX5_init_67 : decode cX5_init 67 = .ok (.dup, 1) := by decide +kernel
theorem dX5_init_68 : decode cX5_init 68 = .ok (.invokespecial 42, 3) := by decide +kernel
theorem dX5_init_71 : decode cX5_init 71 = .ok (.aastore, 1) := by decide +kernel
theorem dX5_init_72 : decode cX5_init 72 = .ok (.iinc 1 1, 3) := by decide +kernel
theorem dX5_init_75 : decode cX5_init 75 = .ok (.goto (-22), 3) := by decide +kernel
theorem dX5_init_78 : decode cX5_init 78 = .ok (.iconst 0, 1) := by decide +kernel
theorem dX5_init_79 : decode cX5_init 79 = .ok (.istore_n 1, 1) := by decide +kernel
theorem dX5_init_80 : decode cX5_init 80 = .ok (.iload_n 1, 1) := by decide +kernel
theorem dX5_init_81 : decode cX5_init 81 = .ok (.bipush 24, 2) := by decide +kernel
theorem dX5_init_83 : decode cX5_init 83 = .ok (.if_icmp .ge 22, 3) := by decide +kernel
theorem dX5_init_86 : decode cX5_init 86 = .ok (.aload_n 0, 1) := by decide +kernel
theorem dX5_init_87 : decode cX5_init 87 = .ok (.getfield 19, 3) := by decide +kernel
theorem dX5_init_90 : decode cX5_init 90 = .ok (.iload_n 1, 1) := by decide +kernel
theorem dX5_init_91 : decode cX5_init 91 = .ok (.new 17, 3) := by decide +kernel
theorem dX5_init_94 : decode cX5_init 94 = .ok (.dup, 1) := by decide +kernel
theorem dX5_init_95 : decode cX5_init 95 = .ok (.invokespecial 43, 3) := by decide +kernel
theorem dX5_init_98 : decode cX5_init 98 = .ok (.aastore, 1) := by decide +kernel
theorem dX5_init_99 : decode cX5_init 99 = .ok (.iinc 1 1, 3) := by decide +kernel
theorem dX5_init_102 : decode cX5_init 102 = .ok (.goto (-22), 3) := by decide +kernel
theorem dX5_init_105 : decode cX5_init 105 = .ok (.iconst 0, 1) := by decide +kernel
theorem dX5_init_106 : decode cX5_init 106 = .ok (.istore_n 1, 1) := by decide +kernel
theorem dX5_init_107 : decode cX5_init 107 = .ok (.iload_n 1, 1) := by decide +kernel
theorem dX5_init_108 : decode cX5_init 108 = .ok (.bipush 30, 2) := by decide +kernel
theorem dX5_init_110 : decode cX5_init 110 = .ok (.if_icmp .ge 22, 3) := by decide +kernel
theorem dX5_init_113 : decode cX5_init 113 = .ok (.aload_n 0, 1) := by decide +kernel
theorem dX5_init_114 : decode cX5_init 114 = .ok (.getfield 25, 3) := by decide +kernel
theorem dX5_init_117 : decode cX5_init 117 = .ok (.iload_n 1, 1) := by decide +kernel
theorem dX5_init_118 : decode cX5_init 118 = .ok (.new 23, 3) := by decide +kernel
theorem dX5_init_121 : decode cX5_init 121 = .ok (.dup, 1) := by decide +kernel
theorem dX5_init_122 : decode cX5_init 122 = .ok (.invokespecial 44, 3) := by decide +kernel
theorem dX5_init_125 : decode cX5_init 125 = .ok (.aastore, 1) := by decide +kernel
theorem dX5_init_126 : decode cX5_init 126 = .ok (.iinc 1 1, 3) := by decide +kernel
theorem dX5_init_129 : decode cX5_init 129 = .ok (.goto (-22), 3) := by decide +kernel
theorem dX5_init_132 : decode cX5_init 132 = .ok (.iconst 0, 1) := by decide +kernel
theorem dX5_init_133 : decode cX5_init 133 = .ok (.istore_n 1, 1) := by decide +kernel
theorem dX5_init_134 : decode cX5_init 134 = .ok (.iload_n 1, 1) := by decide +kernel
theorem dX5_init_135 : decode cX5_init 135 = .ok (.bipush 12, 2) := by decide +kernel
theorem dX5_init_137 : decode cX5_init 137 = .ok (.if_icmp .ge 22, 3) := by decide +kernel
theorem dX5_init_140 : decode cX5_init 140 = .ok (.aload_n 0, 1) := by decide +kernel
theorem dX5_init_141 : decode cX5_init 141 = .ok (.getfield 31, 3) := by decide +kernel
theorem dX5_init_144 : decode cX5_init 144 = .ok (.iload_n 1, 1) := by decide +kernel
theorem dX5_init_145 : decode cX5_init 145 = .ok (.new 29, 3) := by decide +kernel
theorem dX5_init_148 : decode cX5_init 148 = .ok (.dup, 1) := by decide +kernel
theorem dX5_init_149 : decode cX5_init 149 = .ok (.invokespecial 45, 3) := by decide +kernel
theorem dX5_init_152 : decode cX5_init 152 = .ok (.aastore, 1) := by decide +kernel
theorem dX5_init_153 : decode cX5_init 153 = .ok (.iinc 1 1, 3) := by decide +kernel
theorem dX5_init_156 : decode cX5_init 156 = .ok (.goto (-22), 3) := by decide +kernel
theorem dX5_init_159 : decode cX5_init 159 = .ok (.aload_n 0, 1) := by decide +kernel
theorem dX5_init_160 : decode cX5_init 160 = .ok (.sipush 180, 3) := by decide +kernel
theorem dX5_init_163 : decode cX5_init 163 = .ok (.putfield 46, 3) := by decide +kernel
theorem dX5_init_166 : decode cX5_init 166 = .ok (.return_, 1) := by decide +kernel
theorem dX5_clear_0 : decode cX5_clear 0 = .ok (.aload_n 0, 1) := by decide +kernel
theorem dX5_clear_1 : decode cX5_clear 1 = .ok (.iconst 0, 1) := by decide +kernel
theorem dX5_clear_2 : decode cX5_clear 2 = .ok (.putfield 50, 3) := by decide +kernel
theorem dX5_clear_5 : decode cX5_clear 5 = .ok (.aload_n 0, 1) := by decide +kernel
theorem dX5_clear_6 : decode cX5_clear 6 = .ok (.iconst 0, 1) := by decide +kernel
theorem dX5_clear_7 : decode cX5_clear 7 = .ok (.putfield 53, 3) := by decide +kernel
theorem dX5_clear_10 : decode cX5_clear 10 = .ok (.aload_n 0, 1) := by decide +kernel
theorem dX5_clear_11 : decode cX5_clear 11 = .ok (.iconst 0, 1) := by decide +kernel
theorem dX5_clear_12 : decode cX5_clear 12 = .ok (.putfield 56, 3) := by decide +kernel
theorem dX5_clear_15 : decode cX5_clear 15 = .ok (.aload_n 0, 1) := by decide +kernel
theorem dX5_clear_16 : decode cX5_clear 16 = .ok (.iconst 0, 1) := by decide +kernel
theorem dX5_clear_17 : decode cX5_clear 17 = .ok (.putfield 59, 3) := by decide +kernel
theorem dX5_clear_20 : decode cX5_clear 20 = .ok (.aload_n 0, 1) := by decide +kernel
theorem dX5_clear_21 : decode cX5_clear 21 = .ok (.getfield 38, 3) := by decide +kernel
theorem dX5_clear_24 : decode cX5_clear 24 = .ok (.iconst 0, 1) := by decide +kernel
theorem dX5_clear_25 : decode cX5_clear 25 = .ok (.putfield 62, 3) := by decide +kernel
theorem dX5_clear_28 : decode cX5_clear 28 = .ok (.aload_n 0, 1) := by decide +kernel
theorem dX5_clear_29 : decode cX5_clear 29 = .ok (.iconst 0, 1) := by decide +kernel
theorem dX5_clear_30 : decode cX5_clear 30 = .ok (.putfield 65, 3) := by decide +kernel
theorem dX5_clear_33 : decode cX5_clear 33 = .ok (.aload_n 0, 1) := by decide +kernel
theorem dX5_clear_34 : decode cX5_clear 34 = .ok (.sipush 180, 3) := by decide +kernel
theorem dX5_clear_37 : decode cX5_clear 37 = .ok (.putfield 46, 3) := by decide +kernel
theorem dX5_clear_40 : decode cX5_clear 40 = .ok (.aload_n 0, 1) := by decide +kernel
theorem dX5_clear_41 : decode cX5_clear 41 = .ok (.lconst 0, 1) := by decide +kernel
theorem dX5_clear_42 : decode cX5_clear 42 = .ok (.putfield 68, 3) := by decide +kernel
theorem dX5_clear_45 : decode cX5_clear 45 = .ok (.aload_n 0, 1) := by decide +kernel
theorem dX5_clear_46 : decode cX5_clear 46 = .ok (.iconst 0, 1) := by decide +kernel
theorem dX5_clear_47 : decode cX5_clear 47 = .ok (.putfield 72, 3) := by decide +kernel
theorem dX5_clear_50 : decode cX5_clear 50 = .ok (.return_, 1) := by decide +kernel
theorem dX5_hasRigger_0 : decode cX5_hasRigger 0 = .ok (.iload_n 1, 1) := by decide +kernel
theorem dX5_hasRigger_1 : decode cX5_hasRigger 1 = .ok (.ifCond .lt 15, 3) := by decide +kernel
theorem dX5_hasRigger_4 : decode cX5_hasRigger 4 = .ok (.iload_n 1, 1) := by decide +kernel
theorem dX5_hasRigger_5 : decode cX5_hasRigger 5 = .ok (.aload_n 0, 1) := by decide +kernel
theorem dX5_hasRigger_6 : decode cX5_hasRigger 6 = .ok (.getfield 50, 3) := by decide +kernel
theorem dX5_hasRigger_9 : decode cX5_hasRigger 9 = .ok (.if_icmp .ge 7, 3) := by decide +kernel
theorem dX5_hasRigger_12 : decode cX5_hasRigger 12 = .ok (.iconst 1, 1) := by decide +kernel
theorem dX5_hasRigger_13 : decode cX5_hasRigger 13 = .ok (.goto 4, 3) := by decide +kernel
theorem dX5_hasRigger_16 : decode cX5_hasRigger 16 = .ok (.iconst 0, 1) := by decide +kernel
theorem dX5_hasRigger_17 : decode cX5_hasRigger 17 = .ok (.ireturn, 1) := by decide +kernel
theorem dX5_hasCanopy_0 : decode cX5_hasCanopy 0 = .ok (.iload_n 1, 1) := by decide +kernel
theorem dX5_hasCanopy_1 : decode cX5_hasCanopy 1 = .ok (.ifCond .lt 15, 3) := by decide +kernel
theorem dX5_hasCanopy_4 : decode cX5_hasCanopy 4 = .ok (.iload_n 1, 1) := by decide +kernel
theorem dX5_hasCanopy_5 : decode cX5_hasCanopy 5 = .ok (.aload_n 0, 1) := by decide +kernel
theorem dX5_hasCanopy_6 : decode cX5_hasCanopy 6 = .ok (.getfield 53, 3) := by decide +kernel
theorem dX5_hasCanopy_9 : decode cX5_hasCanopy 9 = .ok (.if_icmp .ge 7, 3) := by decide +kernel
theorem dX5_hasCanopy_12 : decode cX5_hasCanopy 12 = .ok (.iconst 1, 1) := by decide +kernel
theorem dX5_hasCanopy_13 : decode cX5_hasCanopy 13 = .ok (.goto 4, 3) := by decide +kernel
theorem dX5_hasCanopy_16 : decode cX5_hasCanopy 16 = .ok (.iconst 0, 1) := by decide +kernel
theorem dX5_hasCanopy_17 : decode cX5_hasCanopy 17 = .ok (.ireturn, 1) := by decide +kernel
theorem dX5_hasLoad_0 : decode cX5_hasLoad 0 = .ok (.iload_n 1, 1) := by decide +kernel
theorem dX5_hasLoad_1 : decode cX5_hasLoad 1 = .ok (.ifCond .lt 15, 3) := by decide +kernel
theorem dX5_hasLoad_4 : decode cX5_hasLoad 4 = .ok (.iload_n 1, 1) := by decide +kernel
theorem dX5_hasLoad_5 : decode cX5_hasLoad 5 = .ok (.aload_n 0, 1) := by decide +kernel
theorem dX5_hasLoad_6 : decode cX5_hasLoad 6 = .ok (.getfield 56, 3) := by decide +kernel
theorem dX5_hasLoad_9 : decode cX5_hasLoad 9 = .ok (.if_icmp .ge 7, 3) := by decide +kernel
theorem dX5_hasLoad_12 : decode cX5_hasLoad 12 = .ok (.iconst 1, 1) := by decide +kernel
theorem dX5_hasLoad_13 : decode cX5_hasLoad 13 = .ok (.goto 4, 3) := by decide +kernel
theorem dX5_hasLoad_16 : decode cX5_hasLoad 16 = .ok (.iconst 0, 1) := by decide +kernel
theorem dX5_hasLoad_17 : decode cX5_hasLoad 17 = .ok (.ireturn, 1) := by decide +kernel
theorem dX5_hasFinding_0 : decode cX5_hasFinding 0 = .ok (.iload_n 1, 1) := by decide +kernel
theorem dX5_hasFinding_1 : decode cX5_hasFinding 1 = .ok (.ifCond .lt 15, 3) := by decide +kernel
theorem dX5_hasFinding_4 : decode cX5_hasFinding 4 = .ok (.iload_n 1, 1) := by decide +kernel
theorem dX5_hasFinding_5 : decode cX5_hasFinding 5 = .ok (.aload_n 0, 1) := by decide +kernel
theorem dX5_hasFinding_6 : decode cX5_hasFinding 6 = .ok (.getfield 59, 3) := by decide +kernel
theorem dX5_hasFinding_9 : decode cX5_hasFinding 9 = .ok (.if_icmp .ge 7, 3) := by decide +kernel
theorem dX5_hasFinding_12 : decode cX5_hasFinding 12 = .ok (.iconst 1, 1) := by decide +kernel
theorem dX5_hasFinding_13 : decode cX5_hasFinding 13 = .ok (.goto 4, 3) := by decide +kernel
theorem dX5_hasFinding_16 : decode cX5_hasFinding 16 = .ok (.iconst 0, 1) := by decide +kernel
theorem dX5_hasFinding_17 : decode cX5_hasFinding 17 = .ok (.ireturn, 1) := by decide +kernel
theorem dX5_perform_0 : decode cX5_perform 0 = .ok (.aload_n 0, 1) := by decide +kernel
theorem dX5_perform_1 : decode cX5_perform 1 = .ok (.dup, 1) := by decide +kernel
theorem dX5_perform_2 : decode cX5_perform 2 = .ok (.getfield 72, 3) := by decide +kernel
theorem dX5_perform_5 : decode cX5_perform 5 = .ok (.iconst 1, 1) := by decide +kernel
theorem dX5_perform_6 : decode cX5_perform 6 = .ok (.iadd, 1) := by decide +kernel
theorem dX5_perform_7 : decode cX5_perform 7 = .ok (.putfield 72, 3) := by decide +kernel
theorem dX5_perform_10 : decode cX5_perform 10 = .ok (.iload_n 1, 1) := by decide +kernel
theorem dX5_perform_11 : decode cX5_perform 11 = .ok (.tableswitch 304 0 19 #[93, 100, 109, 121, 127, 133, 140, 147, 158, 163, 177, 188, 200, 206, 217, 230, 241, 247, 263, 277], 93) := by decide +kernel
theorem dX5_perform_104 : decode cX5_perform 104 = .ok (.aload_n 0, 1) := by decide +kernel
theorem dX5_perform_105 : decode cX5_perform 105 = .ok (.iload_n 2, 1) := by decide +kernel
theorem dX5_perform_106 : decode cX5_perform 106 = .ok (.iload_n 3, 1) := by decide +kernel
theorem dX5_perform_107 : decode cX5_perform 107 = .ok (.invokevirtual 75, 3) := by decide +kernel
theorem dX5_perform_110 : decode cX5_perform 110 = .ok (.ireturn, 1) := by decide +kernel
theorem dX5_perform_111 : decode cX5_perform 111 = .ok (.aload_n 0, 1) := by decide +kernel
theorem dX5_perform_112 : decode cX5_perform 112 = .ok (.iload_n 2, 1) := by decide +kernel
theorem dX5_perform_113 : decode cX5_perform 113 = .ok (.iload_n 3, 1) := by decide +kernel
theorem dX5_perform_114 : decode cX5_perform 114 = .ok (.iload 4, 2) := by decide +kernel
theorem dX5_perform_116 : decode cX5_perform 116 = .ok (.invokevirtual 79, 3) := by decide +kernel
theorem dX5_perform_119 : decode cX5_perform 119 = .ok (.ireturn, 1) := by decide +kernel
theorem dX5_perform_120 : decode cX5_perform 120 = .ok (.aload_n 0, 1) := by decide +kernel
theorem dX5_perform_121 : decode cX5_perform 121 = .ok (.iload_n 2, 1) := by decide +kernel
theorem dX5_perform_122 : decode cX5_perform 122 = .ok (.i2c, 1) := by decide +kernel
theorem dX5_perform_123 : decode cX5_perform 123 = .ok (.iload_n 3, 1) := by decide +kernel
theorem dX5_perform_124 : decode cX5_perform 124 = .ok (.iload 4, 2) := by decide +kernel
theorem dX5_perform_126 : decode cX5_perform 126 = .ok (.iload 5, 2) := by decide +kernel
theorem dX5_perform_128 : decode cX5_perform 128 = .ok (.invokevirtual 83, 3) := by decide +kernel
theorem dX5_perform_131 : decode cX5_perform 131 = .ok (.ireturn, 1) := by decide +kernel
theorem dX5_perform_132 : decode cX5_perform 132 = .ok (.aload_n 0, 1) := by decide +kernel
theorem dX5_perform_133 : decode cX5_perform 133 = .ok (.iload_n 2, 1) := by decide +kernel
theorem dX5_perform_134 : decode cX5_perform 134 = .ok (.invokevirtual 87, 3) := by decide +kernel
theorem dX5_perform_137 : decode cX5_perform 137 = .ok (.ireturn, 1) := by decide +kernel
theorem dX5_perform_138 : decode cX5_perform 138 = .ok (.aload_n 0, 1) := by decide +kernel
theorem dX5_perform_139 : decode cX5_perform 139 = .ok (.iload_n 2, 1) := by decide +kernel
theorem dX5_perform_140 : decode cX5_perform 140 = .ok (.invokevirtual 91, 3) := by decide +kernel
theorem dX5_perform_143 : decode cX5_perform 143 = .ok (.ireturn, 1) := by decide +kernel
theorem dX5_perform_144 : decode cX5_perform 144 = .ok (.aload_n 0, 1) := by decide +kernel
theorem dX5_perform_145 : decode cX5_perform 145 = .ok (.iload_n 2, 1) := by decide +kernel
theorem dX5_perform_146 : decode cX5_perform 146 = .ok (.iload_n 3, 1) := by decide +kernel
theorem dX5_perform_147 : decode cX5_perform 147 = .ok (.invokevirtual 94, 3) := by decide +kernel
theorem dX5_perform_150 : decode cX5_perform 150 = .ok (.ireturn, 1) := by decide +kernel
theorem dX5_perform_151 : decode cX5_perform 151 = .ok (.aload_n 0, 1) := by decide +kernel
theorem dX5_perform_152 : decode cX5_perform 152 = .ok (.iload_n 2, 1) := by decide +kernel
theorem dX5_perform_153 : decode cX5_perform 153 = .ok (.iload_n 3, 1) := by decide +kernel
theorem dX5_perform_154 : decode cX5_perform 154 = .ok (.invokevirtual 97, 3) := by decide +kernel
theorem dX5_perform_157 : decode cX5_perform 157 = .ok (.ireturn, 1) := by decide +kernel
theorem dX5_perform_158 : decode cX5_perform 158 = .ok (.aload_n 0, 1) := by decide +kernel
theorem dX5_perform_159 : decode cX5_perform 159 = .ok (.aload_n 0, 1) := by decide +kernel
theorem dX5_perform_160 : decode cX5_perform 160 = .ok (.getfield 19, 3) := by decide +kernel
theorem dX5_perform_163 : decode cX5_perform 163 = .ok (.iload_n 2, 1) := by decide +kernel
theorem dX5_perform_164 : decode cX5_perform 164 = .ok (.aaload, 1) := by decide +kernel
theorem dX5_perform_165 : decode cX5_perform 165 = .ok (.invokevirtual 100, 3) := by decide +kernel
theorem dX5_perform_168 : decode cX5_perform 168 = .ok (.ireturn, 1) := by decide +kernel
theorem dX5_perform_169 : decode cX5_perform 169 = .ok (.aload_n 0, 1) := by decide +kernel
theorem dX5_perform_170 : decode cX5_perform 170 = .ok (.invokevirtual 104, 3) := by decide +kernel
theorem dX5_perform_173 : decode cX5_perform 173 = .ok (.ireturn, 1) := by decide +kernel
theorem dX5_perform_174 : decode cX5_perform 174 = .ok (.aload_n 0, 1) := by decide +kernel
theorem dX5_perform_175 : decode cX5_perform 175 = .ok (.aload_n 0, 1) := by decide +kernel
theorem dX5_perform_176 : decode cX5_perform 176 = .ok (.getfield 25, 3) := by decide +kernel
theorem dX5_perform_179 : decode cX5_perform 179 = .ok (.iload_n 2, 1) := by decide +kernel
theorem dX5_perform_180 : decode cX5_perform 180 = .ok (.aaload, 1) := by decide +kernel
theorem dX5_perform_181 : decode cX5_perform 181 = .ok (.iload_n 3, 1) := by decide +kernel
theorem dX5_perform_182 : decode cX5_perform 182 = .ok (.iload 4, 2) := by decide +kernel
theorem dX5_perform_184 : decode cX5_perform 184 = .ok (.invokevirtual 108, 3) := by decide +kernel
theorem dX5_perform_187 : decode cX5_perform 187 = .ok (.ireturn, 1) := by decide +kernel
theorem dX5_perform_188 : decode cX5_perform 188 = .ok (.aload_n 0, 1) := by decide +kernel
theorem dX5_perform_189 : decode cX5_perform 189 = .ok (.aload_n 0, 1) := by decide +kernel
theorem dX5_perform_190 : decode cX5_perform 190 = .ok (.getfield 25, 3) := by decide +kernel
theorem dX5_perform_193 : decode cX5_perform 193 = .ok (.iload_n 2, 1) := by decide +kernel
theorem dX5_perform_194 : decode cX5_perform 194 = .ok (.aaload, 1) := by decide +kernel
theorem dX5_perform_195 : decode cX5_perform 195 = .ok (.invokevirtual 112, 3) := by decide +kernel
theorem dX5_perform_198 : decode cX5_perform 198 = .ok (.ireturn, 1) := by decide +kernel
theorem dX5_perform_199 : decode cX5_perform 199 = .ok (.aload_n 0, 1) := by decide +kernel
theorem dX5_perform_200 : decode cX5_perform 200 = .ok (.aload_n 0, 1) := by decide +kernel
theorem dX5_perform_201 : decode cX5_perform 201 = .ok (.getfield 25, 3) := by decide +kernel
theorem dX5_perform_204 : decode cX5_perform 204 = .ok (.iload_n 2, 1) := by decide +kernel
theorem dX5_perform_205 : decode cX5_perform 205 = .ok (.aaload, 1) := by decide +kernel
theorem dX5_perform_206 : decode cX5_perform 206 = .ok (.iload_n 3, 1) := by decide +kernel
theorem dX5_perform_207 : decode cX5_perform 207 = .ok (.invokevirtual 116, 3) := by decide +kernel
theorem dX5_perform_210 : decode cX5_perform 210 = .ok (.ireturn, 1) := by decide +kernel
theorem dX5_perform_211 : decode cX5_perform 211 = .ok (.aload_n 0, 1) := by decide +kernel
theorem dX5_perform_212 : decode cX5_perform 212 = .ok (.iload_n 2, 1) := by decide +kernel
theorem dX5_perform_213 : decode cX5_perform 213 = .ok (.invokevirtual 120, 3) := by decide +kernel
theorem dX5_perform_216 : decode cX5_perform 216 = .ok (.ireturn, 1) := by decide +kernel
theorem dX5_perform_217 : decode cX5_perform 217 = .ok (.aload_n 0, 1) := by decide +kernel
theorem dX5_perform_218 : decode cX5_perform 218 = .ok (.aload_n 0, 1) := by decide +kernel
theorem dX5_perform_219 : decode cX5_perform 219 = .ok (.getfield 31, 3) := by decide +kernel
theorem dX5_perform_222 : decode cX5_perform 222 = .ok (.iload_n 2, 1) := by decide +kernel
theorem dX5_perform_223 : decode cX5_perform 223 = .ok (.aaload, 1) := by decide +kernel
theorem dX5_perform_224 : decode cX5_perform 224 = .ok (.invokevirtual 123, 3) := by decide +kernel
theorem dX5_perform_227 : decode cX5_perform 227 = .ok (.ireturn, 1) := by decide +kernel
theorem dX5_perform_228 : decode cX5_perform 228 = .ok (.aload_n 0, 1) := by decide +kernel
theorem dX5_perform_229 : decode cX5_perform 229 = .ok (.aload_n 0, 1) := by decide +kernel
theorem dX5_perform_230 : decode cX5_perform 230 = .ok (.getfield 31, 3) := by decide +kernel
theorem dX5_perform_233 : decode cX5_perform 233 = .ok (.iload_n 2, 1) := by decide +kernel
theorem dX5_perform_234 : decode cX5_perform 234 = .ok (.aaload, 1) := by decide +kernel
theorem dX5_perform_235 : decode cX5_perform 235 = .ok (.iload_n 3, 1) := by decide +kernel
theorem dX5_perform_236 : decode cX5_perform 236 = .ok (.i2c, 1) := by decide +kernel
theorem dX5_perform_237 : decode cX5_perform 237 = .ok (.invokevirtual 127, 3) := by decide +kernel
theorem dX5_perform_240 : decode cX5_perform 240 = .ok (.ireturn, 1) := by decide +kernel
theorem dX5_perform_241 : decode cX5_perform 241 = .ok (.aload_n 0, 1) := by decide +kernel
theorem dX5_perform_242 : decode cX5_perform 242 = .ok (.aload_n 0, 1) := by decide +kernel
theorem dX5_perform_243 : decode cX5_perform 243 = .ok (.getfield 31, 3) := by decide +kernel
theorem dX5_perform_246 : decode cX5_perform 246 = .ok (.iload_n 2, 1) := by decide +kernel
theorem dX5_perform_247 : decode cX5_perform 247 = .ok (.aaload, 1) := by decide +kernel
theorem dX5_perform_248 : decode cX5_perform 248 = .ok (.invokevirtual 131, 3) := by decide +kernel
theorem dX5_perform_251 : decode cX5_perform 251 = .ok (.ireturn, 1) := by decide +kernel
theorem dX5_perform_252 : decode cX5_perform 252 = .ok (.aload_n 0, 1) := by decide +kernel
theorem dX5_perform_253 : decode cX5_perform 253 = .ok (.iload_n 2, 1) := by decide +kernel
theorem dX5_perform_254 : decode cX5_perform 254 = .ok (.invokevirtual 134, 3) := by decide +kernel
theorem dX5_perform_257 : decode cX5_perform 257 = .ok (.ireturn, 1) := by decide +kernel
theorem dX5_perform_258 : decode cX5_perform 258 = .ok (.aload_n 0, 1) := by decide +kernel
theorem dX5_perform_259 : decode cX5_perform 259 = .ok (.iload_n 2, 1) := by decide +kernel
theorem dX5_perform_260 : decode cX5_perform 260 = .ok (.iload_n 3, 1) := by decide +kernel
theorem dX5_perform_261 : decode cX5_perform 261 = .ok (.iconst 1, 1) := by decide +kernel
theorem dX5_perform_262 : decode cX5_perform 262 = .ok (.if_icmp .ne 7, 3) := by decide +kernel
theorem dX5_perform_265 : decode cX5_perform 265 = .ok (.iconst 1, 1) := by decide +kernel
theorem dX5_perform_266 : decode cX5_perform 266 = .ok (.goto 4, 3) := by decide +kernel
theorem dX5_perform_269 : decode cX5_perform 269 = .ok (.iconst 0, 1) := by decide +kernel
theorem dX5_perform_270 : decode cX5_perform 270 = .ok (.invokevirtual 137, 3) := by decide +kernel
theorem dX5_perform_273 : decode cX5_perform 273 = .ok (.ireturn, 1) := by decide +kernel
theorem dX5_perform_274 : decode cX5_perform 274 = .ok (.aload_n 0, 1) := by decide +kernel
theorem dX5_perform_275 : decode cX5_perform 275 = .ok (.aload_n 0, 1) := by decide +kernel
theorem dX5_perform_276 : decode cX5_perform 276 = .ok (.getfield 19, 3) := by decide +kernel
theorem dX5_perform_279 : decode cX5_perform 279 = .ok (.iload_n 2, 1) := by decide +kernel
theorem dX5_perform_280 : decode cX5_perform 280 = .ok (.aaload, 1) := by decide +kernel
theorem dX5_perform_281 : decode cX5_perform 281 = .ok (.iload_n 3, 1) := by decide +kernel
theorem dX5_perform_282 : decode cX5_perform 282 = .ok (.iload 4, 2) := by decide +kernel
theorem dX5_perform_284 : decode cX5_perform 284 = .ok (.invokevirtual 141, 3) := by decide +kernel
theorem dX5_perform_287 : decode cX5_perform 287 = .ok (.ireturn, 1) := by decide +kernel
theorem dX5_perform_288 : decode cX5_perform 288 = .ok (.aload_n 0, 1) := by decide +kernel
theorem dX5_perform_289 : decode cX5_perform 289 = .ok (.iload_n 2, 1) := by decide +kernel
theorem dX5_perform_290 : decode cX5_perform 290 = .ok (.iload_n 3, 1) := by decide +kernel
theorem dX5_perform_291 : decode cX5_perform 291 = .ok (.iconst 1, 1) := by decide +kernel
theorem dX5_perform_292 : decode cX5_perform 292 = .ok (.if_icmp .ne 7, 3) := by decide +kernel
theorem dX5_perform_295 : decode cX5_perform 295 = .ok (.iconst 1, 1) := by decide +kernel
theorem dX5_perform_296 : decode cX5_perform 296 = .ok (.goto 4, 3) := by decide +kernel
theorem dX5_perform_299 : decode cX5_perform 299 = .ok (.iconst 0, 1) := by decide +kernel
theorem dX5_perform_300 : decode cX5_perform 300 = .ok (.iload 4, 2) := by decide +kernel
theorem dX5_perform_302 : decode cX5_perform 302 = .ok (.iconst 1, 1) := by decide +kernel
theorem dX5_perform_303 : decode cX5_perform 303 = .ok (.if_icmp .ne 7, 3) := by decide +kernel
theorem dX5_perform_306 : decode cX5_perform 306 = .ok (.iconst 1, 1) := by decide +kernel
theorem dX5_perform_307 : decode cX5_perform 307 = .ok (.goto 4, 3) := by decide +kernel
theorem dX5_perform_310 : decode cX5_perform 310 = .ok (.iconst 0, 1) := by decide +kernel
theorem dX5_perform_311 : decode cX5_perform 311 = .ok (.invokevirtual 145, 3) := by decide +kernel
theorem dX5_perform_314 : decode cX5_perform 314 = .ok (.ireturn, 1) := by decide +kernel
theorem dX5_perform_315 : decode cX5_perform 315 = .ok (.iconst 0, 1) := by decide +kernel
theorem dX5_perform_316 : decode cX5_perform 316 = .ok (.ireturn, 1) := by decide +kernel
theorem dX5_enrol_0 : decode cX5_enrol 0 = .ok (.aload_n 0, 1) := by decide +kernel
theorem dX5_enrol_1 : decode cX5_enrol 1 = .ok (.getfield 11, 3) := by decide +kernel
theorem dX5_enrol_4 : decode cX5_enrol 4 = .ok (.aload_n 0, 1) := by decide +kernel
theorem dX5_enrol_5 : decode cX5_enrol 5 = .ok (.getfield 50, 3) := by decide +kernel
theorem dX5_enrol_8 : decode cX5_enrol 8 = .ok (.aaload, 1) := by decide +kernel
theorem dX5_enrol_9 : decode cX5_enrol 9 = .ok (.iload_n 1, 1) := by decide +kernel
theorem dX5_enrol_10 : decode cX5_enrol 10 = .ok (.iload_n 2, 1) := by decide +kernel
theorem dX5_enrol_11 : decode cX5_enrol 11 = .ok (.invokevirtual 149, 3) := by decide +kernel
theorem dX5_enrol_14 : decode cX5_enrol 14 = .ok (.aload_n 0, 1) := by decide +kernel
theorem dX5_enrol_15 : decode cX5_enrol 15 = .ok (.dup, 1) := by decide +kernel
theorem dX5_enrol_16 : decode cX5_enrol 16 = .ok (.getfield 50, 3) := by decide +kernel
theorem dX5_enrol_19 : decode cX5_enrol 19 = .ok (.iconst 1, 1) := by decide +kernel
theorem dX5_enrol_20 : decode cX5_enrol 20 = .ok (.iadd, 1) := by decide +kernel
theorem dX5_enrol_21 : decode cX5_enrol 21 = .ok (.putfield 50, 3) := by decide +kernel
theorem dX5_enrol_24 : decode cX5_enrol 24 = .ok (.aload_n 0, 1) := by decide +kernel
theorem dX5_enrol_25 : decode cX5_enrol 25 = .ok (.getfield 50, 3) := by decide +kernel
theorem dX5_enrol_28 : decode cX5_enrol 28 = .ok (.iconst 1, 1) := by decide +kernel
theorem dX5_enrol_29 : decode cX5_enrol 29 = .ok (.isub, 1) := by decide +kernel
theorem dX5_enrol_30 : decode cX5_enrol 30 = .ok (.ireturn, 1) := by decide +kernel
theorem dX5_relicense_0 : decode cX5_relicense 0 = .ok (.aload_n 0, 1) := by decide +kernel
theorem dX5_relicense_1 : decode cX5_relicense 1 = .ok (.getfield 11, 3) := by decide +kernel
theorem dX5_relicense_4 : decode cX5_relicense 4 = .ok (.iload_n 1, 1) := by decide +kernel
theorem dX5_relicense_5 : decode cX5_relicense 5 = .ok (.aaload, 1) := by decide +kernel
theorem dX5_relicense_6 : decode cX5_relicense 6 = .ok (.getfield 153, 3) := by decide +kernel
theorem dX5_relicense_9 : decode cX5_relicense 9 = .ok (.istore 4, 2) := by decide +kernel
theorem dX5_relicense_11 : decode cX5_relicense 11 = .ok (.aload_n 0, 1) := by decide +kernel
theorem dX5_relicense_12 : decode cX5_relicense 12 = .ok (.getfield 11, 3) := by decide +kernel
theorem dX5_relicense_15 : decode cX5_relicense 15 = .ok (.iload_n 1, 1) := by decide +kernel
theorem dX5_relicense_16 : decode cX5_relicense 16 = .ok (.aaload, 1) := by decide +kernel
theorem dX5_relicense_17 : decode cX5_relicense 17 = .ok (.iload_n 2, 1) := by decide +kernel
theorem dX5_relicense_18 : decode cX5_relicense 18 = .ok (.iload_n 3, 1) := by decide +kernel
theorem dX5_relicense_19 : decode cX5_relicense 19 = .ok (.invokevirtual 149, 3) := by decide +kernel
theorem dX5_relicense_22 : decode cX5_relicense 22 = .ok (.iload 4, 2) := by decide +kernel
theorem dX5_relicense_24 : decode cX5_relicense 24 = .ok (.ireturn, 1) := by decide +kernel
theorem dX5_enter_0 : decode cX5_enter 0 = .ok (.aload_n 0, 1) := by decide +kernel
theorem dX5_enter_1 : decode cX5_enter 1 = .ok (.getfield 19, 3) := by decide +kernel
theorem dX5_enter_4 : decode cX5_enter 4 = .ok (.aload_n 0, 1) := by decide +kernel
theorem dX5_enter_5 : decode cX5_enter 5 = .ok (.getfield 53, 3) := by decide +kernel
theorem dX5_enter_8 : decode cX5_enter 8 = .ok (.aaload, 1) := by decide +kernel
theorem dX5_enter_9 : decode cX5_enter 9 = .ok (.iload_n 1, 1) := by decide +kernel
theorem dX5_enter_10 : decode cX5_enter 10 = .ok (.iload_n 2, 1) := by decide +kernel
theorem dX5_enter_11 : decode cX5_enter 11 = .ok (.iload_n 3, 1) := by decide +kernel
theorem dX5_enter_12 : decode cX5_enter 12 = .ok (.iload 4, 2) := by decide +kernel
theorem dX5_enter_14 : decode cX5_enter 14 = .ok (.aload_n 0, 1) := by decide +kernel
theorem dX5_enter_15 : decode cX5_enter 15 = .ok (.getfield 65, 3) := by decide +kernel
theorem dX5_enter_18 : decode cX5_enter 18 = .ok (.invokevirtual 156, 3) := by decide +kernel
theorem dX5_enter_21 : decode cX5_enter 21 = .ok (.aload_n 0, 1) := by decide +kernel
theorem dX5_enter_22 : decode cX5_enter 22 = .ok (.dup, 1) := by decide +kernel
theorem dX5_enter_23 : decode cX5_enter 23 = .ok (.getfield 53, 3) := by decide +kernel
theorem dX5_enter_26 : decode cX5_enter 26 = .ok (.iconst 1, 1) := by decide +kernel
theorem dX5_enter_27 : decode cX5_enter 27 = .ok (.iadd, 1) := by decide +kernel
theorem dX5_enter_28 : decode cX5_enter 28 = .ok (.putfield 53, 3) := by decide +kernel
theorem dX5_enter_31 : decode cX5_enter 31 = .ok (.aload_n 0, 1) := by decide +kernel
theorem dX5_enter_32 : decode cX5_enter 32 = .ok (.getfield 53, 3) := by decide +kernel
theorem dX5_enter_35 : decode cX5_enter 35 = .ok (.iconst 1, 1) := by decide +kernel
theorem dX5_enter_36 : decode cX5_enter 36 = .ok (.isub, 1) := by decide +kernel
theorem dX5_enter_37 : decode cX5_enter 37 = .ok (.ireturn, 1) := by decide +kernel
theorem dX5_changePeriod_0 : decode cX5_changePeriod 0 = .ok (.aload_n 0, 1) := by decide +kernel
theorem dX5_changePeriod_1 : decode cX5_changePeriod 1 = .ok (.getfield 46, 3) := by decide +kernel
theorem dX5_changePeriod_4 : decode cX5_changePeriod 4 = .ok (.istore_n 2, 1) := by decide +kernel
theorem dX5_changePeriod_5 : decode cX5_changePeriod 5 = .ok (.aload_n 0, 1) := by decide +kernel
theorem dX5_changePeriod_6 : decode cX5_changePeriod 6 = .ok (.iload_n 1, 1) := by decide +kernel
theorem dX5_changePeriod_7 : decode cX5_changePeriod 7 = .ok (.putfield 46, 3) := by decide +kernel
theorem dX5_changePeriod_10 : decode cX5_changePeriod 10 = .ok (.iload_n 2, 1) := by decide +kernel
theorem dX5_changePeriod_11 : decode cX5_changePeriod 11 = .ok (.ireturn, 1) := by decide +kernel
theorem dX5_letDaysPass_0 : decode cX5_letDaysPass 0 = .ok (.aload_n 0, 1) := by decide +kernel
theorem dX5_letDaysPass_1 : decode cX5_letDaysPass 1 = .ok (.dup, 1) := by decide +kernel
theorem dX5_letDaysPass_2 : decode cX5_letDaysPass 2 = .ok (.getfield 65, 3) := by decide +kernel
theorem dX5_letDaysPass_5 : decode cX5_letDaysPass 5 = .ok (.iload_n 1, 1) := by decide +kernel
theorem dX5_letDaysPass_6 : decode cX5_letDaysPass 6 = .ok (.iadd, 1) := by decide +kernel
theorem dX5_letDaysPass_7 : decode cX5_letDaysPass 7 = .ok (.putfield 65, 3) := by decide +kernel
theorem dX5_letDaysPass_10 : decode cX5_letDaysPass 10 = .ok (.aload_n 0, 1) := by decide +kernel
theorem dX5_letDaysPass_11 : decode cX5_letDaysPass 11 = .ok (.getfield 65, 3) := by decide +kernel
theorem dX5_letDaysPass_14 : decode cX5_letDaysPass 14 = .ok (.ireturn, 1) := by decide +kernel
theorem dX5_putOnHook_0 : decode cX5_putOnHook 0 = .ok (.aload_n 0, 1) := by decide +kernel
theorem dX5_putOnHook_1 : decode cX5_putOnHook 1 = .ok (.getfield 19, 3) := by decide +kernel
theorem dX5_putOnHook_4 : decode cX5_putOnHook 4 = .ok (.iload_n 1, 1) := by decide +kernel
theorem dX5_putOnHook_5 : decode cX5_putOnHook 5 = .ok (.aaload, 1) := by decide +kernel
theorem dX5_putOnHook_6 : decode cX5_putOnHook 6 = .ok (.astore_n 3, 1) := by decide +kernel
theorem dX5_putOnHook_7 : decode cX5_putOnHook 7 = .ok (.aload_n 3, 1) := by decide +kernel
theorem dX5_putOnHook_8 : decode cX5_putOnHook 8 = .ok (.bipush 112, 2) := by decide +kernel
theorem dX5_putOnHook_10 : decode cX5_putOnHook 10 = .ok (.putfield 160, 3) := by decide +kernel
theorem dX5_putOnHook_13 : decode cX5_putOnHook 13 = .ok (.aload_n 3, 1) := by decide +kernel
theorem dX5_putOnHook_14 : decode cX5_putOnHook 14 = .ok (.iload_n 2, 1) := by decide +kernel
theorem dX5_putOnHook_15 : decode cX5_putOnHook 15 = .ok (.putfield 164, 3) := by decide +kernel
theorem dX5_putOnHook_18 : decode cX5_putOnHook 18 = .ok (.aload_n 3, 1) := by decide +kernel
theorem dX5_putOnHook_19 : decode cX5_putOnHook 19 = .ok (.iconst 0, 1) := by decide +kernel
theorem dX5_putOnHook_20 : decode cX5_putOnHook 20 = .ok (.putfield 167, 3) := by decide +kernel
theorem dX5_putOnHook_23 : decode cX5_putOnHook 23 = .ok (.iconst 0, 1) := by decide +kernel
theorem dX5_putOnHook_24 : decode cX5_putOnHook 24 = .ok (.istore 4, 2) := by decide +kernel
theorem dX5_putOnHook_26 : decode cX5_putOnHook 26 = .ok (.iconst 0, 1) := by decide +kernel
theorem dX5_putOnHook_27 : decode cX5_putOnHook 27 = .ok (.istore 5, 2) := by decide +kernel
theorem dX5_putOnHook_29 : decode cX5_putOnHook 29 = .ok (.iload 5, 2) := by decide +kernel
theorem dX5_putOnHook_31 : decode cX5_putOnHook 31 = .ok (.aload_n 0, 1) := by decide +kernel
theorem dX5_putOnHook_32 : decode cX5_putOnHook 32 = .ok (.getfield 53, 3) := by decide +kernel
theorem dX5_putOnHook_35 : decode cX5_putOnHook 35 = .ok (.if_icmp .ge 27, 3) := by decide +kernel
theorem dX5_putOnHook_38 : decode cX5_putOnHook 38 = .ok (.aload_n 0, 1) := by decide +kernel
theorem dX5_putOnHook_39 : decode cX5_putOnHook 39 = .ok (.getfield 19, 3) := by decide +kernel
theorem dX5_putOnHook_42 : decode cX5_putOnHook 42 = .ok (.iload 5, 2) := by decide +kernel
theorem dX5_putOnHook_44 : decode cX5_putOnHook 44 = .ok (.aaload, 1) := by decide +kernel
theorem dX5_putOnHook_45 : decode cX5_putOnHook 45 = .ok (.getfield 160, 3) := by decide +kernel
theorem dX5_putOnHook_48 : decode cX5_putOnHook 48 = .ok (.bipush 112, 2) := by decide +kernel
theorem dX5_putOnHook_50 : decode cX5_putOnHook 50 = .ok (.if_icmp .ne 6, 3) := by decide +kernel
theorem dX5_putOnHook_53 : decode cX5_putOnHook 53 = .ok (.iinc 4 1, 3) := by decide +kernel
theorem dX5_putOnHook_56 : decode cX5_putOnHook 56 = .ok (.iinc 5 1, 3) := by decide +kernel
theorem dX5_putOnHook_59 : decode cX5_putOnHook 59 = .ok (.goto (-30), 3) := by decide +kernel
theorem dX5_putOnHook_62 : decode cX5_putOnHook 62 = .ok (.iload 4, 2) := by decide +kernel
theorem dX5_putOnHook_64 : decode cX5_putOnHook 64 = .ok (.ireturn, 1) := by decide +kernel
theorem dX5_isHookFree_0 : decode cX5_isHookFree 0 = .ok (.iconst 0, 1) := by decide +kernel
theorem dX5_isHookFree_1 : decode cX5_isHookFree 1 = .ok (.istore_n 2, 1) := by decide +kernel
theorem dX5_isHookFree_2 : decode cX5_isHookFree 2 = .ok (.iload_n 2, 1) := by decide +kernel
theorem dX5_isHookFree_3 : decode cX5_isHookFree 3 = .ok (.aload_n 0, 1) := by decide +kernel
theorem dX5_isHookFree_4 : decode cX5_isHookFree 4 = .ok (.getfield 53, 3) := by decide +kernel
theorem dX5_isHookFree_7 : decode cX5_isHookFree 7 = .ok (.if_icmp .ge 24, 3) := by decide +kernel
theorem dX5_isHookFree_10 : decode cX5_isHookFree 10 = .ok (.aload_n 0, 1) := by decide +kernel
theorem dX5_isHookFree_11 : decode cX5_isHookFree 11 = .ok (.getfield 19, 3) := by decide +kernel
theorem dX5_isHookFree_14 : decode cX5_isHookFree 14 = .ok (.iload_n 2, 1) := by decide +kernel
theorem dX5_isHookFree_15 : decode cX5_isHookFree 15 = .ok (.aaload, 1) := by decide +kernel
theorem dX5_isHookFree_16 : decode cX5_isHookFree 16 = .ok (.getfield 164, 3) := by decide +kernel
theorem dX5_isHookFree_19 : decode cX5_isHookFree 19 = .ok (.iload_n 1, 1) := by decide +kernel
theorem dX5_isHookFree_20 : decode cX5_isHookFree 20 = .ok (.if_icmp .ne 5, 3) := by decide +kernel
theorem dX5_isHookFree_23 : decode cX5_isHookFree 23 = .ok (.iconst 0, 1) := by decide +kernel
theorem dX5_isHookFree_24 : decode cX5_isHookFree 24 = .ok (.ireturn, 1) := by decide +kernel
theorem dX5_isHookFree_25 : decode cX5_isHookFree 25 = .ok (.iinc 2 1, 3) := by decide +kernel
theorem dX5_isHookFree_28 : decode cX5_isHookFree 28 = .ok (.goto (-26), 3) := by decide +kernel
theorem dX5_isHookFree_31 : decode cX5_isHookFree 31 = .ok (.iconst 1, 1) := by decide +kernel
theorem dX5_isHookFree_32 : decode cX5_isHookFree 32 = .ok (.ireturn, 1) := by decide +kernel
theorem dX5_doStep_0 : decode cX5_doStep 0 = .ok (.aload_n 0, 1) := by decide +kernel
theorem dX5_doStep_1 : decode cX5_doStep 1 = .ok (.getfield 19, 3) := by decide +kernel
theorem dX5_doStep_4 : decode cX5_doStep 4 = .ok (.iload_n 1, 1) := by decide +kernel
theorem dX5_doStep_5 : decode cX5_doStep 5 = .ok (.aaload, 1) := by decide +kernel
theorem dX5_doStep_6 : decode cX5_doStep 6 = .ok (.astore_n 3, 1) := by decide +kernel
theorem dX5_doStep_7 : decode cX5_doStep 7 = .ok (.aload_n 3, 1) := by decide +kernel
theorem dX5_doStep_8 : decode cX5_doStep 8 = .ok (.getfield 170, 3) := by decide +kernel
theorem dX5_doStep_11 : decode cX5_doStep 11 = .ok (.aload_n 3, 1) := by decide +kernel
theorem dX5_doStep_12 : decode cX5_doStep 12 = .ok (.getfield 167, 3) := by decide +kernel
theorem dX5_doStep_15 : decode cX5_doStep 15 = .ok (.iload_n 2, 1) := by decide +kernel
theorem dX5_doStep_16 : decode cX5_doStep 16 = .ok (.iastore, 1) := by decide +kernel
theorem dX5_doStep_17 : decode cX5_doStep 17 = .ok (.aload_n 3, 1) := by decide +kernel
theorem dX5_doStep_18 : decode cX5_doStep 18 = .ok (.dup, 1) := by decide +kernel
theorem dX5_doStep_19 : decode cX5_doStep 19 = .ok (.getfield 167, 3) := by decide +kernel
theorem dX5_doStep_22 : decode cX5_doStep 22 = .ok (.iconst 1, 1) := by decide +kernel
theorem dX5_doStep_23 : decode cX5_doStep 23 = .ok (.iadd, 1) := by decide +kernel
theorem dX5_doStep_24 : decode cX5_doStep 24 = .ok (.putfield 167, 3) := by decide +kernel
theorem dX5_doStep_27 : decode cX5_doStep 27 = .ok (.aload_n 3, 1) := by decide +kernel
theorem dX5_doStep_28 : decode cX5_doStep 28 = .ok (.getfield 167, 3) := by decide +kernel
theorem dX5_doStep_31 : decode cX5_doStep 31 = .ok (.istore 4, 2) := by decide +kernel
theorem dX5_doStep_33 : decode cX5_doStep 33 = .ok (.iload 4, 2) := by decide +kernel
theorem dX5_doStep_35 : decode cX5_doStep 35 = .ok (.iconst 5, 1) := by decide +kernel
theorem dX5_doStep_36 : decode cX5_doStep 36 = .ok (.if_icmp .ne 8, 3) := by decide +kernel
theorem dX5_doStep_39 : decode cX5_doStep 39 = .ok (.aload_n 0, 1) := by decide +kernel
theorem dX5_doStep_40 : decode cX5_doStep 40 = .ok (.iload_n 1, 1) := by decide +kernel
theorem dX5_doStep_41 : decode cX5_doStep 41 = .ok (.invokevirtual 174, 3) := by decide +kernel
theorem dX5_doStep_44 : decode cX5_doStep 44 = .ok (.iload 4, 2) := by decide +kernel
theorem dX5_doStep_46 : decode cX5_doStep 46 = .ok (.ireturn, 1) := by decide +kernel
theorem dX5_endPacking_0 : decode cX5_endPacking 0 = .ok (.aload_n 0, 1) := by decide +kernel
theorem dX5_endPacking_1 : decode cX5_endPacking 1 = .ok (.getfield 19, 3) := by decide +kernel
theorem dX5_endPacking_4 : decode cX5_endPacking 4 = .ok (.iload_n 1, 1) := by decide +kernel
theorem dX5_endPacking_5 : decode cX5_endPacking 5 = .ok (.aaload, 1) := by decide +kernel
theorem dX5_endPacking_6 : decode cX5_endPacking 6 = .ok (.astore_n 2, 1) := by decide +kernel
theorem dX5_endPacking_7 : decode cX5_endPacking 7 = .ok (.aload_n 0, 1) := by decide +kernel
theorem dX5_endPacking_8 : decode cX5_endPacking 8 = .ok (.getfield 38, 3) := by decide +kernel
theorem dX5_endPacking_11 : decode cX5_endPacking 11 = .ok (.iload_n 1, 1) := by decide +kernel
theorem dX5_endPacking_12 : decode cX5_endPacking 12 = .ok (.aload_n 2, 1) := by decide +kernel
theorem dX5_endPacking_13 : decode cX5_endPacking 13 = .ok (.getfield 164, 3) := by decide +kernel
theorem dX5_endPacking_16 : decode cX5_endPacking 16 = .ok (.aload_n 0, 1) := by decide +kernel
theorem dX5_endPacking_17 : decode cX5_endPacking 17 = .ok (.getfield 65, 3) := by decide +kernel
theorem dX5_endPacking_20 : decode cX5_endPacking 20 = .ok (.aload_n 2, 1) := by decide +kernel
theorem dX5_endPacking_21 : decode cX5_endPacking 21 = .ok (.getfield 170, 3) := by decide +kernel
theorem dX5_endPacking_24 : decode cX5_endPacking 24 = .ok (.invokevirtual 178, 3) := by decide +kernel
theorem dX5_endPacking_27 : decode cX5_endPacking 27 = .ok (.istore_n 3, 1) := by decide +kernel
theorem dX5_endPacking_28 : decode cX5_endPacking 28 = .ok (.aload_n 0, 1) := by decide +kernel
theorem dX5_endPacking_29 : decode cX5_endPacking 29 = .ok (.getfield 38, 3) := by decide +kernel
theorem dX5_endPacking_32 : decode cX5_endPacking 32 = .ok (.iload_n 3, 1) := by decide +kernel
theorem dX5_endPacking_33 : decode cX5_endPacking 33 = .ok (.invokevirtual 182, 3) := by decide +kernel
theorem dX5_endPacking_36 : decode cX5_endPacking 36 = .ok (.ifCond .eq 50, 3) := by decide +kernel
theorem dX5_endPacking_39 : decode cX5_endPacking 39 = .ok (.aload_n 2, 1) := by decide +kernel
theorem dX5_endPacking_40 : decode cX5_endPacking 40 = .ok (.iload_n 3, 1) := by decide +kernel
theorem dX5_endPacking_41 : decode cX5_endPacking 41 = .ok (.putfield 186, 3) := by decide +kernel
theorem dX5_endPacking_44 : decode cX5_endPacking 44 = .ok (.aload_n 2, 1) := by decide +kernel
theorem dX5_endPacking_45 : decode cX5_endPacking 45 = .ok (.dup, 1) := by decide +kernel
theorem dX5_endPacking_46 : decode cX5_endPacking 46 = .ok (.getfield 189, 3) := by decide +kernel
theorem dX5_endPacking_49 : decode cX5_endPacking 49 = .ok (.iconst 1, 1) := by decide +kernel
theorem dX5_endPacking_50 : decode cX5_endPacking 50 = .ok (.iadd, 1) := by decide +kernel
theorem dX5_endPacking_51 : decode cX5_endPacking 51 = .ok (.putfield 189, 3) := by decide +kernel
theorem dX5_endPacking_54 : decode cX5_endPacking 54 = .ok (.aload_n 2, 1) := by decide +kernel
theorem dX5_endPacking_55 : decode cX5_endPacking 55 = .ok (.dup, 1) := by decide +kernel
theorem dX5_endPacking_56 : decode cX5_endPacking 56 = .ok (.getfield 192, 3) := by decide +kernel
theorem dX5_endPacking_59 : decode cX5_endPacking 59 = .ok (.iconst 1, 1) := by decide +kernel
theorem dX5_endPacking_60 : decode cX5_endPacking 60 = .ok (.aload_n 2, 1) := by decide +kernel
theorem dX5_endPacking_61 : decode cX5_endPacking 61 = .ok (.getfield 164, 3) := by decide +kernel
theorem dX5_endPacking_64 : decode cX5_endPacking 64 = .ok (.ishl, 1) := by decide +kernel
theorem dX5_endPacking_65 : decode cX5_endPacking 65 = .ok (.ior, 1) := by decide +kernel
theorem dX5_endPacking_66 : decode cX5_endPacking 66 = .ok (.putfield 192, 3) := by decide +kernel
theorem dX5_endPacking_69 : decode cX5_endPacking 69 = .ok (.aload_n 2, 1) := by decide +kernel
theorem dX5_endPacking_70 : decode cX5_endPacking 70 = .ok (.dup, 1) := by decide +kernel
theorem dX5_endPacking_71 : decode cX5_endPacking 71 = .ok (.getfield 195, 3) := by decide +kernel
theorem dX5_endPacking_74 : decode cX5_endPacking 74 = .ok (.aload_n 0, 1) := by decide +kernel
theorem dX5_endPacking_75 : decode cX5_endPacking 75 = .ok (.getfield 38, 3) := by decide +kernel
theorem dX5_endPacking_78 : decode cX5_endPacking 78 = .ok (.iload_n 3, 1) := by decide +kernel
theorem dX5_endPacking_79 : decode cX5_endPacking 79 = .ok (.invokevirtual 198, 3) := by decide +kernel
theorem dX5_endPacking_82 : decode cX5_endPacking 82 = .ok (.lor, 1) := by decide +kernel
theorem dX5_endPacking_83 : decode cX5_endPacking 83 = .ok (.putfield 195, 3) := by decide +kernel
theorem dX5_endPacking_86 : decode cX5_endPacking 86 = .ok (.aload_n 0, 1) := by decide +kernel
theorem dX5_endPacking_87 : decode cX5_endPacking 87 = .ok (.aload_n 2, 1) := by decide +kernel
theorem dX5_endPacking_88 : decode cX5_endPacking 88 = .ok (.invokevirtual 100, 3) := by decide +kernel
theorem dX5_endPacking_91 : decode cX5_endPacking 91 = .ok (.pop, 1) := by decide +kernel
theorem dX5_endPacking_92 : decode cX5_endPacking 92 = .ok (.aload_n 2, 1) := by decide +kernel
theorem dX5_endPacking_93 : decode cX5_endPacking 93 = .ok (.bipush 107, 2) := by decide +kernel
theorem dX5_endPacking_95 : decode cX5_endPacking 95 = .ok (.putfield 160, 3) := by decide +kernel
theorem dX5_endPacking_98 : decode cX5_endPacking 98 = .ok (.return_, 1) := by decide +kernel
theorem dX5_takeOffHook_0 : decode cX5_takeOffHook 0 = .ok (.aload_n 1, 1) := by decide +kernel
theorem dX5_takeOffHook_1 : decode cX5_takeOffHook 1 = .ok (.getfield 167, 3) := by decide +kernel
theorem dX5_takeOffHook_4 : decode cX5_takeOffHook 4 = .ok (.istore_n 2, 1) := by decide +kernel
theorem dX5_takeOffHook_5 : decode cX5_takeOffHook 5 = .ok (.aload_n 1, 1) := by decide +kernel
theorem dX5_takeOffHook_6 : decode cX5_takeOffHook 6 = .ok (.bipush 111, 2) := by decide +kernel
theorem dX5_takeOffHook_8 : decode cX5_takeOffHook 8 = .ok (.putfield 160, 3) := by decide +kernel
theorem dX5_takeOffHook_11 : decode cX5_takeOffHook 11 = .ok (.aload_n 1, 1) := by decide +kernel
theorem dX5_takeOffHook_12 : decode cX5_takeOffHook 12 = .ok (.iconst (-1), 1) := by decide +kernel
theorem dX5_takeOffHook_13 : decode cX5_takeOffHook 13 = .ok (.putfield 164, 3) := by decide +kernel
theorem dX5_takeOffHook_16 : decode cX5_takeOffHook 16 = .ok (.aload_n 1, 1) := by decide +kernel
theorem dX5_takeOffHook_17 : decode cX5_takeOffHook 17 = .ok (.iconst 0, 1) := by decide +kernel
theorem dX5_takeOffHook_18 : decode cX5_takeOffHook 18 = .ok (.putfield 167, 3) := by decide +kernel
theorem dX5_takeOffHook_21 : decode cX5_takeOffHook 21 = .ok (.iload_n 2, 1) := by decide +kernel
theorem dX5_takeOffHook_22 : decode cX5_takeOffHook 22 = .ok (.ireturn, 1) := by decide +kernel
theorem dX5_beginLoad_0 : decode cX5_beginLoad 0 = .ok (.aload_n 0, 1) := by decide +kernel
theorem dX5_beginLoad_1 : decode cX5_beginLoad 1 = .ok (.getfield 25, 3) := by decide +kernel
theorem dX5_beginLoad_4 : decode cX5_beginLoad 4 = .ok (.aload_n 0, 1) := by decide +kernel
theorem dX5_beginLoad_5 : decode cX5_beginLoad 5 = .ok (.getfield 56, 3) := by decide +kernel
theorem dX5_beginLoad_8 : decode cX5_beginLoad 8 = .ok (.aaload, 1) := by decide +kernel
theorem dX5_beginLoad_9 : decode cX5_beginLoad 9 = .ok (.invokevirtual 202, 3) := by decide +kernel
theorem dX5_beginLoad_12 : decode cX5_beginLoad 12 = .ok (.aload_n 0, 1) := by decide +kernel
theorem dX5_beginLoad_13 : decode cX5_beginLoad 13 = .ok (.dup, 1) := by decide +kernel
theorem dX5_beginLoad_14 : decode cX5_beginLoad 14 = .ok (.getfield 56, 3) := by decide +kernel
theorem dX5_beginLoad_17 : decode cX5_beginLoad 17 = .ok (.iconst 1, 1) := by decide +kernel
theorem dX5_beginLoad_18 : decode cX5_beginLoad 18 = .ok (.iadd, 1) := by decide +kernel
theorem dX5_beginLoad_19 : decode cX5_beginLoad 19 = .ok (.putfield 56, 3) := by decide +kernel
theorem dX5_beginLoad_22 : decode cX5_beginLoad 22 = .ok (.aload_n 0, 1) := by decide +kernel
theorem dX5_beginLoad_23 : decode cX5_beginLoad 23 = .ok (.getfield 56, 3) := by decide +kernel
theorem dX5_beginLoad_26 : decode cX5_beginLoad 26 = .ok (.iconst 1, 1) := by decide +kernel
theorem dX5_beginLoad_27 : decode cX5_beginLoad 27 = .ok (.isub, 1) := by decide +kernel
theorem dX5_beginLoad_28 : decode cX5_beginLoad 28 = .ok (.ireturn, 1) := by decide +kernel
theorem dX5_putAboard_0 : decode cX5_putAboard 0 = .ok (.aload_n 1, 1) := by decide +kernel
theorem dX5_putAboard_1 : decode cX5_putAboard 1 = .ok (.getfield 204, 3) := by decide +kernel
theorem dX5_putAboard_4 : decode cX5_putAboard 4 = .ok (.aload_n 1, 1) := by decide +kernel
theorem dX5_putAboard_5 : decode cX5_putAboard 5 = .ok (.getfield 207, 3) := by decide +kernel
theorem dX5_putAboard_8 : decode cX5_putAboard 8 = .ok (.iload_n 2, 1) := by decide +kernel
theorem dX5_putAboard_9 : decode cX5_putAboard 9 = .ok (.iastore, 1) := by decide +kernel
theorem dX5_putAboard_10 : decode cX5_putAboard 10 = .ok (.aload_n 1, 1) := by decide +kernel
theorem dX5_putAboard_11 : decode cX5_putAboard 11 = .ok (.getfield 210, 3) := by decide +kernel
theorem dX5_putAboard_14 : decode cX5_putAboard 14 = .ok (.aload_n 1, 1) := by decide +kernel
theorem dX5_putAboard_15 : decode cX5_putAboard 15 = .ok (.getfield 207, 3) := by decide +kernel
theorem dX5_putAboard_18 : decode cX5_putAboard 18 = .ok (.iload_n 3, 1) := by decide +kernel
theorem dX5_putAboard_19 : decode cX5_putAboard 19 = .ok (.iastore, 1) := by decide +kernel
theorem dX5_putAboard_20 : decode cX5_putAboard 20 = .ok (.aload_n 1, 1) := by decide +kernel
theorem dX5_putAboard_21 : decode cX5_putAboard 21 = .ok (.dup, 1) := by decide +kernel
theorem dX5_putAboard_22 : decode cX5_putAboard 22 = .ok (.getfield 207, 3) := by decide +kernel
theorem dX5_putAboard_25 : decode cX5_putAboard 25 = .ok (.iconst 1, 1) := by decide +kernel
theorem dX5_putAboard_26 : decode cX5_putAboard 26 = .ok (.iadd, 1) := by decide +kernel
theorem dX5_putAboard_27 : decode cX5_putAboard 27 = .ok (.putfield 207, 3) := by decide +kernel
theorem dX5_putAboard_30 : decode cX5_putAboard 30 = .ok (.aload_n 0, 1) := by decide +kernel
theorem dX5_putAboard_31 : decode cX5_putAboard 31 = .ok (.getfield 19, 3) := by decide +kernel
theorem dX5_putAboard_34 : decode cX5_putAboard 34 = .ok (.iload_n 2, 1) := by decide +kernel
theorem dX5_putAboard_35 : decode cX5_putAboard 35 = .ok (.aaload, 1) := by decide +kernel
theorem dX5_putAboard_36 : decode cX5_putAboard 36 = .ok (.bipush 97, 2) := by decide +kernel
theorem dX5_putAboard_38 : decode cX5_putAboard 38 = .ok (.putfield 160, 3) := by decide +kernel
theorem dX5_putAboard_41 : decode cX5_putAboard 41 = .ok (.aload_n 0, 1) := by decide +kernel
theorem dX5_putAboard_42 : decode cX5_putAboard 42 = .ok (.getfield 19, 3) := by decide +kernel
theorem dX5_putAboard_45 : decode cX5_putAboard 45 = .ok (.iload_n 3, 1) := by decide +kernel
theorem dX5_putAboard_46 : decode cX5_putAboard 46 = .ok (.aaload, 1) := by decide +kernel
theorem dX5_putAboard_47 : decode cX5_putAboard 47 = .ok (.bipush 97, 2) := by decide +kernel
theorem dX5_putAboard_49 : decode cX5_putAboard 49 = .ok (.putfield 160, 3) := by decide +kernel
theorem dX5_putAboard_52 : decode cX5_putAboard 52 = .ok (.aload_n 1, 1) := by decide +kernel
theorem dX5_putAboard_53 : decode cX5_putAboard 53 = .ok (.getfield 207, 3) := by decide +kernel
theorem dX5_putAboard_56 : decode cX5_putAboard 56 = .ok (.ireturn, 1) := by decide +kernel
theorem dX5_takeLastOff_0 : decode cX5_takeLastOff 0 = .ok (.aload_n 1, 1) := by decide +kernel
theorem dX5_takeLastOff_1 : decode cX5_takeLastOff 1 = .ok (.dup, 1) := by decide +kernel
theorem dX5_takeLastOff_2 : decode cX5_takeLastOff 2 = .ok (.getfield 207, 3) := by decide +kernel
theorem dX5_takeLastOff_5 : decode cX5_takeLastOff 5 = .ok (.iconst 1, 1) := by decide +kernel
theorem dX5_takeLastOff_6 : decode cX5_takeLastOff 6 = .ok (.isub, 1) := by decide +kernel
theorem dX5_takeLastOff_7 : decode cX5_takeLastOff 7 = .ok (.putfield 207, 3) := by decide +kernel
theorem dX5_takeLastOff_10 : decode cX5_takeLastOff 10 = .ok (.aload_n 0, 1) := by decide +kernel
theorem dX5_takeLastOff_11 : decode cX5_takeLastOff 11 = .ok (.getfield 19, 3) := by decide +kernel
theorem dX5_takeLastOff_14 : decode cX5_takeLastOff 14 = .ok (.aload_n 1, 1) := by decide +kernel
theorem dX5_takeLastOff_15 : decode cX5_takeLastOff 15 = .ok (.getfield 204, 3) := by decide +kernel
theorem dX5_takeLastOff_18 : decode cX5_takeLastOff 18 = .ok (.aload_n 1, 1) := by decide +kernel
theorem dX5_takeLastOff_19 : decode cX5_takeLastOff 19 = .ok (.getfield 207, 3) := by decide +kernel
theorem dX5_takeLastOff_22 : decode cX5_takeLastOff 22 = .ok (.iaload, 1) := by decide +kernel
theorem dX5_takeLastOff_23 : decode cX5_takeLastOff 23 = .ok (.aaload, 1) := by decide +kernel
theorem dX5_takeLastOff_24 : decode cX5_takeLastOff 24 = .ok (.bipush 107, 2) := by decide +kernel
theorem dX5_takeLastOff_26 : decode cX5_takeLastOff 26 = .ok (.putfield 160, 3) := by decide +kernel
theorem dX5_takeLastOff_29 : decode cX5_takeLastOff 29 = .ok (.aload_n 0, 1) := by decide +kernel
theorem dX5_takeLastOff_30 : decode cX5_takeLastOff 30 = .ok (.getfield 19, 3) := by decide +kernel
theorem dX5_takeLastOff_33 : decode cX5_takeLastOff 33 = .ok (.aload_n 1, 1) := by decide +kernel
theorem dX5_takeLastOff_34 : decode cX5_takeLastOff 34 = .ok (.getfield 210, 3) := by decide +kernel
theorem dX5_takeLastOff_37 : decode cX5_takeLastOff 37 = .ok (.aload_n 1, 1) := by decide +kernel
theorem dX5_takeLastOff_38 : decode cX5_takeLastOff 38 = .ok (.getfield 207, 3) := by decide +kernel
theorem dX5_takeLastOff_41 : decode cX5_takeLastOff 41 = .ok (.iaload, 1) := by decide +kernel
theorem dX5_takeLastOff_42 : decode cX5_takeLastOff 42 = .ok (.aaload, 1) := by decide +kernel
theorem dX5_takeLastOff_43 : decode cX5_takeLastOff 43 = .ok (.bipush 107, 2) := by decide +kernel
theorem dX5_takeLastOff_45 : decode cX5_takeLastOff 45 = .ok (.putfield 160, 3) := by decide +kernel
theorem dX5_takeLastOff_48 : decode cX5_takeLastOff 48 = .ok (.aload_n 1, 1) := by decide +kernel
theorem dX5_takeLastOff_49 : decode cX5_takeLastOff 49 = .ok (.getfield 207, 3) := by decide +kernel
theorem dX5_takeLastOff_52 : decode cX5_takeLastOff 52 = .ok (.ireturn, 1) := by decide +kernel
theorem dX5_letJump_0 : decode cX5_letJump 0 = .ok (.iconst 0, 1) := by decide +kernel
theorem dX5_letJump_1 : decode cX5_letJump 1 = .ok (.istore_n 3, 1) := by decide +kernel
theorem dX5_letJump_2 : decode cX5_letJump 2 = .ok (.iload_n 3, 1) := by decide +kernel
theorem dX5_letJump_3 : decode cX5_letJump 3 = .ok (.aload_n 1, 1) := by decide +kernel
theorem dX5_letJump_4 : decode cX5_letJump 4 = .ok (.getfield 207, 3) := by decide +kernel
theorem dX5_letJump_7 : decode cX5_letJump 7 = .ok (.if_icmp .ge 66, 3) := by decide +kernel
theorem dX5_letJump_10 : decode cX5_letJump 10 = .ok (.iload_n 3, 1) := by decide +kernel
theorem dX5_letJump_11 : decode cX5_letJump 11 = .ok (.bipush 6, 2) := by decide +kernel
theorem dX5_letJump_13 : decode cX5_letJump 13 = .ok (.if_icmp .ge 60, 3) := by decide +kernel
theorem dX5_letJump_16 : decode cX5_letJump 16 = .ok (.aload_n 0, 1) := by decide +kernel
theorem dX5_letJump_17 : decode cX5_letJump 17 = .ok (.getfield 19, 3) := by decide +kernel
theorem dX5_letJump_20 : decode cX5_letJump 20 = .ok (.aload_n 1, 1) := by decide +kernel
theorem dX5_letJump_21 : decode cX5_letJump 21 = .ok (.getfield 204, 3) := by decide +kernel
theorem dX5_letJump_24 : decode cX5_letJump 24 = .ok (.iload_n 3, 1) := by decide +kernel
theorem dX5_letJump_25 : decode cX5_letJump 25 = .ok (.iaload, 1) := by decide +kernel
theorem dX5_letJump_26 : decode cX5_letJump 26 = .ok (.aaload, 1) := by decide +kernel
theorem dX5_letJump_27 : decode cX5_letJump 27 = .ok (.invokevirtual 213, 3) := by decide +kernel
theorem dX5_letJump_30 : decode cX5_letJump 30 = .ok (.aload_n 0, 1) := by decide +kernel
theorem dX5_letJump_31 : decode cX5_letJump 31 = .ok (.getfield 19, 3) := by decide +kernel
theorem dX5_letJump_34 : decode cX5_letJump 34 = .ok (.aload_n 1, 1) := by decide +kernel
theorem dX5_letJump_35 : decode cX5_letJump 35 = .ok (.getfield 210, 3) := by decide +kernel
theorem dX5_letJump_38 : decode cX5_letJump 38 = .ok (.iload_n 3, 1) := by decide +kernel
theorem dX5_letJump_39 : decode cX5_letJump 39 = .ok (.iaload, 1) := by decide +kernel
theorem dX5_letJump_40 : decode cX5_letJump 40 = .ok (.aaload, 1) := by decide +kernel
theorem dX5_letJump_41 : decode cX5_letJump 41 = .ok (.astore 4, 2) := by decide +kernel
theorem dX5_letJump_43 : decode cX5_letJump 43 = .ok (.iload_n 2, 1) := by decide +kernel
theorem dX5_letJump_44 : decode cX5_letJump 44 = .ok (.iload_n 3, 1) := by decide +kernel
theorem dX5_letJump_45 : decode cX5_letJump 45 = .ok (.ishr, 1) := by decide +kernel
theorem dX5_letJump_46 : decode cX5_letJump 46 = .ok (.iconst 1, 1) := by decide +kernel
theorem dX5_letJump_47 : decode cX5_letJump 47 = .ok (.iand, 1) := by decide +kernel
theorem dX5_letJump_48 : decode cX5_letJump 48 = .ok (.iconst 1, 1) := by decide +kernel
theorem dX5_letJump_49 : decode cX5_letJump 49 = .ok (.if_icmp .ne 11, 3) := by decide +kernel
theorem dX5_letJump_52 : decode cX5_letJump 52 = .ok (.aload 4, 2) := by decide +kernel
theorem dX5_letJump_54 : decode cX5_letJump 54 = .ok (.invokevirtual 213, 3) := by decide +kernel
theorem dX5_letJump_57 : decode cX5_letJump 57 = .ok (.goto 10, 3) := by decide +kernel
theorem dX5_letJump_60 : decode cX5_letJump 60 = .ok (.aload 4, 2) := by decide +kernel
theorem dX5_letJump_62 : decode cX5_letJump 62 = .ok (.bipush 107, 2) := by decide +kernel
theorem dX5_letJump_64 : decode cX5_letJump 64 = .ok (.putfield 160, 3) := by decide +kernel
theorem dX5_letJump_67 : decode cX5_letJump 67 = .ok (.iinc 3 1, 3) := by decide +kernel
theorem dX5_letJump_70 : decode cX5_letJump 70 = .ok (.goto (-68), 3) := by decide +kernel
theorem dX5_letJump_73 : decode cX5_letJump 73 = .ok (.aload_n 1, 1) := by decide +kernel
theorem dX5_letJump_74 : decode cX5_letJump 74 = .ok (.iconst 1, 1) := by decide +kernel
theorem dX5_letJump_75 : decode cX5_letJump 75 = .ok (.putfield 216, 3) := by decide +kernel
theorem dX5_letJump_78 : decode cX5_letJump 78 = .ok (.aload_n 1, 1) := by decide +kernel
theorem dX5_letJump_79 : decode cX5_letJump 79 = .ok (.getfield 207, 3) := by decide +kernel
theorem dX5_letJump_82 : decode cX5_letJump 82 = .ok (.ireturn, 1) := by decide +kernel
theorem dX5_noteFinding_0 : decode cX5_noteFinding 0 = .ok (.aload_n 0, 1) := by decide +kernel
theorem dX5_noteFinding_1 : decode cX5_noteFinding 1 = .ok (.getfield 31, 3) := by decide +kernel
theorem dX5_noteFinding_4 : decode cX5_noteFinding 4 = .ok (.aload_n 0, 1) := by decide +kernel
theorem dX5_noteFinding_5 : decode cX5_noteFinding 5 = .ok (.getfield 59, 3) := by decide +kernel
theorem dX5_noteFinding_8 : decode cX5_noteFinding 8 = .ok (.aaload, 1) := by decide +kernel
theorem dX5_noteFinding_9 : decode cX5_noteFinding 9 = .ok (.iload_n 1, 1) := by decide +kernel
theorem dX5_noteFinding_10 : decode cX5_noteFinding 10 = .ok (.aload_n 0, 1) := by decide +kernel
theorem dX5_noteFinding_11 : decode cX5_noteFinding 11 = .ok (.getfield 19, 3) := by decide +kernel
theorem dX5_noteFinding_14 : decode cX5_noteFinding 14 = .ok (.iload_n 1, 1) := by decide +kernel
theorem dX5_noteFinding_15 : decode cX5_noteFinding 15 = .ok (.aaload, 1) := by decide +kernel
theorem dX5_noteFinding_16 : decode cX5_noteFinding 16 = .ok (.getfield 186, 3) := by decide +kernel
theorem dX5_noteFinding_19 : decode cX5_noteFinding 19 = .ok (.aload_n 0, 1) := by decide +kernel
theorem dX5_noteFinding_20 : decode cX5_noteFinding 20 = .ok (.getfield 72, 3) := by decide +kernel
theorem dX5_noteFinding_23 : decode cX5_noteFinding 23 = .ok (.invokevirtual 220, 3) := by decide +kernel
theorem dX5_noteFinding_26 : decode cX5_noteFinding 26 = .ok (.aload_n 0, 1) := by decide +kernel
theorem dX5_noteFinding_27 : decode cX5_noteFinding 27 = .ok (.dup, 1) := by decide +kernel
theorem dX5_noteFinding_28 : decode cX5_noteFinding 28 = .ok (.getfield 59, 3) := by decide +kernel
theorem dX5_noteFinding_31 : decode cX5_noteFinding 31 = .ok (.iconst 1, 1) := by decide +kernel
theorem dX5_noteFinding_32 : decode cX5_noteFinding 32 = .ok (.iadd, 1) := by decide +kernel
theorem dX5_noteFinding_33 : decode cX5_noteFinding 33 = .ok (.putfield 59, 3) := by decide +kernel
theorem dX5_noteFinding_36 : decode cX5_noteFinding 36 = .ok (.aload_n 0, 1) := by decide +kernel
theorem dX5_noteFinding_37 : decode cX5_noteFinding 37 = .ok (.getfield 59, 3) := by decide +kernel
theorem dX5_noteFinding_40 : decode cX5_noteFinding 40 = .ok (.iconst 1, 1) := by decide +kernel
theorem dX5_noteFinding_41 : decode cX5_noteFinding 41 = .ok (.isub, 1) := by decide +kernel
theorem dX5_noteFinding_42 : decode cX5_noteFinding 42 = .ok (.ireturn, 1) := by decide +kernel
theorem dX5_noteFindingIfRoom_0 : decode cX5_noteFindingIfRoom 0 = .ok (.aload_n 0, 1) := by decide +kernel
theorem dX5_noteFindingIfRoom_1 : decode cX5_noteFindingIfRoom 1 = .ok (.getfield 59, 3) := by decide +kernel
theorem dX5_noteFindingIfRoom_4 : decode cX5_noteFindingIfRoom 4 = .ok (.bipush 12, 2) := by decide +kernel
theorem dX5_noteFindingIfRoom_6 : decode cX5_noteFindingIfRoom 6 = .ok (.if_icmp .ge 9, 3) := by decide +kernel
theorem dX5_noteFindingIfRoom_9 : decode cX5_noteFindingIfRoom 9 = .ok (.aload_n 0, 1) := by decide +kernel
theorem dX5_noteFindingIfRoom_10 : decode cX5_noteFindingIfRoom 10 = .ok (.iload_n 1, 1) := by decide +kernel
theorem dX5_noteFindingIfRoom_11 : decode cX5_noteFindingIfRoom 11 = .ok (.invokevirtual 120, 3) := by decide +kernel
theorem dX5_noteFindingIfRoom_14 : decode cX5_noteFindingIfRoom 14 = .ok (.pop, 1) := by decide +kernel
theorem dX5_noteFindingIfRoom_15 : decode cX5_noteFindingIfRoom 15 = .ok (.return_, 1) := by decide +kernel
theorem dX5_raiseLevel_0 : decode cX5_raiseLevel 0 = .ok (.aload_n 1, 1) := by decide +kernel
theorem dX5_raiseLevel_1 : decode cX5_raiseLevel 1 = .ok (.dup, 1) := by decide +kernel
theorem dX5_raiseLevel_2 : decode cX5_raiseLevel 2 = .ok (.getfield 223, 3) := by decide +kernel
theorem dX5_raiseLevel_5 : decode cX5_raiseLevel 5 = .ok (.iconst 1, 1) := by decide +kernel
theorem dX5_raiseLevel_6 : decode cX5_raiseLevel 6 = .ok (.iadd, 1) := by decide +kernel
theorem dX5_raiseLevel_7 : decode cX5_raiseLevel 7 = .ok (.putfield 223, 3) := by decide +kernel
theorem dX5_raiseLevel_10 : decode cX5_raiseLevel 10 = .ok (.aload_n 1, 1) := by decide +kernel
theorem dX5_raiseLevel_11 : decode cX5_raiseLevel 11 = .ok (.getfield 223, 3) := by decide +kernel
theorem dX5_raiseLevel_14 : decode cX5_raiseLevel 14 = .ok (.ireturn, 1) := by decide +kernel
theorem dX5_noteCause_0 : decode cX5_noteCause 0 = .ok (.aload_n 1, 1) := by decide +kernel
theorem dX5_noteCause_1 : decode cX5_noteCause 1 = .ok (.getfield 226, 3) := by decide +kernel
theorem dX5_noteCause_4 : decode cX5_noteCause 4 = .ok (.istore_n 3, 1) := by decide +kernel
theorem dX5_noteCause_5 : decode cX5_noteCause 5 = .ok (.aload_n 1, 1) := by decide +kernel
theorem dX5_noteCause_6 : decode cX5_noteCause 6 = .ok (.iload_n 2, 1) := by decide +kernel
theorem dX5_noteCause_7 : decode cX5_noteCause 7 = .ok (.putfield 226, 3) := by decide +kernel
theorem dX5_noteCause_10 : decode cX5_noteCause 10 = .ok (.iload_n 3, 1) := by decide +kernel
theorem dX5_noteCause_11 : decode cX5_noteCause 11 = .ok (.ireturn, 1) := by decide +kernel
theorem dX5_shut_0 : decode cX5_shut 0 = .ok (.aload_n 1, 1) := by decide +kernel
theorem dX5_shut_1 : decode cX5_shut 1 = .ok (.getfield 229, 3) := by decide +kernel
theorem dX5_shut_4 : decode cX5_shut 4 = .ok (.ifCond .ne 7, 3) := by decide +kernel
theorem dX5_shut_7 : decode cX5_shut 7 = .ok (.iconst 1, 1) := by decide +kernel
theorem dX5_shut_8 : decode cX5_shut 8 = .ok (.goto 4, 3) := by decide +kernel
theorem dX5_shut_11 : decode cX5_shut 11 = .ok (.iconst 0, 1) := by decide +kernel
theorem dX5_shut_12 : decode cX5_shut 12 = .ok (.istore_n 2, 1) := by decide +kernel
theorem dX5_shut_13 : decode cX5_shut 13 = .ok (.aload_n 1, 1) := by decide +kernel
theorem dX5_shut_14 : decode cX5_shut 14 = .ok (.iconst 1, 1) := by decide +kernel
theorem dX5_shut_15 : decode cX5_shut 15 = .ok (.putfield 229, 3) := by decide +kernel
theorem dX5_shut_18 : decode cX5_shut 18 = .ok (.iload_n 2, 1) := by decide +kernel
theorem dX5_shut_19 : decode cX5_shut 19 = .ok (.ifCond .eq 7, 3) := by decide +kernel
theorem dX5_shut_22 : decode cX5_shut 22 = .ok (.iconst 1, 1) := by decide +kernel
theorem dX5_shut_23 : decode cX5_shut 23 = .ok (.goto 4, 3) := by decide +kernel
theorem dX5_shut_26 : decode cX5_shut 26 = .ok (.iconst 0, 1) := by decide +kernel
theorem dX5_shut_27 : decode cX5_shut 27 = .ok (.ireturn, 1) := by decide +kernel
theorem dX5_mend_0 : decode cX5_mend 0 = .ok (.iconst 0, 1) := by decide +kernel
theorem dX5_mend_1 : decode cX5_mend 1 = .ok (.istore_n 2, 1) := by decide +kernel
theorem dX5_mend_2 : decode cX5_mend 2 = .ok (.iload_n 2, 1) := by decide +kernel
theorem dX5_mend_3 : decode cX5_mend 3 = .ok (.aload_n 0, 1) := by decide +kernel
theorem dX5_mend_4 : decode cX5_mend 4 = .ok (.getfield 59, 3) := by decide +kernel
theorem dX5_mend_7 : decode cX5_mend 7 = .ok (.if_icmp .ge 47, 3) := by decide +kernel
theorem dX5_mend_10 : decode cX5_mend 10 = .ok (.aload_n 0, 1) := by decide +kernel
theorem dX5_mend_11 : decode cX5_mend 11 = .ok (.getfield 31, 3) := by decide +kernel
theorem dX5_mend_14 : decode cX5_mend 14 = .ok (.iload_n 2, 1) := by decide +kernel
theorem dX5_mend_15 : decode cX5_mend 15 = .ok (.aaload, 1) := by decide +kernel
theorem dX5_mend_16 : decode cX5_mend 16 = .ok (.getfield 232, 3) := by decide +kernel
theorem dX5_mend_19 : decode cX5_mend 19 = .ok (.iload_n 1, 1) := by decide +kernel
theorem dX5_mend_20 : decode cX5_mend 20 = .ok (.if_icmp .ne 28, 3) := by decide +kernel
theorem dX5_mend_23 : decode cX5_mend 23 = .ok (.aload_n 0, 1) := by decide +kernel
theorem dX5_mend_24 : decode cX5_mend 24 = .ok (.getfield 31, 3) := by decide +kernel
theorem dX5_mend_27 : decode cX5_mend 27 = .ok (.iload_n 2, 1) := by decide +kernel
theorem dX5_mend_28 : decode cX5_mend 28 = .ok (.aaload, 1) := by decide +kernel
theorem dX5_mend_29 : decode cX5_mend 29 = .ok (.getfield 235, 3) := by decide +kernel
theorem dX5_mend_32 : decode cX5_mend 32 = .ok (.ifCond .ne 16, 3) := by decide +kernel
theorem dX5_mend_35 : decode cX5_mend 35 = .ok (.aload_n 0, 1) := by decide +kernel
theorem dX5_mend_36 : decode cX5_mend 36 = .ok (.getfield 31, 3) := by decide +kernel
theorem dX5_mend_39 : decode cX5_mend 39 = .ok (.iload_n 2, 1) := by decide +kernel
theorem dX5_mend_40 : decode cX5_mend 40 = .ok (.aaload, 1) := by decide +kernel
theorem dX5_mend_41 : decode cX5_mend 41 = .ok (.aload_n 0, 1) := by decide +kernel
theorem dX5_mend_42 : decode cX5_mend 42 = .ok (.getfield 72, 3) := by decide +kernel
theorem dX5_mend_45 : decode cX5_mend 45 = .ok (.putfield 235, 3) := by decide +kernel
theorem dX5_mend_48 : decode cX5_mend 48 = .ok (.iinc 2 1, 3) := by decide +kernel
theorem dX5_mend_51 : decode cX5_mend 51 = .ok (.goto (-49), 3) := by decide +kernel
theorem dX5_mend_54 : decode cX5_mend 54 = .ok (.aload_n 0, 1) := by decide +kernel
theorem dX5_mend_55 : decode cX5_mend 55 = .ok (.getfield 19, 3) := by decide +kernel
theorem dX5_mend_58 : decode cX5_mend 58 = .ok (.iload_n 1, 1) := by decide +kernel
theorem dX5_mend_59 : decode cX5_mend 59 = .ok (.aaload, 1) := by decide +kernel
theorem dX5_mend_60 : decode cX5_mend 60 = .ok (.dup, 1) := by decide +kernel
theorem dX5_mend_61 : decode cX5_mend 61 = .ok (.getfield 238, 3) := by decide +kernel
theorem dX5_mend_64 : decode cX5_mend 64 = .ok (.iconst 1, 1) := by decide +kernel
theorem dX5_mend_65 : decode cX5_mend 65 = .ok (.iadd, 1) := by decide +kernel
theorem dX5_mend_66 : decode cX5_mend 66 = .ok (.putfield 238, 3) := by decide +kernel
theorem dX5_mend_69 : decode cX5_mend 69 = .ok (.aload_n 0, 1) := by decide +kernel
theorem dX5_mend_70 : decode cX5_mend 70 = .ok (.getfield 19, 3) := by decide +kernel
theorem dX5_mend_73 : decode cX5_mend 73 = .ok (.iload_n 1, 1) := by decide +kernel
theorem dX5_mend_74 : decode cX5_mend 74 = .ok (.aaload, 1) := by decide +kernel
theorem dX5_mend_75 : decode cX5_mend 75 = .ok (.getfield 238, 3) := by decide +kernel
theorem dX5_mend_78 : decode cX5_mend 78 = .ok (.ireturn, 1) := by decide +kernel
theorem dX5_tryOut_0 : decode cX5_tryOut 0 = .ok (.aload_n 0, 1) := by decide +kernel
theorem dX5_tryOut_1 : decode cX5_tryOut 1 = .ok (.getfield 19, 3) := by decide +kernel
theorem dX5_tryOut_4 : decode cX5_tryOut 4 = .ok (.iload_n 1, 1) := by decide +kernel
theorem dX5_tryOut_5 : decode cX5_tryOut 5 = .ok (.aaload, 1) := by decide +kernel
theorem dX5_tryOut_6 : decode cX5_tryOut 6 = .ok (.astore_n 3, 1) := by decide +kernel
theorem dX5_tryOut_7 : decode cX5_tryOut 7 = .ok (.aload_n 3, 1) := by decide +kernel
theorem dX5_tryOut_8 : decode cX5_tryOut 8 = .ok (.bipush 111, 2) := by decide +kernel
theorem dX5_tryOut_10 : decode cX5_tryOut 10 = .ok (.putfield 160, 3) := by decide +kernel
theorem dX5_tryOut_13 : decode cX5_tryOut 13 = .ok (.aload_n 3, 1) := by decide +kernel
theorem dX5_tryOut_14 : decode cX5_tryOut 14 = .ok (.iload_n 2, 1) := by decide +kernel
theorem dX5_tryOut_15 : decode cX5_tryOut 15 = .ok (.aload_n 0, 1) := by decide +kernel
theorem dX5_tryOut_16 : decode cX5_tryOut 16 = .ok (.getfield 72, 3) := by decide +kernel
theorem dX5_tryOut_19 : decode cX5_tryOut 19 = .ok (.invokevirtual 241, 3) := by decide +kernel
theorem dX5_tryOut_22 : decode cX5_tryOut 22 = .ok (.iload_n 2, 1) := by decide +kernel
theorem dX5_tryOut_23 : decode cX5_tryOut 23 = .ok (.ifCond .ne 8, 3) := by decide +kernel
theorem dX5_tryOut_26 : decode cX5_tryOut 26 = .ok (.aload_n 0, 1) := by decide +kernel
theorem dX5_tryOut_27 : decode cX5_tryOut 27 = .ok (.iload_n 1, 1) := by decide +kernel
theorem dX5_tryOut_28 : decode cX5_tryOut 28 = .ok (.invokevirtual 245, 3) := by decide +kernel
theorem dX5_tryOut_31 : decode cX5_tryOut 31 = .ok (.aload_n 3, 1) := by decide +kernel
theorem dX5_tryOut_32 : decode cX5_tryOut 32 = .ok (.getfield 248, 3) := by decide +kernel
theorem dX5_tryOut_35 : decode cX5_tryOut 35 = .ok (.ireturn, 1) := by decide +kernel
theorem dX5_handOut_0 : decode cX5_handOut 0 = .ok (.aload_n 1, 1) := by decide +kernel
theorem dX5_handOut_1 : decode cX5_handOut 1 = .ok (.bipush 104, 2) := by decide +kernel
theorem dX5_handOut_3 : decode cX5_handOut 3 = .ok (.putfield 160, 3) := by decide +kernel
theorem dX5_handOut_6 : decode cX5_handOut 6 = .ok (.aload_n 1, 1) := by decide +kernel
theorem dX5_handOut_7 : decode cX5_handOut 7 = .ok (.aload_n 0, 1) := by decide +kernel
theorem dX5_handOut_8 : decode cX5_handOut 8 = .ok (.getfield 65, 3) := by decide +kernel
theorem dX5_handOut_11 : decode cX5_handOut 11 = .ok (.iload_n 2, 1) := by decide +kernel
theorem dX5_handOut_12 : decode cX5_handOut 12 = .ok (.iadd, 1) := by decide +kernel
theorem dX5_handOut_13 : decode cX5_handOut 13 = .ok (.putfield 251, 3) := by decide +kernel
theorem dX5_handOut_16 : decode cX5_handOut 16 = .ok (.aload_n 1, 1) := by decide +kernel
theorem dX5_handOut_17 : decode cX5_handOut 17 = .ok (.iload_n 3, 1) := by decide +kernel
theorem dX5_handOut_18 : decode cX5_handOut 18 = .ok (.putfield 254, 3) := by decide +kernel
theorem dX5_handOut_21 : decode cX5_handOut 21 = .ok (.aload_n 1, 1) := by decide +kernel
theorem dX5_handOut_22 : decode cX5_handOut 22 = .ok (.getfield 251, 3) := by decide +kernel
theorem dX5_handOut_25 : decode cX5_handOut 25 = .ok (.ireturn, 1) := by decide +kernel
theorem dX5_takeIn_0 : decode cX5_takeIn 0 = .ok (.aload_n 0, 1) := by decide +kernel
theorem dX5_takeIn_1 : decode cX5_takeIn 1 = .ok (.getfield 19, 3) := by decide +kernel
theorem dX5_takeIn_4 : decode cX5_takeIn 4 = .ok (.iload_n 1, 1) := by decide +kernel
theorem dX5_takeIn_5 : decode cX5_takeIn 5 = .ok (.aaload, 1) := by decide +kernel
theorem dX5_takeIn_6 : decode cX5_takeIn 6 = .ok (.astore 4, 2) := by decide +kernel
theorem dX5_takeIn_8 : decode cX5_takeIn 8 = .ok (.iconst 0, 1) := by decide +kernel
theorem dX5_takeIn_9 : decode cX5_takeIn 9 = .ok (.aload_n 0, 1) := by decide +kernel
theorem dX5_takeIn_10 : decode cX5_takeIn 10 = .ok (.getfield 65, 3) := by decide +kernel
theorem dX5_takeIn_13 : decode cX5_takeIn 13 = .ok (.aload 4, 2) := by decide +kernel
theorem dX5_takeIn_15 : decode cX5_takeIn 15 = .ok (.getfield 251, 3) := by decide +kernel
theorem dX5_takeIn_18 : decode cX5_takeIn 18 = .ok (.isub, 1) := by decide +kernel
theorem dX5_takeIn_19 : decode cX5_takeIn 19 = .ok (.invokestatic 257, 3) := by decide +kernel
theorem dX5_takeIn_22 : decode cX5_takeIn 22 = .ok (.istore 5, 2) := by decide +kernel
theorem dX5_takeIn_24 : decode cX5_takeIn 24 = .ok (.iconst 5, 1) := by decide +kernel
theorem dX5_takeIn_25 : decode cX5_takeIn 25 = .ok (.iload 5, 2) := by decide +kernel
theorem dX5_takeIn_27 : decode cX5_takeIn 27 = .ok (.imul, 1) := by decide +kernel
theorem dX5_takeIn_28 : decode cX5_takeIn 28 = .ok (.iload_n 3, 1) := by decide +kernel
theorem dX5_takeIn_29 : decode cX5_takeIn 29 = .ok (.ifCond .eq 8, 3) := by decide +kernel
theorem dX5_takeIn_32 : decode cX5_takeIn 32 = .ok (.bipush 50, 2) := by decide +kernel
theorem dX5_takeIn_34 : decode cX5_takeIn 34 = .ok (.goto 4, 3) := by decide +kernel
theorem dX5_takeIn_37 : decode cX5_takeIn 37 = .ok (.iconst 0, 1) := by decide +kernel
theorem dX5_takeIn_38 : decode cX5_takeIn 38 = .ok (.iadd, 1) := by decide +kernel
theorem dX5_takeIn_39 : decode cX5_takeIn 39 = .ok (.istore 6, 2) := by decide +kernel
theorem dX5_takeIn_41 : decode cX5_takeIn 41 = .ok (.iconst 0, 1) := by decide +kernel
theorem dX5_takeIn_42 : decode cX5_takeIn 42 = .ok (.aload 4, 2) := by decide +kernel
theorem dX5_takeIn_44 : decode cX5_takeIn 44 = .ok (.getfield 254, 3) := by decide +kernel
theorem dX5_takeIn_47 : decode cX5_takeIn 47 = .ok (.iload 6, 2) := by decide +kernel
theorem dX5_takeIn_49 : decode cX5_takeIn 49 = .ok (.isub, 1) := by decide +kernel
theorem dX5_takeIn_50 : decode cX5_takeIn 50 = .ok (.invokestatic 257, 3) := by decide +kernel
theorem dX5_takeIn_53 : decode cX5_takeIn 53 = .ok (.istore 7, 2) := by decide +kernel
theorem dX5_takeIn_55 : decode cX5_takeIn 55 = .ok (.aload_n 0, 1) := by decide +kernel
theorem dX5_takeIn_56 : decode cX5_takeIn 56 = .ok (.dup, 1) := by decide +kernel
theorem dX5_takeIn_57 : decode cX5_takeIn 57 = .ok (.getfield 68, 3) := by decide +kernel
theorem dX5_takeIn_60 : decode cX5_takeIn 60 = .ok (.aload 4, 2) := by decide +kernel
theorem dX5_takeIn_62 : decode cX5_takeIn 62 = .ok (.getfield 254, 3) := by decide +kernel
theorem dX5_takeIn_65 : decode cX5_takeIn 65 = .ok (.iload 7, 2) := by decide +kernel
theorem dX5_takeIn_67 : decode cX5_takeIn 67 = .ok (.isub, 1) := by decide +kernel
theorem dX5_takeIn_68 : decode cX5_takeIn 68 = .ok (.i2l, 1) := by decide +kernel
theorem dX5_takeIn_69 : decode cX5_takeIn 69 = .ok (.ladd, 1) := by decide +kernel
theorem dX5_takeIn_70 : decode cX5_takeIn 70 = .ok (.putfield 68, 3) := by decide +kernel
theorem dX5_takeIn_73 : decode cX5_takeIn 73 = .ok (.aload 4, 2) := by decide +kernel
theorem dX5_takeIn_75 : decode cX5_takeIn 75 = .ok (.iload_n 2, 1) := by decide +kernel
theorem dX5_takeIn_76 : decode cX5_takeIn 76 = .ok (.ifCond .eq 8, 3) := by decide +kernel
theorem dX5_takeIn_79 : decode cX5_takeIn 79 = .ok (.bipush 111, 2) := by decide +kernel
theorem dX5_takeIn_81 : decode cX5_takeIn 81 = .ok (.goto 5, 3) := by decide +kernel
theorem dX5_takeIn_84 : decode cX5_takeIn 84 = .ok (.bipush 107, 2) := by decide +kernel
theorem dX5_takeIn_86 : decode cX5_takeIn 86 = .ok (.putfield 160, 3) := by decide +kernel
theorem dX5_takeIn_89 : decode cX5_takeIn 89 = .ok (.aload 4, 2) := by decide +kernel
theorem dX5_takeIn_91 : decode cX5_takeIn 91 = .ok (.iconst 0, 1) := by decide +kernel
theorem dX5_takeIn_92 : decode cX5_takeIn 92 = .ok (.putfield 251, 3) := by decide +kernel
theorem dX5_takeIn_95 : decode cX5_takeIn 95 = .ok (.aload 4, 2) := by decide +kernel
theorem dX5_takeIn_97 : decode cX5_takeIn 97 = .ok (.iconst 0, 1) := by decide +kernel
theorem dX5_takeIn_98 : decode cX5_takeIn 98 = .ok (.putfield 254, 3) := by decide +kernel
theorem dX5_takeIn_101 : decode cX5_takeIn 101 = .ok (.iload_n 3, 1) := by decide +kernel
theorem dX5_takeIn_102 : decode cX5_takeIn 102 = .ok (.ifCond .eq 8, 3) := by decide +kernel
theorem dX5_takeIn_105 : decode cX5_takeIn 105 = .ok (.aload_n 0, 1) := by decide +kernel
theorem dX5_takeIn_106 : decode cX5_takeIn 106 = .ok (.iload_n 1, 1) := by decide +kernel
theorem dX5_takeIn_107 : decode cX5_takeIn 107 = .ok (.invokevirtual 245, 3) := by decide +kernel
theorem dX5_takeIn_110 : decode cX5_takeIn 110 = .ok (.iload 7, 2) := by decide +kernel
theorem dX5_takeIn_112 : decode cX5_takeIn 112 = .ok (.ireturn, 1) := by decide +kernel
theorem dX5_isFitToJump_0 : decode cX5_isFitToJump 0 = .ok (.aload_n 0, 1) := by decide +kernel
theorem dX5_isFitToJump_1 : decode cX5_isFitToJump 1 = .ok (.aload_n 0, 1) := by decide +kernel
theorem dX5_isFitToJump_2 : decode cX5_isFitToJump 2 = .ok (.getfield 19, 3) := by decide +kernel
theorem dX5_isFitToJump_5 : decode cX5_isFitToJump 5 = .ok (.iload_n 1, 1) := by decide +kernel
theorem dX5_isFitToJump_6 : decode cX5_isFitToJump 6 = .ok (.aaload, 1) := by decide +kernel
theorem dX5_isFitToJump_7 : decode cX5_isFitToJump 7 = .ok (.invokevirtual 262, 3) := by decide +kernel
theorem dX5_isFitToJump_10 : decode cX5_isFitToJump 10 = .ok (.ifCond .ne 15, 3) := by decide +kernel
theorem dX5_isFitToJump_13 : decode cX5_isFitToJump 13 = .ok (.aload_n 0, 1) := by decide +kernel
theorem dX5_isFitToJump_14 : decode cX5_isFitToJump 14 = .ok (.iload_n 1, 1) := by decide +kernel
theorem dX5_isFitToJump_15 : decode cX5_isFitToJump 15 = .ok (.invokevirtual 266, 3) := by decide +kernel
theorem dX5_isFitToJump_18 : decode cX5_isFitToJump 18 = .ok (.ifCond .ne 7, 3) := by decide +kernel
theorem dX5_isFitToJump_21 : decode cX5_isFitToJump 21 = .ok (.iconst 1, 1) := by decide +kernel
theorem dX5_isFitToJump_22 : decode cX5_isFitToJump 22 = .ok (.goto 4, 3) := by decide +kernel
theorem dX5_isFitToJump_25 : decode cX5_isFitToJump 25 = .ok (.iconst 0, 1) := by decide +kernel
theorem dX5_isFitToJump_26 : decode cX5_isFitToJump 26 = .ok (.ireturn, 1) := by decide +kernel
theorem dX5_isTooOld_0 : decode cX5_isTooOld 0 = .ok (.aload_n 0, 1) := by decide +kernel
theorem dX5_isTooOld_1 : decode cX5_isTooOld 1 = .ok (.getfield 65, 3) := by decide +kernel
theorem dX5_isTooOld_4 : decode cX5_isTooOld 4 = .ok (.aload_n 1, 1) := by decide +kernel
theorem dX5_isTooOld_5 : decode cX5_isTooOld 5 = .ok (.getfield 269, 3) := by decide +kernel
theorem dX5_isTooOld_8 : decode cX5_isTooOld 8 = .ok (.isub, 1) := by decide +kernel
theorem dX5_isTooOld_9 : decode cX5_isTooOld 9 = .ok (.aload_n 1, 1) := by decide +kernel
theorem dX5_isTooOld_10 : decode cX5_isTooOld 10 = .ok (.getfield 272, 3) := by decide +kernel
theorem dX5_isTooOld_13 : decode cX5_isTooOld 13 = .ok (.if_icmp .le 5, 3) := by decide +kernel
theorem dX5_isTooOld_16 : decode cX5_isTooOld 16 = .ok (.iconst 1, 1) := by decide +kernel
theorem dX5_isTooOld_17 : decode cX5_isTooOld 17 = .ok (.ireturn, 1) := by decide +kernel
theorem dX5_isTooOld_18 : decode cX5_isTooOld 18 = .ok (.aload_n 1, 1) := by decide +kernel
theorem dX5_isTooOld_19 : decode cX5_isTooOld 19 = .ok (.getfield 160, 3) := by decide +kernel
theorem dX5_isTooOld_22 : decode cX5_isTooOld 22 = .ok (.bipush 111, 2) := by decide +kernel
theorem dX5_isTooOld_24 : decode cX5_isTooOld 24 = .ok (.if_icmp .eq 16, 3) := by decide +kernel
theorem dX5_isTooOld_27 : decode cX5_isTooOld 27 = .ok (.aload_n 1, 1) := by decide +kernel
theorem dX5_isTooOld_28 : decode cX5_isTooOld 28 = .ok (.getfield 160, 3) := by decide +kernel
theorem dX5_isTooOld_31 : decode cX5_isTooOld 31 = .ok (.bipush 112, 2) := by decide +kernel
theorem dX5_isTooOld_33 : decode cX5_isTooOld 33 = .ok (.if_icmp .eq 7, 3) := by decide +kernel
theorem dX5_isTooOld_36 : decode cX5_isTooOld 36 = .ok (.iconst 1, 1) := by decide +kernel
theorem dX5_isTooOld_37 : decode cX5_isTooOld 37 = .ok (.goto 4, 3) := by decide +kernel
theorem dX5_isTooOld_40 : decode cX5_isTooOld 40 = .ok (.iconst 0, 1) := by decide +kernel
theorem dX5_isTooOld_41 : decode cX5_isTooOld 41 = .ok (.istore_n 2, 1) := by decide +kernel
theorem dX5_isTooOld_42 : decode cX5_isTooOld 42 = .ok (.aload_n 1, 1) := by decide +kernel
theorem dX5_isTooOld_43 : decode cX5_isTooOld 43 = .ok (.getfield 275, 3) := by decide +kernel
theorem dX5_isTooOld_46 : decode cX5_isTooOld 46 = .ok (.bipush 114, 2) := by decide +kernel
theorem dX5_isTooOld_48 : decode cX5_isTooOld 48 = .ok (.if_icmp .ne 19, 3) := by decide +kernel
theorem dX5_isTooOld_51 : decode cX5_isTooOld 51 = .ok (.iload_n 2, 1) := by decide +kernel
theorem dX5_isTooOld_52 : decode cX5_isTooOld 52 = .ok (.ifCond .eq 15, 3) := by decide +kernel
theorem dX5_isTooOld_55 : decode cX5_isTooOld 55 = .ok (.aload_n 0, 1) := by decide +kernel
theorem dX5_isTooOld_56 : decode cX5_isTooOld 56 = .ok (.aload_n 1, 1) := by decide +kernel
theorem dX5_isTooOld_57 : decode cX5_isTooOld 57 = .ok (.invokevirtual 278, 3) := by decide +kernel
theorem dX5_isTooOld_60 : decode cX5_isTooOld 60 = .ok (.ifCond .ge 7, 3) := by decide +kernel
theorem dX5_isTooOld_63 : decode cX5_isTooOld 63 = .ok (.iconst 1, 1) := by decide +kernel
theorem dX5_isTooOld_64 : decode cX5_isTooOld 64 = .ok (.goto 4, 3) := by decide +kernel
theorem dX5_isTooOld_67 : decode cX5_isTooOld 67 = .ok (.iconst 0, 1) := by decide +kernel
theorem dX5_isTooOld_68 : decode cX5_isTooOld 68 = .ok (.ireturn, 1) := by decide +kernel
theorem dX5_daysLeft_0 : decode cX5_daysLeft 0 = .ok (.aload_n 0, 1) := by decide +kernel
theorem dX5_daysLeft_1 : decode cX5_daysLeft 1 = .ok (.getfield 38, 3) := by decide +kernel
theorem dX5_daysLeft_4 : decode cX5_daysLeft 4 = .ok (.aload_n 1, 1) := by decide +kernel
theorem dX5_daysLeft_5 : decode cX5_daysLeft 5 = .ok (.getfield 186, 3) := by decide +kernel
theorem dX5_daysLeft_8 : decode cX5_daysLeft 8 = .ok (.invokevirtual 182, 3) := by decide +kernel
theorem dX5_daysLeft_11 : decode cX5_daysLeft 11 = .ok (.ifCond .ne 5, 3) := by decide +kernel
theorem dX5_daysLeft_14 : decode cX5_daysLeft 14 = .ok (.iconst 0, 1) := by decide +kernel
theorem dX5_daysLeft_15 : decode cX5_daysLeft 15 = .ok (.ireturn, 1) := by decide +kernel
theorem dX5_daysLeft_16 : decode cX5_daysLeft 16 = .ok (.aload_n 0, 1) := by decide +kernel
theorem dX5_daysLeft_17 : decode cX5_daysLeft 17 = .ok (.getfield 46, 3) := by decide +kernel
theorem dX5_daysLeft_20 : decode cX5_daysLeft 20 = .ok (.aload_n 0, 1) := by decide +kernel
theorem dX5_daysLeft_21 : decode cX5_daysLeft 21 = .ok (.getfield 65, 3) := by decide +kernel
theorem dX5_daysLeft_24 : decode cX5_daysLeft 24 = .ok (.aload_n 0, 1) := by decide +kernel
theorem dX5_daysLeft_25 : decode cX5_daysLeft 25 = .ok (.getfield 38, 3) := by decide +kernel
theorem dX5_daysLeft_28 : decode cX5_daysLeft 28 = .ok (.getfield 281, 3) := by decide +kernel
theorem dX5_daysLeft_31 : decode cX5_daysLeft 31 = .ok (.aload_n 1, 1) := by decide +kernel
theorem dX5_daysLeft_32 : decode cX5_daysLeft 32 = .ok (.getfield 186, 3) := by decide +kernel
theorem dX5_daysLeft_35 : decode cX5_daysLeft 35 = .ok (.iaload, 1) := by decide +kernel
theorem dX5_daysLeft_36 : decode cX5_daysLeft 36 = .ok (.isub, 1) := by decide +kernel
theorem dX5_daysLeft_37 : decode cX5_daysLeft 37 = .ok (.isub, 1) := by decide +kernel
theorem dX5_daysLeft_38 : decode cX5_daysLeft 38 = .ok (.ireturn, 1) := by decide +kernel
theorem dX5_isOnGround_0 : decode cX5_isOnGround 0 = .ok (.iconst 0, 1) := by decide +kernel
theorem dX5_isOnGround_1 : decode cX5_isOnGround 1 = .ok (.istore_n 2, 1) := by decide +kernel
theorem dX5_isOnGround_2 : decode cX5_isOnGround 2 = .ok (.iload_n 2, 1) := by decide +kernel
theorem dX5_isOnGround_3 : decode cX5_isOnGround 3 = .ok (.aload_n 0, 1) := by decide +kernel
theorem dX5_isOnGround_4 : decode cX5_isOnGround 4 = .ok (.getfield 59, 3) := by decide +kernel
theorem dX5_isOnGround_7 : decode cX5_isOnGround 7 = .ok (.if_icmp .ge 39, 3) := by decide +kernel
theorem dX5_isOnGround_10 : decode cX5_isOnGround 10 = .ok (.aload_n 0, 1) := by decide +kernel
theorem dX5_isOnGround_11 : decode cX5_isOnGround 11 = .ok (.aload_n 0, 1) := by decide +kernel
theorem dX5_isOnGround_12 : decode cX5_isOnGround 12 = .ok (.getfield 31, 3) := by decide +kernel
theorem dX5_isOnGround_15 : decode cX5_isOnGround 15 = .ok (.iload_n 2, 1) := by decide +kernel
theorem dX5_isOnGround_16 : decode cX5_isOnGround 16 = .ok (.aaload, 1) := by decide +kernel
theorem dX5_isOnGround_17 : decode cX5_isOnGround 17 = .ok (.iload_n 1, 1) := by decide +kernel
theorem dX5_isOnGround_18 : decode cX5_isOnGround 18 = .ok (.invokevirtual 284, 3) := by decide +kernel
theorem dX5_isOnGround_21 : decode cX5_isOnGround 21 = .ok (.ifCond .eq 19, 3) := by decide +kernel
theorem dX5_isOnGround_24 : decode cX5_isOnGround 24 = .ok (.aload_n 0, 1) := by decide +kernel
theorem dX5_isOnGround_25 : decode cX5_isOnGround 25 = .ok (.aload_n 0, 1) := by decide +kernel
theorem dX5_isOnGround_26 : decode cX5_isOnGround 26 = .ok (.getfield 31, 3) := by decide +kernel
theorem dX5_isOnGround_29 : decode cX5_isOnGround 29 = .ok (.iload_n 2, 1) := by decide +kernel
theorem dX5_isOnGround_30 : decode cX5_isOnGround 30 = .ok (.aaload, 1) := by decide +kernel
theorem dX5_isOnGround_31 : decode cX5_isOnGround 31 = .ok (.iload_n 1, 1) := by decide +kernel
theorem dX5_isOnGround_32 : decode cX5_isOnGround 32 = .ok (.invokevirtual 288, 3) := by decide +kernel
theorem dX5_isOnGround_35 : decode cX5_isOnGround 35 = .ok (.ifCond .ne 5, 3) := by decide +kernel
theorem dX5_isOnGround_38 : decode cX5_isOnGround 38 = .ok (.iconst 1, 1) := by decide +kernel
theorem dX5_isOnGround_39 : decode cX5_isOnGround 39 = .ok (.ireturn, 1) := by decide +kernel
theorem dX5_isOnGround_40 : decode cX5_isOnGround 40 = .ok (.iinc 2 1, 3) := by decide +kernel
theorem dX5_isOnGround_43 : decode cX5_isOnGround 43 = .ok (.goto (-41), 3) := by decide +kernel
theorem dX5_isOnGround_46 : decode cX5_isOnGround 46 = .ok (.iconst 0, 1) := by decide +kernel
theorem dX5_isOnGround_47 : decode cX5_isOnGround 47 = .ok (.ireturn, 1) := by decide +kernel
theorem dX5_countGroundedBy_0 : decode cX5_countGroundedBy 0 = .ok (.iconst 0, 1) := by decide +kernel
theorem dX5_countGroundedBy_1 : decode cX5_countGroundedBy 1 = .ok (.istore_n 2, 1) := by decide +kernel
theorem dX5_countGroundedBy_2 : decode cX5_countGroundedBy 2 = .ok (.iconst 0, 1) := by decide +kernel
theorem dX5_countGroundedBy_3 : decode cX5_countGroundedBy 3 = .ok (.istore_n 3, 1) := by decide +kernel
theorem dX5_countGroundedBy_4 : decode cX5_countGroundedBy 4 = .ok (.iload_n 3, 1) := by decide +kernel
theorem dX5_countGroundedBy_5 : decode cX5_countGroundedBy 5 = .ok (.aload_n 0, 1) := by decide +kernel
theorem dX5_countGroundedBy_6 : decode cX5_countGroundedBy 6 = .ok (.getfield 53, 3) := by decide +kernel
theorem dX5_countGroundedBy_9 : decode cX5_countGroundedBy 9 = .ok (.if_icmp .ge 40, 3) := by decide +kernel
theorem dX5_countGroundedBy_12 : decode cX5_countGroundedBy 12 = .ok (.aload_n 0, 1) := by decide +kernel
theorem dX5_countGroundedBy_13 : decode cX5_countGroundedBy 13 = .ok (.aload_n 0, 1) := by decide +kernel
theorem dX5_countGroundedBy_14 : decode cX5_countGroundedBy 14 = .ok (.getfield 31, 3) := by decide +kernel
theorem dX5_countGroundedBy_17 : decode cX5_countGroundedBy 17 = .ok (.iload_n 1, 1) := by decide +kernel
theorem dX5_countGroundedBy_18 : decode cX5_countGroundedBy 18 = .ok (.aaload, 1) := by decide +kernel
theorem dX5_countGroundedBy_19 : decode cX5_countGroundedBy 19 = .ok (.iload_n 3, 1) := by decide +kernel
theorem dX5_countGroundedBy_20 : decode cX5_countGroundedBy 20 = .ok (.invokevirtual 284, 3) := by decide +kernel
theorem dX5_countGroundedBy_23 : decode cX5_countGroundedBy 23 = .ok (.ifCond .eq 20, 3) := by decide +kernel
theorem dX5_countGroundedBy_26 : decode cX5_countGroundedBy 26 = .ok (.aload_n 0, 1) := by decide +kernel
theorem dX5_countGroundedBy_27 : decode cX5_countGroundedBy 27 = .ok (.aload_n 0, 1) := by decide +kernel
theorem dX5_countGroundedBy_28 : decode cX5_countGroundedBy 28 = .ok (.getfield 31, 3) := by decide +kernel
theorem dX5_countGroundedBy_31 : decode cX5_countGroundedBy 31 = .ok (.iload_n 1, 1) := by decide +kernel
theorem dX5_countGroundedBy_32 : decode cX5_countGroundedBy 32 = .ok (.aaload, 1) := by decide +kernel
theorem dX5_countGroundedBy_33 : decode cX5_countGroundedBy 33 = .ok (.iload_n 3, 1) := by decide +kernel
theorem dX5_countGroundedBy_34 : decode cX5_countGroundedBy 34 = .ok (.invokevirtual 288, 3) := by decide +kernel
theorem dX5_countGroundedBy_37 : decode cX5_countGroundedBy 37 = .ok (.ifCond .ne 6, 3) := by decide +kernel
theorem dX5_countGroundedBy_40 : decode cX5_countGroundedBy 40 = .ok (.iinc 2 1, 3) := by decide +kernel
theorem dX5_countGroundedBy_43 : decode cX5_countGroundedBy 43 = .ok (.iinc 3 1, 3) := by decide +kernel
theorem dX5_countGroundedBy_46 : decode cX5_countGroundedBy 46 = .ok (.goto (-42), 3) := by decide +kernel
theorem dX5_countGroundedBy_49 : decode cX5_countGroundedBy 49 = .ok (.iload_n 2, 1) := by decide +kernel
theorem dX5_countGroundedBy_50 : decode cX5_countGroundedBy 50 = .ok (.ireturn, 1) := by decide +kernel
theorem dX5_isReachedBy_0 : decode cX5_isReachedBy 0 = .ok (.aload_n 1, 1) := by decide +kernel
theorem dX5_isReachedBy_1 : decode cX5_isReachedBy 1 = .ok (.getfield 229, 3) := by decide +kernel
theorem dX5_isReachedBy_4 : decode cX5_isReachedBy 4 = .ok (.ifCond .eq 5, 3) := by decide +kernel
theorem dX5_isReachedBy_7 : decode cX5_isReachedBy 7 = .ok (.iconst 0, 1) := by decide +kernel
theorem dX5_isReachedBy_8 : decode cX5_isReachedBy 8 = .ok (.ireturn, 1) := by decide +kernel
theorem dX5_isReachedBy_9 : decode cX5_isReachedBy 9 = .ok (.aload_n 1, 1) := by decide +kernel
theorem dX5_isReachedBy_10 : decode cX5_isReachedBy 10 = .ok (.getfield 232, 3) := by decide +kernel
theorem dX5_isReachedBy_13 : decode cX5_isReachedBy 13 = .ok (.iload_n 2, 1) := by decide +kernel
theorem dX5_isReachedBy_14 : decode cX5_isReachedBy 14 = .ok (.if_icmp .ne 5, 3) := by decide +kernel
theorem dX5_isReachedBy_17 : decode cX5_isReachedBy 17 = .ok (.iconst 1, 1) := by decide +kernel
theorem dX5_isReachedBy_18 : decode cX5_isReachedBy 18 = .ok (.ireturn, 1) := by decide +kernel
theorem dX5_isReachedBy_19 : decode cX5_isReachedBy 19 = .ok (.aload_n 0, 1) := by decide +kernel
theorem dX5_isReachedBy_20 : decode cX5_isReachedBy 20 = .ok (.getfield 19, 3) := by decide +kernel
theorem dX5_isReachedBy_23 : decode cX5_isReachedBy 23 = .ok (.aload_n 1, 1) := by decide +kernel
theorem dX5_isReachedBy_24 : decode cX5_isReachedBy 24 = .ok (.getfield 232, 3) := by decide +kernel
theorem dX5_isReachedBy_27 : decode cX5_isReachedBy 27 = .ok (.aaload, 1) := by decide +kernel
theorem dX5_isReachedBy_28 : decode cX5_isReachedBy 28 = .ok (.astore_n 3, 1) := by decide +kernel
theorem dX5_isReachedBy_29 : decode cX5_isReachedBy 29 = .ok (.aload_n 0, 1) := by decide +kernel
theorem dX5_isReachedBy_30 : decode cX5_isReachedBy 30 = .ok (.getfield 19, 3) := by decide +kernel
theorem dX5_isReachedBy_33 : decode cX5_isReachedBy 33 = .ok (.iload_n 2, 1) := by decide +kernel
theorem dX5_isReachedBy_34 : decode cX5_isReachedBy 34 = .ok (.aaload, 1) := by decide +kernel
theorem dX5_isReachedBy_35 : decode cX5_isReachedBy 35 = .ok (.astore 4, 2) := by decide +kernel
theorem dX5_isReachedBy_37 : decode cX5_isReachedBy 37 = .ok (.aload_n 1, 1) := by decide +kernel
theorem dX5_isReachedBy_38 : decode cX5_isReachedBy 38 = .ok (.iconst 1, 1) := by decide +kernel
theorem dX5_isReachedBy_39 : decode cX5_isReachedBy 39 = .ok (.bipush 108, 2) := by decide +kernel
theorem dX5_isReachedBy_41 : decode cX5_isReachedBy 41 = .ok (.invokevirtual 291, 3) := by decide +kernel
theorem dX5_isReachedBy_44 : decode cX5_isReachedBy 44 = .ok (.ifCond .eq 17, 3) := by decide +kernel
theorem dX5_isReachedBy_47 : decode cX5_isReachedBy 47 = .ok (.aload 4, 2) := by decide +kernel
theorem dX5_isReachedBy_49 : decode cX5_isReachedBy 49 = .ok (.getfield 295, 3) := by decide +kernel
theorem dX5_isReachedBy_52 : decode cX5_isReachedBy 52 = .ok (.aload_n 3, 1) := by decide +kernel
theorem dX5_isReachedBy_53 : decode cX5_isReachedBy 53 = .ok (.getfield 295, 3) := by decide +kernel
theorem dX5_isReachedBy_56 : decode cX5_isReachedBy 56 = .ok (.if_icmp .ne 5, 3) := by decide +kernel
theorem dX5_isReachedBy_59 : decode cX5_isReachedBy 59 = .ok (.iconst 1, 1) := by decide +kernel
theorem dX5_isReachedBy_60 : decode cX5_isReachedBy 60 = .ok (.ireturn, 1) := by decide +kernel
theorem dX5_isReachedBy_61 : decode cX5_isReachedBy 61 = .ok (.aload_n 1, 1) := by decide +kernel
theorem dX5_isReachedBy_62 : decode cX5_isReachedBy 62 = .ok (.iconst 4, 1) := by decide +kernel
theorem dX5_isReachedBy_63 : decode cX5_isReachedBy 63 = .ok (.bipush 99, 2) := by decide +kernel
theorem dX5_isReachedBy_65 : decode cX5_isReachedBy 65 = .ok (.invokevirtual 291, 3) := by decide +kernel
theorem dX5_isReachedBy_68 : decode cX5_isReachedBy 68 = .ok (.ifCond .eq 17, 3) := by decide +kernel
theorem dX5_isReachedBy_71 : decode cX5_isReachedBy 71 = .ok (.aload 4, 2) := by decide +kernel
theorem dX5_isReachedBy_73 : decode cX5_isReachedBy 73 = .ok (.getfield 298, 3) := by decide +kernel
theorem dX5_isReachedBy_76 : decode cX5_isReachedBy 76 = .ok (.aload_n 3, 1) := by decide +kernel
theorem dX5_isReachedBy_77 : decode cX5_isReachedBy 77 = .ok (.getfield 298, 3) := by decide +kernel
theorem dX5_isReachedBy_80 : decode cX5_isReachedBy 80 = .ok (.if_icmp .ne 5, 3) := by decide +kernel
theorem dX5_isReachedBy_83 : decode cX5_isReachedBy 83 = .ok (.iconst 1, 1) := by decide +kernel
theorem dX5_isReachedBy_84 : decode cX5_isReachedBy 84 = .ok (.ireturn, 1) := by decide +kernel
theorem dX5_isReachedBy_85 : decode cX5_isReachedBy 85 = .ok (.aload_n 1, 1) := by decide +kernel
theorem dX5_isReachedBy_86 : decode cX5_isReachedBy 86 = .ok (.getfield 301, 3) := by decide +kernel
theorem dX5_isReachedBy_89 : decode cX5_isReachedBy 89 = .ok (.istore 5, 2) := by decide +kernel
theorem dX5_isReachedBy_91 : decode cX5_isReachedBy 91 = .ok (.aload_n 0, 1) := by decide +kernel
theorem dX5_isReachedBy_92 : decode cX5_isReachedBy 92 = .ok (.getfield 38, 3) := by decide +kernel
theorem dX5_isReachedBy_95 : decode cX5_isReachedBy 95 = .ok (.iload 5, 2) := by decide +kernel
theorem dX5_isReachedBy_97 : decode cX5_isReachedBy 97 = .ok (.invokevirtual 182, 3) := by decide +kernel
theorem dX5_isReachedBy_100 : decode cX5_isReachedBy 100 = .ok (.ifCond .ne 5, 3) := by decide +kernel
theorem dX5_isReachedBy_103 : decode cX5_isReachedBy 103 = .ok (.iconst 0, 1) := by decide +kernel
theorem dX5_isReachedBy_104 : decode cX5_isReachedBy 104 = .ok (.ireturn, 1) := by decide +kernel
theorem dX5_isReachedBy_105 : decode cX5_isReachedBy 105 = .ok (.aload_n 1, 1) := by decide +kernel
theorem dX5_isReachedBy_106 : decode cX5_isReachedBy 106 = .ok (.iconst 2, 1) := by decide +kernel
theorem dX5_isReachedBy_107 : decode cX5_isReachedBy 107 = .ok (.bipush 104, 2) := by decide +kernel
theorem dX5_isReachedBy_109 : decode cX5_isReachedBy 109 = .ok (.invokevirtual 291, 3) := by decide +kernel
theorem dX5_isReachedBy_112 : decode cX5_isReachedBy 112 = .ok (.ifCond .eq 27, 3) := by decide +kernel
theorem dX5_isReachedBy_115 : decode cX5_isReachedBy 115 = .ok (.aload 4, 2) := by decide +kernel
theorem dX5_isReachedBy_117 : decode cX5_isReachedBy 117 = .ok (.getfield 192, 3) := by decide +kernel
theorem dX5_isReachedBy_120 : decode cX5_isReachedBy 120 = .ok (.aload_n 0, 1) := by decide +kernel
theorem dX5_isReachedBy_121 : decode cX5_isReachedBy 121 = .ok (.getfield 38, 3) := by decide +kernel
theorem dX5_isReachedBy_124 : decode cX5_isReachedBy 124 = .ok (.getfield 304, 3) := by decide +kernel
theorem dX5_isReachedBy_127 : decode cX5_isReachedBy 127 = .ok (.iload 5, 2) := by decide +kernel
theorem dX5_isReachedBy_129 : decode cX5_isReachedBy 129 = .ok (.iaload, 1) := by decide +kernel
theorem dX5_isReachedBy_130 : decode cX5_isReachedBy 130 = .ok (.ishr, 1) := by decide +kernel
theorem dX5_isReachedBy_131 : decode cX5_isReachedBy 131 = .ok (.iconst 1, 1) := by decide +kernel
theorem dX5_isReachedBy_132 : decode cX5_isReachedBy 132 = .ok (.iand, 1) := by decide +kernel
theorem dX5_isReachedBy_133 : decode cX5_isReachedBy 133 = .ok (.iconst 1, 1) := by decide +kernel
theorem dX5_isReachedBy_134 : decode cX5_isReachedBy 134 = .ok (.if_icmp .ne 5, 3) := by decide +kernel
theorem dX5_isReachedBy_137 : decode cX5_isReachedBy 137 = .ok (.iconst 1, 1) := by decide +kernel
theorem dX5_isReachedBy_138 : decode cX5_isReachedBy 138 = .ok (.ireturn, 1) := by decide +kernel
theorem dX5_isReachedBy_139 : decode cX5_isReachedBy 139 = .ok (.aload_n 1, 1) := by decide +kernel
theorem dX5_isReachedBy_140 : decode cX5_isReachedBy 140 = .ok (.iconst 3, 1) := by decide +kernel
theorem dX5_isReachedBy_141 : decode cX5_isReachedBy 141 = .ok (.bipush 114, 2) := by decide +kernel
theorem dX5_isReachedBy_143 : decode cX5_isReachedBy 143 = .ok (.invokevirtual 291, 3) := by decide +kernel
theorem dX5_isReachedBy_146 : decode cX5_isReachedBy 146 = .ok (.ifCond .eq 27, 3) := by decide +kernel
theorem dX5_isReachedBy_149 : decode cX5_isReachedBy 149 = .ok (.aload 4, 2) := by decide +kernel
theorem dX5_isReachedBy_151 : decode cX5_isReachedBy 151 = .ok (.getfield 195, 3) := by decide +kernel
theorem dX5_isReachedBy_154 : decode cX5_isReachedBy 154 = .ok (.aload_n 0, 1) := by decide +kernel
theorem dX5_isReachedBy_155 : decode cX5_isReachedBy 155 = .ok (.getfield 38, 3) := by decide +kernel
theorem dX5_isReachedBy_158 : decode cX5_isReachedBy 158 = .ok (.iload 5, 2) := by decide +kernel
theorem dX5_isReachedBy_160 : decode cX5_isReachedBy 160 = .ok (.invokevirtual 198, 3) := by decide +kernel
theorem dX5_isReachedBy_163 : decode cX5_isReachedBy 163 = .ok (.land, 1) := by decide +kernel
theorem dX5_isReachedBy_164 : decode cX5_isReachedBy 164 = .ok (.lconst 0, 1) := by decide +kernel
theorem dX5_isReachedBy_165 : decode cX5_isReachedBy 165 = .ok (.lcmp, 1) := by decide +kernel
theorem dX5_isReachedBy_166 : decode cX5_isReachedBy 166 = .ok (.ifCond .eq 7, 3) := by decide +kernel
theorem dX5_isReachedBy_169 : decode cX5_isReachedBy 169 = .ok (.iconst 1, 1) := by decide +kernel
theorem dX5_isReachedBy_170 : decode cX5_isReachedBy 170 = .ok (.goto 4, 3) := by decide +kernel
theorem dX5_isReachedBy_173 : decode cX5_isReachedBy 173 = .ok (.iconst 0, 1) := by decide +kernel
theorem dX5_isReachedBy_174 : decode cX5_isReachedBy 174 = .ok (.ireturn, 1) := by decide +kernel
theorem dX5_isFreeOf_0 : decode cX5_isFreeOf 0 = .ok (.aload_n 1, 1) := by decide +kernel
theorem dX5_isFreeOf_1 : decode cX5_isFreeOf 1 = .ok (.getfield 232, 3) := by decide +kernel
theorem dX5_isFreeOf_4 : decode cX5_isFreeOf 4 = .ok (.iload_n 2, 1) := by decide +kernel
theorem dX5_isFreeOf_5 : decode cX5_isFreeOf 5 = .ok (.if_icmp .ne 10, 3) := by decide +kernel
theorem dX5_isFreeOf_8 : decode cX5_isFreeOf 8 = .ok (.aload_n 1, 1) := by decide +kernel
theorem dX5_isFreeOf_9 : decode cX5_isFreeOf 9 = .ok (.getfield 235, 3) := by decide +kernel
theorem dX5_isFreeOf_12 : decode cX5_isFreeOf 12 = .ok (.goto 7, 3) := by decide +kernel
theorem dX5_isFreeOf_15 : decode cX5_isFreeOf 15 = .ok (.aload_n 1, 1) := by decide +kernel
theorem dX5_isFreeOf_16 : decode cX5_isFreeOf 16 = .ok (.getfield 307, 3) := by decide +kernel
theorem dX5_isFreeOf_19 : decode cX5_isFreeOf 19 = .ok (.istore_n 3, 1) := by decide +kernel
theorem dX5_isFreeOf_20 : decode cX5_isFreeOf 20 = .ok (.iload_n 3, 1) := by decide +kernel
theorem dX5_isFreeOf_21 : decode cX5_isFreeOf 21 = .ok (.ifCond .le 20, 3) := by decide +kernel
theorem dX5_isFreeOf_24 : decode cX5_isFreeOf 24 = .ok (.aload_n 0, 1) := by decide +kernel
theorem dX5_isFreeOf_25 : decode cX5_isFreeOf 25 = .ok (.getfield 19, 3) := by decide +kernel
theorem dX5_isFreeOf_28 : decode cX5_isFreeOf 28 = .ok (.iload_n 2, 1) := by decide +kernel
theorem dX5_isFreeOf_29 : decode cX5_isFreeOf 29 = .ok (.aaload, 1) := by decide +kernel
theorem dX5_isFreeOf_30 : decode cX5_isFreeOf 30 = .ok (.getfield 310, 3) := by decide +kernel
theorem dX5_isFreeOf_33 : decode cX5_isFreeOf 33 = .ok (.iload_n 3, 1) := by decide +kernel
theorem dX5_isFreeOf_34 : decode cX5_isFreeOf 34 = .ok (.if_icmp .le 7, 3) := by decide +kernel
theorem dX5_isFreeOf_37 : decode cX5_isFreeOf 37 = .ok (.iconst 1, 1) := by decide +kernel
theorem dX5_isFreeOf_38 : decode cX5_isFreeOf 38 = .ok (.goto 4, 3) := by decide +kernel
theorem dX5_isFreeOf_41 : decode cX5_isFreeOf 41 = .ok (.iconst 0, 1) := by decide +kernel
theorem dX5_isFreeOf_42 : decode cX5_isFreeOf 42 = .ok (.ireturn, 1) := by decide +kernel
theorem dX5_countSharers_0 : decode cX5_countSharers 0 = .ok (.iconst 0, 1) := by decide +kernel
theorem dX5_countSharers_1 : decode cX5_countSharers 1 = .ok (.istore_n 2, 1) := by decide +kernel
theorem dX5_countSharers_2 : decode cX5_countSharers 2 = .ok (.iconst 0, 1) := by decide +kernel
theorem dX5_countSharers_3 : decode cX5_countSharers 3 = .ok (.istore_n 3, 1) := by decide +kernel
theorem dX5_countSharers_4 : decode cX5_countSharers 4 = .ok (.iload_n 3, 1) := by decide +kernel
theorem dX5_countSharers_5 : decode cX5_countSharers 5 = .ok (.aload_n 0, 1) := by decide +kernel
theorem dX5_countSharers_6 : decode cX5_countSharers 6 = .ok (.getfield 53, 3) := by decide +kernel
theorem dX5_countSharers_9 : decode cX5_countSharers 9 = .ok (.if_icmp .ge 39, 3) := by decide +kernel
theorem dX5_countSharers_12 : decode cX5_countSharers 12 = .ok (.iload_n 3, 1) := by decide +kernel
theorem dX5_countSharers_13 : decode cX5_countSharers 13 = .ok (.iload_n 1, 1) := by decide +kernel
theorem dX5_countSharers_14 : decode cX5_countSharers 14 = .ok (.if_icmp .eq 28, 3) := by decide +kernel
theorem dX5_countSharers_17 : decode cX5_countSharers 17 = .ok (.aload_n 0, 1) := by decide +kernel
theorem dX5_countSharers_18 : decode cX5_countSharers 18 = .ok (.getfield 19, 3) := by decide +kernel
theorem dX5_countSharers_21 : decode cX5_countSharers 21 = .ok (.iload_n 3, 1) := by decide +kernel
theorem dX5_countSharers_22 : decode cX5_countSharers 22 = .ok (.aaload, 1) := by decide +kernel
theorem dX5_countSharers_23 : decode cX5_countSharers 23 = .ok (.getfield 192, 3) := by decide +kernel
theorem dX5_countSharers_26 : decode cX5_countSharers 26 = .ok (.aload_n 0, 1) := by decide +kernel
theorem dX5_countSharers_27 : decode cX5_countSharers 27 = .ok (.getfield 19, 3) := by decide +kernel
theorem dX5_countSharers_30 : decode cX5_countSharers 30 = .ok (.iload_n 1, 1) := by decide +kernel
theorem dX5_countSharers_31 : decode cX5_countSharers 31 = .ok (.aaload, 1) := by decide +kernel
theorem dX5_countSharers_32 : decode cX5_countSharers 32 = .ok (.getfield 192, 3) := by decide +kernel
theorem dX5_countSharers_35 : decode cX5_countSharers 35 = .ok (.iand, 1) := by decide +kernel
theorem dX5_countSharers_36 : decode cX5_countSharers 36 = .ok (.ifCond .eq 6, 3) := by decide +kernel
theorem dX5_countSharers_39 : decode cX5_countSharers 39 = .ok (.iinc 2 1, 3) := by decide +kernel
theorem dX5_countSharers_42 : decode cX5_countSharers 42 = .ok (.iinc 3 1, 3) := by decide +kernel
theorem dX5_countSharers_45 : decode cX5_countSharers 45 = .ok (.goto (-41), 3) := by decide +kernel
theorem dX5_countSharers_48 : decode cX5_countSharers 48 = .ok (.iload_n 2, 1) := by decide +kernel
theorem dX5_countSharers_49 : decode cX5_countSharers 49 = .ok (.ireturn, 1) := by decide +kernel
theorem dX5_firstReserveToRepack_0 : decode cX5_firstReserveToRepack 0 = .ok (.iconst (-1), 1) := by decide +kernel
theorem dX5_firstReserveToRepack_1 : decode cX5_firstReserveToRepack 1 = .ok (.istore_n 1, 1) := by decide +kernel
theorem dX5_firstReserveToRepack_2 : decode cX5_firstReserveToRepack 2 = .ok (.iconst 0, 1) := by decide +kernel
theorem dX5_firstReserveToRepack_3 : decode cX5_firstReserveToRepack 3 = .ok (.istore_n 2, 1) := by decide +kernel
theorem dX5_firstReserveToRepack_4 : decode cX5_firstReserveToRepack 4 = .ok (.iconst 0, 1) := by decide +kernel
theorem dX5_firstReserveToRepack_5 : decode cX5_firstReserveToRepack 5 = .ok (.istore_n 3, 1) := by decide +kernel
theorem dX5_firstReserveToRepack_6 : decode cX5_firstReserveToRepack 6 = .ok (.iload_n 3, 1) := by decide +kernel
theorem dX5_firstReserveToRepack_7 : decode cX5_firstReserveToRepack 7 = .ok (.aload_n 0, 1) := by decide +kernel
theorem dX5_firstReserveToRepack_8 : decode cX5_firstReserveToRepack 8 = .ok (.getfield 53, 3) := by decide +kernel
theorem dX5_firstReserveToRepack_11 : decode cX5_firstReserveToRepack 11 = .ok (.if_icmp .ge 69, 3) := by decide +kernel
theorem dX5_firstReserveToRepack_14 : decode cX5_firstReserveToRepack 14 = .ok (.aload_n 0, 1) := by decide +kernel
theorem dX5_firstReserveToRepack_15 : decode cX5_firstReserveToRepack 15 = .ok (.getfield 19, 3) := by decide +kernel
theorem dX5_firstReserveToRepack_18 : decode cX5_firstReserveToRepack 18 = .ok (.iload_n 3, 1) := by decide +kernel
theorem dX5_firstReserveToRepack_19 : decode cX5_firstReserveToRepack 19 = .ok (.aaload, 1) := by decide +kernel
theorem dX5_firstReserveToRepack_20 : decode cX5_firstReserveToRepack 20 = .ok (.astore 4, 2) := by decide +kernel
theorem dX5_firstReserveToRepack_22 : decode cX5_firstReserveToRepack 22 = .ok (.aload 4, 2) := by decide +kernel
theorem dX5_firstReserveToRepack_24 : decode cX5_firstReserveToRepack 24 = .ok (.getfield 275, 3) := by decide +kernel
theorem dX5_firstReserveToRepack_27 : decode cX5_firstReserveToRepack 27 = .ok (.bipush 114, 2) := by decide +kernel
theorem dX5_firstReserveToRepack_29 : decode cX5_firstReserveToRepack 29 = .ok (.if_icmp .ne 45, 3) := by decide +kernel
theorem dX5_firstReserveToRepack_32 : decode cX5_firstReserveToRepack 32 = .ok (.aload 4, 2) := by decide +kernel
theorem dX5_firstReserveToRepack_34 : decode cX5_firstReserveToRepack 34 = .ok (.getfield 160, 3) := by decide +kernel
theorem dX5_firstReserveToRepack_37 : decode cX5_firstReserveToRepack 37 = .ok (.bipush 107, 2) := by decide +kernel
theorem dX5_firstReserveToRepack_39 : decode cX5_firstReserveToRepack 39 = .ok (.if_icmp .ne 35, 3) := by decide +kernel
theorem dX5_firstReserveToRepack_42 : decode cX5_firstReserveToRepack 42 = .ok (.aload_n 0, 1) := by decide +kernel
theorem dX5_firstReserveToRepack_43 : decode cX5_firstReserveToRepack 43 = .ok (.aload 4, 2) := by decide +kernel
theorem dX5_firstReserveToRepack_45 : decode cX5_firstReserveToRepack 45 = .ok (.invokevirtual 262, 3) := by decide +kernel
theorem dX5_firstReserveToRepack_48 : decode cX5_firstReserveToRepack 48 = .ok (.ifCond .ne 26, 3) := by decide +kernel
theorem dX5_firstReserveToRepack_51 : decode cX5_firstReserveToRepack 51 = .ok (.aload_n 0, 1) := by decide +kernel
theorem dX5_firstReserveToRepack_52 : decode cX5_firstReserveToRepack 52 = .ok (.aload 4, 2) := by decide +kernel
theorem dX5_firstReserveToRepack_54 : decode cX5_firstReserveToRepack 54 = .ok (.invokevirtual 278, 3) := by decide +kernel
theorem dX5_firstReserveToRepack_57 : decode cX5_firstReserveToRepack 57 = .ok (.istore 5, 2) := by decide +kernel
theorem dX5_firstReserveToRepack_59 : decode cX5_firstReserveToRepack 59 = .ok (.iload_n 1, 1) := by decide +kernel
theorem dX5_firstReserveToRepack_60 : decode cX5_firstReserveToRepack 60 = .ok (.ifCond .lt 9, 3) := by decide +kernel
theorem dX5_firstReserveToRepack_63 : decode cX5_firstReserveToRepack 63 = .ok (.iload 5, 2) := by decide +kernel
theorem dX5_firstReserveToRepack_65 : decode cX5_firstReserveToRepack 65 = .ok (.iload_n 2, 1) := by decide +kernel
theorem dX5_firstReserveToRepack_66 : decode cX5_firstReserveToRepack 66 = .ok (.if_icmp .ge 8, 3) := by decide +kernel
theorem dX5_firstReserveToRepack_69 : decode cX5_firstReserveToRepack 69 = .ok (.iload_n 3, 1) := by decide +kernel
theorem dX5_firstReserveToRepack_70 : decode cX5_firstReserveToRepack 70 = .ok (.istore_n 1, 1) := by decide +kernel
theorem dX5_firstReserveToRepack_71 : decode cX5_firstReserveToRepack 71 = .ok (.iload 5, 2) := by decide +kernel
theorem dX5_firstReserveToRepack_73 : decode cX5_firstReserveToRepack 73 = .ok (.istore_n 2, 1) := by decide +kernel
theorem dX5_firstReserveToRepack_74 : decode cX5_firstReserveToRepack 74 = .ok (.iinc 3 1, 3) := by decide +kernel
theorem dX5_firstReserveToRepack_77 : decode cX5_firstReserveToRepack 77 = .ok (.goto (-71), 3) := by decide +kernel
theorem dX5_firstReserveToRepack_80 : decode cX5_firstReserveToRepack 80 = .ok (.iload_n 1, 1) := by decide +kernel
theorem dX5_firstReserveToRepack_81 : decode cX5_firstReserveToRepack 81 = .ok (.ireturn, 1) := by decide +kernel
theorem dX5_sumOfDeposits_0 : decode cX5_sumOfDeposits 0 = .ok (.lconst 0, 1) := by decide +kernel
theorem dX5_sumOfDeposits_1 : decode cX5_sumOfDeposits 1 = .ok (.lstore_n 1, 1) := by decide +kernel
theorem dX5_sumOfDeposits_2 : decode cX5_sumOfDeposits 2 = .ok (.iconst 0, 1) := by decide +kernel
theorem dX5_sumOfDeposits_3 : decode cX5_sumOfDeposits 3 = .ok (.istore_n 3, 1) := by decide +kernel
theorem dX5_sumOfDeposits_4 : decode cX5_sumOfDeposits 4 = .ok (.iload_n 3, 1) := by decide +kernel
theorem dX5_sumOfDeposits_5 : decode cX5_sumOfDeposits 5 = .ok (.aload_n 0, 1) := by decide +kernel
theorem dX5_sumOfDeposits_6 : decode cX5_sumOfDeposits 6 = .ok (.getfield 53, 3) := by decide +kernel
theorem dX5_sumOfDeposits_9 : decode cX5_sumOfDeposits 9 = .ok (.if_icmp .ge 22, 3) := by decide +kernel
theorem dX5_sumOfDeposits_12 : decode cX5_sumOfDeposits 12 = .ok (.lload_n 1, 1) := by decide +kernel
theorem dX5_sumOfDeposits_13 : decode cX5_sumOfDeposits 13 = .ok (.aload_n 0, 1) := by decide +kernel
theorem dX5_sumOfDeposits_14 : decode cX5_sumOfDeposits 14 = .ok (.getfield 19, 3) := by decide +kernel
theorem dX5_sumOfDeposits_17 : decode cX5_sumOfDeposits 17 = .ok (.iload_n 3, 1) := by decide +kernel
theorem dX5_sumOfDeposits_18 : decode cX5_sumOfDeposits 18 = .ok (.aaload, 1) := by decide +kernel
theorem dX5_sumOfDeposits_19 : decode cX5_sumOfDeposits 19 = .ok (.getfield 254, 3) := by decide +kernel
theorem dX5_sumOfDeposits_22 : decode cX5_sumOfDeposits 22 = .ok (.i2l, 1) := by decide +kernel
theorem dX5_sumOfDeposits_23 : decode cX5_sumOfDeposits 23 = .ok (.ladd, 1) := by decide +kernel
theorem dX5_sumOfDeposits_24 : decode cX5_sumOfDeposits 24 = .ok (.lstore_n 1, 1) := by decide +kernel
theorem dX5_sumOfDeposits_25 : decode cX5_sumOfDeposits 25 = .ok (.iinc 3 1, 3) := by decide +kernel
theorem dX5_sumOfDeposits_28 : decode cX5_sumOfDeposits 28 = .ok (.goto (-24), 3) := by decide +kernel
theorem dX5_sumOfDeposits_31 : decode cX5_sumOfDeposits 31 = .ok (.lload_n 1, 1) := by decide +kernel
theorem dX5_sumOfDeposits_32 : decode cX5_sumOfDeposits 32 = .ok (.lreturn, 1) := by decide +kernel
theorem dX5_countGrounded_0 : decode cX5_countGrounded 0 = .ok (.iconst 0, 1) := by decide +kernel
theorem dX5_countGrounded_1 : decode cX5_countGrounded 1 = .ok (.istore_n 1, 1) := by decide +kernel
theorem dX5_countGrounded_2 : decode cX5_countGrounded 2 = .ok (.iconst 0, 1) := by decide +kernel
theorem dX5_countGrounded_3 : decode cX5_countGrounded 3 = .ok (.istore_n 2, 1) := by decide +kernel
theorem dX5_countGrounded_4 : decode cX5_countGrounded 4 = .ok (.iload_n 2, 1) := by decide +kernel
theorem dX5_countGrounded_5 : decode cX5_countGrounded 5 = .ok (.aload_n 0, 1) := by decide +kernel
theorem dX5_countGrounded_6 : decode cX5_countGrounded 6 = .ok (.getfield 53, 3) := by decide +kernel
theorem dX5_countGrounded_9 : decode cX5_countGrounded 9 = .ok (.if_icmp .ge 20, 3) := by decide +kernel
theorem dX5_countGrounded_12 : decode cX5_countGrounded 12 = .ok (.aload_n 0, 1) := by decide +kernel
theorem dX5_countGrounded_13 : decode cX5_countGrounded 13 = .ok (.iload_n 2, 1) := by decide +kernel
theorem dX5_countGrounded_14 : decode cX5_countGrounded 14 = .ok (.invokevirtual 266, 3) := by decide +kernel
theorem dX5_countGrounded_17 : decode cX5_countGrounded 17 = .ok (.ifCond .eq 6, 3) := by decide +kernel
theorem dX5_countGrounded_20 : decode cX5_countGrounded 20 = .ok (.iinc 1 1, 3) := by decide +kernel
theorem dX5_countGrounded_23 : decode cX5_countGrounded 23 = .ok (.iinc 2 1, 3) := by decide +kernel
theorem dX5_countGrounded_26 : decode cX5_countGrounded 26 = .ok (.goto (-22), 3) := by decide +kernel
theorem dX5_countGrounded_29 : decode cX5_countGrounded 29 = .ok (.iload_n 1, 1) := by decide +kernel
theorem dX5_countGrounded_30 : decode cX5_countGrounded 30 = .ok (.ireturn, 1) := by decide +kernel
theorem dX5_sumOfGoodDrops_0 : decode cX5_sumOfGoodDrops 0 = .ok (.iconst 0, 1) := by decide +kernel
theorem dX5_sumOfGoodDrops_1 : decode cX5_sumOfGoodDrops 1 = .ok (.istore_n 1, 1) := by decide +kernel
theorem dX5_sumOfGoodDrops_2 : decode cX5_sumOfGoodDrops 2 = .ok (.iconst 0, 1) := by decide +kernel
theorem dX5_sumOfGoodDrops_3 : decode cX5_sumOfGoodDrops 3 = .ok (.istore_n 2, 1) := by decide +kernel
theorem dX5_sumOfGoodDrops_4 : decode cX5_sumOfGoodDrops 4 = .ok (.iload_n 2, 1) := by decide +kernel
theorem dX5_sumOfGoodDrops_5 : decode cX5_sumOfGoodDrops 5 = .ok (.aload_n 0, 1) := by decide +kernel
theorem dX5_sumOfGoodDrops_6 : decode cX5_sumOfGoodDrops 6 = .ok (.getfield 53, 3) := by decide +kernel
theorem dX5_sumOfGoodDrops_9 : decode cX5_sumOfGoodDrops 9 = .ok (.if_icmp .ge 21, 3) := by decide +kernel
theorem dX5_sumOfGoodDrops_12 : decode cX5_sumOfGoodDrops 12 = .ok (.iload_n 1, 1) := by decide +kernel
theorem dX5_sumOfGoodDrops_13 : decode cX5_sumOfGoodDrops 13 = .ok (.aload_n 0, 1) := by decide +kernel
theorem dX5_sumOfGoodDrops_14 : decode cX5_sumOfGoodDrops 14 = .ok (.getfield 19, 3) := by decide +kernel
theorem dX5_sumOfGoodDrops_17 : decode cX5_sumOfGoodDrops 17 = .ok (.iload_n 2, 1) := by decide +kernel
theorem dX5_sumOfGoodDrops_18 : decode cX5_sumOfGoodDrops 18 = .ok (.aaload, 1) := by decide +kernel
theorem dX5_sumOfGoodDrops_19 : decode cX5_sumOfGoodDrops 19 = .ok (.getfield 248, 3) := by decide +kernel
theorem dX5_sumOfGoodDrops_22 : decode cX5_sumOfGoodDrops 22 = .ok (.iadd, 1) := by decide +kernel
theorem dX5_sumOfGoodDrops_23 : decode cX5_sumOfGoodDrops 23 = .ok (.istore_n 1, 1) := by decide +kernel
theorem dX5_sumOfGoodDrops_24 : decode cX5_sumOfGoodDrops 24 = .ok (.iinc 2 1, 3) := by decide +kernel
theorem dX5_sumOfGoodDrops_27 : decode cX5_sumOfGoodDrops 27 = .ok (.goto (-23), 3) := by decide +kernel
theorem dX5_sumOfGoodDrops_30 : decode cX5_sumOfGoodDrops 30 = .ok (.iload_n 1, 1) := by decide +kernel
theorem dX5_sumOfGoodDrops_31 : decode cX5_sumOfGoodDrops 31 = .ok (.ireturn, 1) := by decide +kernel
theorem dX5_isLike_0 : decode cX5_isLike 0 = .ok (.aload_n 0, 1) := by decide +kernel
theorem dX5_isLike_1 : decode cX5_isLike 1 = .ok (.getfield 65, 3) := by decide +kernel
theorem dX5_isLike_4 : decode cX5_isLike 4 = .ok (.aload_n 1, 1) := by decide +kernel
theorem dX5_isLike_5 : decode cX5_isLike 5 = .ok (.getfield 65, 3) := by decide +kernel
theorem dX5_isLike_8 : decode cX5_isLike 8 = .ok (.if_icmp .ne 37, 3) := by decide +kernel
theorem dX5_isLike_11 : decode cX5_isLike 11 = .ok (.aload_n 0, 1) := by decide +kernel
theorem dX5_isLike_12 : decode cX5_isLike 12 = .ok (.getfield 46, 3) := by decide +kernel
theorem dX5_isLike_15 : decode cX5_isLike 15 = .ok (.aload_n 1, 1) := by decide +kernel
theorem dX5_isLike_16 : decode cX5_isLike 16 = .ok (.getfield 46, 3) := by decide +kernel
theorem dX5_isLike_19 : decode cX5_isLike 19 = .ok (.if_icmp .ne 26, 3) := by decide +kernel
theorem dX5_isLike_22 : decode cX5_isLike 22 = .ok (.aload_n 0, 1) := by decide +kernel
theorem dX5_isLike_23 : decode cX5_isLike 23 = .ok (.getfield 68, 3) := by decide +kernel
theorem dX5_isLike_26 : decode cX5_isLike 26 = .ok (.aload_n 1, 1) := by decide +kernel
theorem dX5_isLike_27 : decode cX5_isLike 27 = .ok (.getfield 68, 3) := by decide +kernel
theorem dX5_isLike_30 : decode cX5_isLike 30 = .ok (.lcmp, 1) := by decide +kernel
theorem dX5_isLike_31 : decode cX5_isLike 31 = .ok (.ifCond .ne 14, 3) := by decide +kernel
theorem dX5_isLike_34 : decode cX5_isLike 34 = .ok (.aload_n 0, 1) := by decide +kernel
theorem dX5_isLike_35 : decode cX5_isLike 35 = .ok (.getfield 72, 3) := by decide +kernel
theorem dX5_isLike_38 : decode cX5_isLike 38 = .ok (.aload_n 1, 1) := by decide +kernel
theorem dX5_isLike_39 : decode cX5_isLike 39 = .ok (.getfield 72, 3) := by decide +kernel
theorem dX5_isLike_42 : decode cX5_isLike 42 = .ok (.if_icmp .eq 5, 3) := by decide +kernel
theorem dX5_isLike_45 : decode cX5_isLike 45 = .ok (.iconst 0, 1) := by decide +kernel
theorem dX5_isLike_46 : decode cX5_isLike 46 = .ok (.ireturn, 1) := by decide +kernel
theorem dX5_isLike_47 : decode cX5_isLike 47 = .ok (.aload_n 0, 1) := by decide +kernel
theorem dX5_isLike_48 : decode cX5_isLike 48 = .ok (.aload_n 1, 1) := by decide +kernel
theorem dX5_isLike_49 : decode cX5_isLike 49 = .ok (.invokevirtual 313, 3) := by decide +kernel
theorem dX5_isLike_52 : decode cX5_isLike 52 = .ok (.ifCond .eq 45, 3) := by decide +kernel
theorem dX5_isLike_55 : decode cX5_isLike 55 = .ok (.aload_n 0, 1) := by decide +kernel
theorem dX5_isLike_56 : decode cX5_isLike 56 = .ok (.aload_n 1, 1) := by decide +kernel
theorem dX5_isLike_57 : decode cX5_isLike 57 = .ok (.invokevirtual 317, 3) := by decide +kernel
theorem dX5_isLike_60 : decode cX5_isLike 60 = .ok (.ifCond .eq 37, 3) := by decide +kernel
theorem dX5_isLike_63 : decode cX5_isLike 63 = .ok (.aload_n 0, 1) := by decide +kernel
theorem dX5_isLike_64 : decode cX5_isLike 64 = .ok (.aload_n 1, 1) := by decide +kernel
theorem dX5_isLike_65 : decode cX5_isLike 65 = .ok (.invokevirtual 320, 3) := by decide +kernel
theorem dX5_isLike_68 : decode cX5_isLike 68 = .ok (.ifCond .eq 29, 3) := by decide +kernel
theorem dX5_isLike_71 : decode cX5_isLike 71 = .ok (.aload_n 0, 1) := by decide +kernel
theorem dX5_isLike_72 : decode cX5_isLike 72 = .ok (.aload_n 1, 1) := by decide +kernel
theorem dX5_isLike_73 : decode cX5_isLike 73 = .ok (.invokevirtual 323, 3) := by decide +kernel
theorem dX5_isLike_76 : decode cX5_isLike 76 = .ok (.ifCond .eq 21, 3) := by decide +kernel
theorem dX5_isLike_79 : decode cX5_isLike 79 = .ok (.aload_n 0, 1) := by decide +kernel
theorem dX5_isLike_80 : decode cX5_isLike 80 = .ok (.getfield 38, 3) := by decide +kernel
theorem dX5_isLike_83 : decode cX5_isLike 83 = .ok (.aload_n 1, 1) := by decide +kernel
theorem dX5_isLike_84 : decode cX5_isLike 84 = .ok (.getfield 38, 3) := by decide +kernel
theorem dX5_isLike_87 : decode cX5_isLike 87 = .ok (.invokevirtual 326, 3) := by decide +kernel
theorem dX5_isLike_90 : decode cX5_isLike 90 = .ok (.ifCond .eq 7, 3) := by decide +kernel
theorem dX5_isLike_93 : decode cX5_isLike 93 = .ok (.iconst 1, 1) := by decide +kernel
theorem dX5_isLike_94 : decode cX5_isLike 94 = .ok (.goto 4, 3) := by decide +kernel
theorem dX5_isLike_97 : decode cX5_isLike 97 = .ok (.iconst 0, 1) := by decide +kernel
theorem dX5_isLike_98 : decode cX5_isLike 98 = .ok (.ireturn, 1) := by decide +kernel
theorem dX5_hasRiggersLike_0 : decode cX5_hasRiggersLike 0 = .ok (.aload_n 0, 1) := by decide +kernel
theorem dX5_hasRiggersLike_1 : decode cX5_hasRiggersLike 1 = .ok (.getfield 50, 3) := by decide +kernel
theorem dX5_hasRiggersLike_4 : decode cX5_hasRiggersLike 4 = .ok (.aload_n 1, 1) := by decide +kernel
theorem dX5_hasRiggersLike_5 : decode cX5_hasRiggersLike 5 = .ok (.getfield 50, 3) := by decide +kernel
theorem dX5_hasRiggersLike_8 : decode cX5_hasRiggersLike 8 = .ok (.if_icmp .eq 5, 3) := by decide +kernel
theorem dX5_hasRiggersLike_11 : decode cX5_hasRiggersLike 11 = .ok (.iconst 0, 1) := by decide +kernel
theorem dX5_hasRiggersLike_12 : decode cX5_hasRiggersLike 12 = .ok (.ireturn, 1) := by decide +kernel
theorem dX5_hasRiggersLike_13 : decode cX5_hasRiggersLike 13 = .ok (.iconst 0, 1) := by decide +kernel
theorem dX5_hasRiggersLike_14 : decode cX5_hasRiggersLike 14 = .ok (.istore_n 2, 1) := by decide +kernel
theorem dX5_hasRiggersLike_15 : decode cX5_hasRiggersLike 15 = .ok (.iload_n 2, 1) := by decide +kernel
theorem dX5_hasRiggersLike_16 : decode cX5_hasRiggersLike 16 = .ok (.aload_n 0, 1) := by decide +kernel
theorem dX5_hasRiggersLike_17 : decode cX5_hasRiggersLike 17 = .ok (.getfield 50, 3) := by decide +kernel
theorem dX5_hasRiggersLike_20 : decode cX5_hasRiggersLike 20 = .ok (.if_icmp .ge 29, 3) := by decide +kernel
theorem dX5_hasRiggersLike_23 : decode cX5_hasRiggersLike 23 = .ok (.aload_n 0, 1) := by decide +kernel
theorem dX5_hasRiggersLike_24 : decode cX5_hasRiggersLike 24 = .ok (.getfield 11, 3) := by decide +kernel
theorem dX5_hasRiggersLike_27 : decode cX5_hasRiggersLike 27 = .ok (.iload_n 2, 1) := by decide +kernel
theorem dX5_hasRiggersLike_28 : decode cX5_hasRiggersLike 28 = .ok (.aaload, 1) := by decide +kernel
theorem dX5_hasRiggersLike_29 : decode cX5_hasRiggersLike 29 = .ok (.aload_n 1, 1) := by decide +kernel
theorem dX5_hasRiggersLike_30 : decode cX5_hasRiggersLike 30 = .ok (.getfield 11, 3) := by decide +kernel
theorem dX5_hasRiggersLike_33 : decode cX5_hasRiggersLike 33 = .ok (.iload_n 2, 1) := by decide +kernel
theorem dX5_hasRiggersLike_34 : decode cX5_hasRiggersLike 34 = .ok (.aaload, 1) := by decide +kernel
theorem dX5_hasRiggersLike_35 : decode cX5_hasRiggersLike 35 = .ok (.invokevirtual 330, 3) := by decide +kernel
theorem dX5_hasRiggersLike_38 : decode cX5_hasRiggersLike 38 = .ok (.ifCond .ne 5, 3) := by decide +kernel
theorem dX5_hasRiggersLike_41 : decode cX5_hasRiggersLike 41 = .ok (.iconst 0, 1) := by decide +kernel
theorem dX5_hasRiggersLike_42 : decode cX5_hasRiggersLike 42 = .ok (.ireturn, 1) := by decide +kernel
theorem dX5_hasRiggersLike_43 : decode cX5_hasRiggersLike 43 = .ok (.iinc 2 1, 3) := by decide +kernel
theorem dX5_hasRiggersLike_46 : decode cX5_hasRiggersLike 46 = .ok (.goto (-31), 3) := by decide +kernel
theorem dX5_hasRiggersLike_49 : decode cX5_hasRiggersLike 49 = .ok (.iconst 1, 1) := by decide +kernel
theorem dX5_hasRiggersLike_50 : decode cX5_hasRiggersLike 50 = .ok (.ireturn, 1) := by decide +kernel
theorem dX5_hasCanopiesLike_0 : decode cX5_hasCanopiesLike 0 = .ok (.aload_n 0, 1) := by decide +kernel
theorem dX5_hasCanopiesLike_1 : decode cX5_hasCanopiesLike 1 = .ok (.getfield 53, 3) := by decide +kernel
theorem dX5_hasCanopiesLike_4 : decode cX5_hasCanopiesLike 4 = .ok (.aload_n 1, 1) := by decide +kernel
theorem dX5_hasCanopiesLike_5 : decode cX5_hasCanopiesLike 5 = .ok (.getfield 53, 3) := by decide +kernel
theorem dX5_hasCanopiesLike_8 : decode cX5_hasCanopiesLike 8 = .ok (.if_icmp .eq 5, 3) := by decide +kernel
theorem dX5_hasCanopiesLike_11 : decode cX5_hasCanopiesLike 11 = .ok (.iconst 0, 1) := by decide +kernel
theorem dX5_hasCanopiesLike_12 : decode cX5_hasCanopiesLike 12 = .ok (.ireturn, 1) := by decide +kernel
theorem dX5_hasCanopiesLike_13 : decode cX5_hasCanopiesLike 13 = .ok (.iconst 0, 1) := by decide +kernel
theorem dX5_hasCanopiesLike_14 : decode cX5_hasCanopiesLike 14 = .ok (.istore_n 2, 1) := by decide +kernel
theorem dX5_hasCanopiesLike_15 : decode cX5_hasCanopiesLike 15 = .ok (.iload_n 2, 1) := by decide +kernel
theorem dX5_hasCanopiesLike_16 : decode cX5_hasCanopiesLike 16 = .ok (.aload_n 0, 1) := by decide +kernel
theorem dX5_hasCanopiesLike_17 : decode cX5_hasCanopiesLike 17 = .ok (.getfield 53, 3) := by decide +kernel
theorem dX5_hasCanopiesLike_20 : decode cX5_hasCanopiesLike 20 = .ok (.if_icmp .ge 42, 3) := by decide +kernel
theorem dX5_hasCanopiesLike_23 : decode cX5_hasCanopiesLike 23 = .ok (.aload_n 0, 1) := by decide +kernel
theorem dX5_hasCanopiesLike_24 : decode cX5_hasCanopiesLike 24 = .ok (.getfield 19, 3) := by decide +kernel
theorem dX5_hasCanopiesLike_27 : decode cX5_hasCanopiesLike 27 = .ok (.iload_n 2, 1) := by decide +kernel
theorem dX5_hasCanopiesLike_28 : decode cX5_hasCanopiesLike 28 = .ok (.aaload, 1) := by decide +kernel
theorem dX5_hasCanopiesLike_29 : decode cX5_hasCanopiesLike 29 = .ok (.aload_n 1, 1) := by decide +kernel
theorem dX5_hasCanopiesLike_30 : decode cX5_hasCanopiesLike 30 = .ok (.getfield 19, 3) := by decide +kernel
theorem dX5_hasCanopiesLike_33 : decode cX5_hasCanopiesLike 33 = .ok (.iload_n 2, 1) := by decide +kernel
theorem dX5_hasCanopiesLike_34 : decode cX5_hasCanopiesLike 34 = .ok (.aaload, 1) := by decide +kernel
theorem dX5_hasCanopiesLike_35 : decode cX5_hasCanopiesLike 35 = .ok (.invokevirtual 333, 3) := by decide +kernel
theorem dX5_hasCanopiesLike_38 : decode cX5_hasCanopiesLike 38 = .ok (.ifCond .eq 16, 3) := by decide +kernel
theorem dX5_hasCanopiesLike_41 : decode cX5_hasCanopiesLike 41 = .ok (.aload_n 0, 1) := by decide +kernel
theorem dX5_hasCanopiesLike_42 : decode cX5_hasCanopiesLike 42 = .ok (.iload_n 2, 1) := by decide +kernel
theorem dX5_hasCanopiesLike_43 : decode cX5_hasCanopiesLike 43 = .ok (.invokevirtual 266, 3) := by decide +kernel
theorem dX5_hasCanopiesLike_46 : decode cX5_hasCanopiesLike 46 = .ok (.aload_n 1, 1) := by decide +kernel
theorem dX5_hasCanopiesLike_47 : decode cX5_hasCanopiesLike 47 = .ok (.iload_n 2, 1) := by decide +kernel
theorem dX5_hasCanopiesLike_48 : decode cX5_hasCanopiesLike 48 = .ok (.invokevirtual 266, 3) := by decide +kernel
theorem dX5_hasCanopiesLike_51 : decode cX5_hasCanopiesLike 51 = .ok (.if_icmp .eq 5, 3) := by decide +kernel
theorem dX5_hasCanopiesLike_54 : decode cX5_hasCanopiesLike 54 = .ok (.iconst 0, 1) := by decide +kernel
theorem dX5_hasCanopiesLike_55 : decode cX5_hasCanopiesLike 55 = .ok (.ireturn, 1) := by decide +kernel
theorem dX5_hasCanopiesLike_56 : decode cX5_hasCanopiesLike 56 = .ok (.iinc 2 1, 3) := by decide +kernel
theorem dX5_hasCanopiesLike_59 : decode cX5_hasCanopiesLike 59 = .ok (.goto (-44), 3) := by decide +kernel
theorem dX5_hasCanopiesLike_62 : decode cX5_hasCanopiesLike 62 = .ok (.iconst 1, 1) := by decide +kernel
theorem dX5_hasCanopiesLike_63 : decode cX5_hasCanopiesLike 63 = .ok (.ireturn, 1) := by decide +kernel
theorem dX5_hasLoadsLike_0 : decode cX5_hasLoadsLike 0 = .ok (.aload_n 0, 1) := by decide +kernel
theorem dX5_hasLoadsLike_1 : decode cX5_hasLoadsLike 1 = .ok (.getfield 56, 3) := by decide +kernel
theorem dX5_hasLoadsLike_4 : decode cX5_hasLoadsLike 4 = .ok (.aload_n 1, 1) := by decide +kernel
theorem dX5_hasLoadsLike_5 : decode cX5_hasLoadsLike 5 = .ok (.getfield 56, 3) := by decide +kernel
theorem dX5_hasLoadsLike_8 : decode cX5_hasLoadsLike 8 = .ok (.if_icmp .eq 5, 3) := by decide +kernel
theorem dX5_hasLoadsLike_11 : decode cX5_hasLoadsLike 11 = .ok (.iconst 0, 1) := by decide +kernel
theorem dX5_hasLoadsLike_12 : decode cX5_hasLoadsLike 12 = .ok (.ireturn, 1) := by decide +kernel
theorem dX5_hasLoadsLike_13 : decode cX5_hasLoadsLike 13 = .ok (.iconst 0, 1) := by decide +kernel
theorem dX5_hasLoadsLike_14 : decode cX5_hasLoadsLike 14 = .ok (.istore_n 2, 1) := by decide +kernel
theorem dX5_hasLoadsLike_15 : decode cX5_hasLoadsLike 15 = .ok (.iload_n 2, 1) := by decide +kernel
theorem dX5_hasLoadsLike_16 : decode cX5_hasLoadsLike 16 = .ok (.aload_n 0, 1) := by decide +kernel
theorem dX5_hasLoadsLike_17 : decode cX5_hasLoadsLike 17 = .ok (.getfield 56, 3) := by decide +kernel
theorem dX5_hasLoadsLike_20 : decode cX5_hasLoadsLike 20 = .ok (.if_icmp .ge 29, 3) := by decide +kernel
theorem dX5_hasLoadsLike_23 : decode cX5_hasLoadsLike 23 = .ok (.aload_n 0, 1) := by decide +kernel
theorem dX5_hasLoadsLike_24 : decode cX5_hasLoadsLike 24 = .ok (.getfield 25, 3) := by decide +kernel
theorem dX5_hasLoadsLike_27 : decode cX5_hasLoadsLike 27 = .ok (.iload_n 2, 1) := by decide +kernel
theorem dX5_hasLoadsLike_28 : decode cX5_hasLoadsLike 28 = .ok (.aaload, 1) := by decide +kernel
theorem dX5_hasLoadsLike_29 : decode cX5_hasLoadsLike 29 = .ok (.aload_n 1, 1) := by decide +kernel
theorem dX5_hasLoadsLike_30 : decode cX5_hasLoadsLike 30 = .ok (.getfield 25, 3) := by decide +kernel
theorem dX5_hasLoadsLike_33 : decode cX5_hasLoadsLike 33 = .ok (.iload_n 2, 1) := by decide +kernel
theorem dX5_hasLoadsLike_34 : decode cX5_hasLoadsLike 34 = .ok (.aaload, 1) := by decide +kernel
theorem dX5_hasLoadsLike_35 : decode cX5_hasLoadsLike 35 = .ok (.invokevirtual 335, 3) := by decide +kernel
theorem dX5_hasLoadsLike_38 : decode cX5_hasLoadsLike 38 = .ok (.ifCond .ne 5, 3) := by decide +kernel
theorem dX5_hasLoadsLike_41 : decode cX5_hasLoadsLike 41 = .ok (.iconst 0, 1) := by decide +kernel
theorem dX5_hasLoadsLike_42 : decode cX5_hasLoadsLike 42 = .ok (.ireturn, 1) := by decide +kernel
theorem dX5_hasLoadsLike_43 : decode cX5_hasLoadsLike 43 = .ok (.iinc 2 1, 3) := by decide +kernel
theorem dX5_hasLoadsLike_46 : decode cX5_hasLoadsLike 46 = .ok (.goto (-31), 3) := by decide +kernel
theorem dX5_hasLoadsLike_49 : decode cX5_hasLoadsLike 49 = .ok (.iconst 1, 1) := by decide +kernel
theorem dX5_hasLoadsLike_50 : decode cX5_hasLoadsLike 50 = .ok (.ireturn, 1) := by decide +kernel
theorem dX5_hasFindingsLike_0 : decode cX5_hasFindingsLike 0 = .ok (.aload_n 0, 1) := by decide +kernel
theorem dX5_hasFindingsLike_1 : decode cX5_hasFindingsLike 1 = .ok (.getfield 59, 3) := by decide +kernel
theorem dX5_hasFindingsLike_4 : decode cX5_hasFindingsLike 4 = .ok (.aload_n 1, 1) := by decide +kernel
theorem dX5_hasFindingsLike_5 : decode cX5_hasFindingsLike 5 = .ok (.getfield 59, 3) := by decide +kernel
theorem dX5_hasFindingsLike_8 : decode cX5_hasFindingsLike 8 = .ok (.if_icmp .eq 5, 3) := by decide +kernel
theorem dX5_hasFindingsLike_11 : decode cX5_hasFindingsLike 11 = .ok (.iconst 0, 1) := by decide +kernel
theorem dX5_hasFindingsLike_12 : decode cX5_hasFindingsLike 12 = .ok (.ireturn, 1) := by decide +kernel
theorem dX5_hasFindingsLike_13 : decode cX5_hasFindingsLike 13 = .ok (.iconst 0, 1) := by decide +kernel
theorem dX5_hasFindingsLike_14 : decode cX5_hasFindingsLike 14 = .ok (.istore_n 2, 1) := by decide +kernel
theorem dX5_hasFindingsLike_15 : decode cX5_hasFindingsLike 15 = .ok (.iload_n 2, 1) := by decide +kernel
theorem dX5_hasFindingsLike_16 : decode cX5_hasFindingsLike 16 = .ok (.aload_n 0, 1) := by decide +kernel
theorem dX5_hasFindingsLike_17 : decode cX5_hasFindingsLike 17 = .ok (.getfield 59, 3) := by decide +kernel
theorem dX5_hasFindingsLike_20 : decode cX5_hasFindingsLike 20 = .ok (.if_icmp .ge 29, 3) := by decide +kernel
theorem dX5_hasFindingsLike_23 : decode cX5_hasFindingsLike 23 = .ok (.aload_n 0, 1) := by decide +kernel
theorem dX5_hasFindingsLike_24 : decode cX5_hasFindingsLike 24 = .ok (.getfield 31, 3) := by decide +kernel
theorem dX5_hasFindingsLike_27 : decode cX5_hasFindingsLike 27 = .ok (.iload_n 2, 1) := by decide +kernel
theorem dX5_hasFindingsLike_28 : decode cX5_hasFindingsLike 28 = .ok (.aaload, 1) := by decide +kernel
theorem dX5_hasFindingsLike_29 : decode cX5_hasFindingsLike 29 = .ok (.aload_n 1, 1) := by decide +kernel
theorem dX5_hasFindingsLike_30 : decode cX5_hasFindingsLike 30 = .ok (.getfield 31, 3) := by decide +kernel
theorem dX5_hasFindingsLike_33 : decode cX5_hasFindingsLike 33 = .ok (.iload_n 2, 1) := by decide +kernel
theorem dX5_hasFindingsLike_34 : decode cX5_hasFindingsLike 34 = .ok (.aaload, 1) := by decide +kernel
theorem dX5_hasFindingsLike_35 : decode cX5_hasFindingsLike 35 = .ok (.invokevirtual 338, 3) := by decide +kernel
theorem dX5_hasFindingsLike_38 : decode cX5_hasFindingsLike 38 = .ok (.ifCond .ne 5, 3) := by decide +kernel
theorem dX5_hasFindingsLike_41 : decode cX5_hasFindingsLike 41 = .ok (.iconst 0, 1) := by decide +kernel
theorem dX5_hasFindingsLike_42 : decode cX5_hasFindingsLike 42 = .ok (.ireturn, 1) := by decide +kernel
theorem dX5_hasFindingsLike_43 : decode cX5_hasFindingsLike 43 = .ok (.iinc 2 1, 3) := by decide +kernel
theorem dX5_hasFindingsLike_46 : decode cX5_hasFindingsLike 46 = .ok (.goto (-31), 3) := by decide +kernel
theorem dX5_hasFindingsLike_49 : decode cX5_hasFindingsLike 49 = .ok (.iconst 1, 1) := by decide +kernel
theorem dX5_hasFindingsLike_50 : decode cX5_hasFindingsLike 50 = .ok (.ireturn, 1) := by decide +kernel
theorem dX7_init_0 : decode cX7_init 0 = .ok (.aload_n 0, 1) := by decide +kernel
theorem dX7_init_1 : decode cX7_init 1 = .ok (.invokespecial 1, 3) := by decide +kernel
theorem dX7_init_4 : decode cX7_init 4 = .ok (.return_, 1) := by decide +kernel
theorem dX7_set_0 : decode cX7_set 0 = .ok (.aload_n 0, 1) := by decide +kernel
theorem dX7_set_1 : decode cX7_set 1 = .ok (.iload_n 1, 1) := by decide +kernel
theorem dX7_set_2 : decode cX7_set 2 = .ok (.putfield 7, 3) := by decide +kernel
theorem dX7_set_5 : decode cX7_set 5 = .ok (.aload_n 0, 1) := by decide +kernel
theorem dX7_set_6 : decode cX7_set 6 = .ok (.iload_n 2, 1) := by decide +kernel
theorem dX7_set_7 : decode cX7_set 7 = .ok (.putfield 13, 3) := by decide +kernel
theorem dX7_set_10 : decode cX7_set 10 = .ok (.return_, 1) := by decide +kernel
theorem dX7_may_0 : decode cX7_may 0 = .ok (.iload_n 2, 1) := by decide +kernel
theorem dX7_may_1 : decode cX7_may 1 = .ok (.aload_n 0, 1) := by decide +kernel
theorem dX7_may_2 : decode cX7_may 2 = .ok (.getfield 13, 3) := by decide +kernel
theorem dX7_may_5 : decode cX7_may 5 = .ok (.if_icmp .gt 19, 3) := by decide +kernel
theorem dX7_may_8 : decode cX7_may 8 = .ok (.aload_n 0, 1) := by decide +kernel
theorem dX7_may_9 : decode cX7_may 9 = .ok (.getfield 7, 3) := by decide +kernel
theorem dX7_may_12 : decode cX7_may 12 = .ok (.iload_n 1, 1) := by decide +kernel
theorem dX7_may_13 : decode cX7_may 13 = .ok (.ishr, 1) := by decide +kernel
theorem dX7_may_14 : decode cX7_may 14 = .ok (.iconst 1, 1) := by decide +kernel
theorem dX7_may_15 : decode cX7_may 15 = .ok (.iand, 1) := by decide +kernel
theorem dX7_may_16 : decode cX7_may 16 = .ok (.iconst 1, 1) := by decide +kernel
theorem dX7_may_17 : decode cX7_may 17 = .ok (.if_icmp .ne 7, 3) := by decide +kernel
theorem dX7_may_20 : decode cX7_may 20 = .ok (.iconst 1, 1) := by decide +kernel
theorem dX7_may_21 : decode cX7_may 21 = .ok (.goto 4, 3) := by decide +kernel
theorem dX7_may_24 : decode cX7_may 24 = .ok (.iconst 0, 1) := by decide +kernel
theorem dX7_may_25 : decode cX7_may 25 = .ok (.ireturn, 1) := by decide +kernel
theorem dX7_isLike_0 : decode cX7_isLike 0 = .ok (.aload_n 0, 1) := by decide +kernel
theorem dX7_isLike_1 : decode cX7_isLike 1 = .ok (.getfield 7, 3) := by decide +kernel
theorem dX7_isLike_4 : decode cX7_isLike 4 = .ok (.aload_n 1, 1) := by decide +kernel
theorem dX7_isLike_5 : decode cX7_isLike 5 = .ok (.getfield 7, 3) := by decide +kernel
theorem dX7_isLike_8 : decode cX7_isLike 8 = .ok (.if_icmp .ne 18, 3) := by decide +kernel
theorem dX7_isLike_11 : decode cX7_isLike 11 = .ok (.aload_n 0, 1) := by decide +kernel
theorem dX7_isLike_12 : decode cX7_isLike 12 = .ok (.getfield 13, 3) := by decide +kernel
theorem dX7_isLike_15 : decode cX7_isLike 15 = .ok (.aload_n 1, 1) := by decide +kernel
theorem dX7_isLike_16 : decode cX7_isLike 16 = .ok (.getfield 13, 3) := by decide +kernel
theorem dX7_isLike_19 : decode cX7_isLike 19 = .ok (.if_icmp .ne 7, 3) := by decide +kernel
theorem dX7_isLike_22 : decode cX7_isLike 22 = .ok (.iconst 1, 1) := by decide +kernel
theorem dX7_isLike_23 : decode cX7_isLike 23 = .ok (.goto 4, 3) := by decide +kernel
theorem dX7_isLike_26 : decode cX7_isLike 26 = .ok (.iconst 0, 1) := by decide +kernel
theorem dX7_isLike_27 : decode cX7_isLike 27 = .ok (.ireturn, 1) := by decide +kernel
theorem dX8_refusalOf_0 : decode cX8_refusalOf 0 = .ok (.iload_n 1, 1) := by decide +kernel
theorem dX8_refusalOf_1 : decode cX8_refusalOf 1 = .ok (.tableswitch 280 0 19 #[95, 102, 111, 122, 143, 149, 156, 163, 171, 190, 199, 205, 211, 217, 223, 230, 248, 255, 263, 272], 95) := by decide +kernel
theorem dX8_refusalOf_96 : decode cX8_refusalOf 96 = .ok (.aload_n 0, 1) := by decide +kernel
theorem dX8_refusalOf_97 : decode cX8_refusalOf 97 = .ok (.iload_n 2, 1) := by decide +kernel
theorem dX8_refusalOf_98 : decode cX8_refusalOf 98 = .ok (.iload_n 3, 1) := by decide +kernel
theorem dX8_refusalOf_99 : decode cX8_refusalOf 99 = .ok (.invokestatic 9, 3) := by decide +kernel
theorem dX8_refusalOf_102 : decode cX8_refusalOf 102 = .ok (.areturn, 1) := by decide +kernel
theorem dX8_refusalOf_103 : decode cX8_refusalOf 103 = .ok (.aload_n 0, 1) := by decide +kernel
theorem dX8_refusalOf_104 : decode cX8_refusalOf 104 = .ok (.iload_n 2, 1) := by decide +kernel
theorem dX8_refusalOf_105 : decode cX8_refusalOf 105 = .ok (.iload_n 3, 1) := by decide +kernel
theorem dX8_refusalOf_106 : decode cX8_refusalOf 106 = .ok (.iload 4, 2) := by decide +kernel
theorem dX8_refusalOf_108 : decode cX8_refusalOf 108 = .ok (.invokestatic 15, 3) := by decide +kernel
theorem dX8_refusalOf_111 : decode cX8_refusalOf 111 = .ok (.areturn, 1) := by decide +kernel
theorem dX8_refusalOf_112 : decode cX8_refusalOf 112 = .ok (.aload_n 0, 1) := by decide +kernel
theorem dX8_refusalOf_113 : decode cX8_refusalOf 113 = .ok (.iload_n 2, 1) := by decide +kernel
theorem dX8_refusalOf_114 : decode cX8_refusalOf 114 = .ok (.iload_n 3, 1) := by decide +kernel
theorem dX8_refusalOf_115 : decode cX8_refusalOf 115 = .ok (.iload 4, 2) := by decide +kernel
theorem dX8_refusalOf_117 : decode cX8_refusalOf 117 = .ok (.iload 5, 2) := by decide +kernel
theorem dX8_refusalOf_119 : decode cX8_refusalOf 119 = .ok (.invokestatic 19, 3) := by decide +kernel
theorem dX8_refusalOf_122 : decode cX8_refusalOf 122 = .ok (.areturn, 1) := by decide +kernel
theorem dX8_refusalOf_123 : decode cX8_refusalOf 123 = .ok (.iload_n 2, 1) := by decide +kernel
theorem dX8_refusalOf_124 : decode cX8_refusalOf 124 = .ok (.iconst 1, 1) := by decide +kernel
theorem dX8_refusalOf_125 : decode cX8_refusalOf 125 = .ok (.sipush 999, 3) := by decide +kernel
theorem dX8_refusalOf_128 : decode cX8_refusalOf 128 = .ok (.invokestatic 23, 3) := by decide +kernel
theorem dX8_refusalOf_131 : decode cX8_refusalOf 131 = .ok (.ifCond .eq 9, 3) := by decide +kernel
theorem dX8_refusalOf_134 : decode cX8_refusalOf 134 = .ok (.getstatic 27, 3) := by decide +kernel
theorem dX8_refusalOf_137 : decode cX8_refusalOf 137 = .ok (.goto 6, 3) := by decide +kernel
theorem dX8_refusalOf_140 : decode cX8_refusalOf 140 = .ok (.getstatic 33, 3) := by decide +kernel
theorem dX8_refusalOf_143 : decode cX8_refusalOf 143 = .ok (.areturn, 1) := by decide +kernel
theorem dX8_refusalOf_144 : decode cX8_refusalOf 144 = .ok (.aload_n 0, 1) := by decide +kernel
theorem dX8_refusalOf_145 : decode cX8_refusalOf 145 = .ok (.iload_n 2, 1) := by decide +kernel
theorem dX8_refusalOf_146 : decode cX8_refusalOf 146 = .ok (.invokestatic 36, 3) := by decide +kernel
theorem dX8_refusalOf_149 : decode cX8_refusalOf 149 = .ok (.areturn, 1) := by decide +kernel
theorem dX8_refusalOf_150 : decode cX8_refusalOf 150 = .ok (.aload_n 0, 1) := by decide +kernel
theorem dX8_refusalOf_151 : decode cX8_refusalOf 151 = .ok (.iload_n 2, 1) := by decide +kernel
theorem dX8_refusalOf_152 : decode cX8_refusalOf 152 = .ok (.iload_n 3, 1) := by decide +kernel
theorem dX8_refusalOf_153 : decode cX8_refusalOf 153 = .ok (.invokestatic 40, 3) := by decide +kernel
theorem dX8_refusalOf_156 : decode cX8_refusalOf 156 = .ok (.areturn, 1) := by decide +kernel
theorem dX8_refusalOf_157 : decode cX8_refusalOf 157 = .ok (.aload_n 0, 1) := by decide +kernel
theorem dX8_refusalOf_158 : decode cX8_refusalOf 158 = .ok (.iload_n 2, 1) := by decide +kernel
theorem dX8_refusalOf_159 : decode cX8_refusalOf 159 = .ok (.iload_n 3, 1) := by decide +kernel
theorem dX8_refusalOf_160 : decode cX8_refusalOf 160 = .ok (.invokestatic 43, 3) := by decide +kernel
theorem dX8_refusalOf_163 : decode cX8_refusalOf 163 = .ok (.areturn, 1) := by decide +kernel
theorem dX8_refusalOf_164 : decode cX8_refusalOf 164 = .ok (.aload_n 0, 1) := by decide +kernel
theorem dX8_refusalOf_165 : decode cX8_refusalOf 165 = .ok (.iload_n 2, 1) := by decide +kernel
theorem dX8_refusalOf_166 : decode cX8_refusalOf 166 = .ok (.bipush 112, 2) := by decide +kernel
theorem dX8_refusalOf_168 : decode cX8_refusalOf 168 = .ok (.invokestatic 46, 3) := by decide +kernel
theorem dX8_refusalOf_171 : decode cX8_refusalOf 171 = .ok (.areturn, 1) := by decide +kernel
theorem dX8_refusalOf_172 : decode cX8_refusalOf 172 = .ok (.aload_n 0, 1) := by decide +kernel
theorem dX8_refusalOf_173 : decode cX8_refusalOf 173 = .ok (.getfield 50, 3) := by decide +kernel
theorem dX8_refusalOf_176 : decode cX8_refusalOf 176 = .ok (.bipush 30, 2) := by decide +kernel
theorem dX8_refusalOf_178 : decode cX8_refusalOf 178 = .ok (.if_icmp .ge 9, 3) := by decide +kernel
theorem dX8_refusalOf_181 : decode cX8_refusalOf 181 = .ok (.getstatic 27, 3) := by decide +kernel
theorem dX8_refusalOf_184 : decode cX8_refusalOf 184 = .ok (.goto 6, 3) := by decide +kernel
theorem dX8_refusalOf_187 : decode cX8_refusalOf 187 = .ok (.getstatic 56, 3) := by decide +kernel
theorem dX8_refusalOf_190 : decode cX8_refusalOf 190 = .ok (.areturn, 1) := by decide +kernel
theorem dX8_refusalOf_191 : decode cX8_refusalOf 191 = .ok (.aload_n 0, 1) := by decide +kernel
theorem dX8_refusalOf_192 : decode cX8_refusalOf 192 = .ok (.iload_n 2, 1) := by decide +kernel
theorem dX8_refusalOf_193 : decode cX8_refusalOf 193 = .ok (.iload_n 3, 1) := by decide +kernel
theorem dX8_refusalOf_194 : decode cX8_refusalOf 194 = .ok (.iload 4, 2) := by decide +kernel
theorem dX8_refusalOf_196 : decode cX8_refusalOf 196 = .ok (.invokestatic 59, 3) := by decide +kernel
theorem dX8_refusalOf_199 : decode cX8_refusalOf 199 = .ok (.areturn, 1) := by decide +kernel
theorem dX8_refusalOf_200 : decode cX8_refusalOf 200 = .ok (.aload_n 0, 1) := by decide +kernel
theorem dX8_refusalOf_201 : decode cX8_refusalOf 201 = .ok (.iload_n 2, 1) := by decide +kernel
theorem dX8_refusalOf_202 : decode cX8_refusalOf 202 = .ok (.invokestatic 62, 3) := by decide +kernel
theorem dX8_refusalOf_205 : decode cX8_refusalOf 205 = .ok (.areturn, 1) := by decide +kernel
theorem dX8_refusalOf_206 : decode cX8_refusalOf 206 = .ok (.aload_n 0, 1) := by decide +kernel
theorem dX8_refusalOf_207 : decode cX8_refusalOf 207 = .ok (.iload_n 2, 1) := by decide +kernel
theorem dX8_refusalOf_208 : decode cX8_refusalOf 208 = .ok (.invokestatic 65, 3) := by decide +kernel
theorem dX8_refusalOf_211 : decode cX8_refusalOf 211 = .ok (.areturn, 1) := by decide +kernel
theorem dX8_refusalOf_212 : decode cX8_refusalOf 212 = .ok (.aload_n 0, 1) := by decide +kernel
theorem dX8_refusalOf_213 : decode cX8_refusalOf 213 = .ok (.iload_n 2, 1) := by decide +kernel
theorem dX8_refusalOf_214 : decode cX8_refusalOf 214 = .ok (.invokestatic 68, 3) := by decide +kernel
theorem dX8_refusalOf_217 : decode cX8_refusalOf 217 = .ok (.areturn, 1) := by decide +kernel
theorem dX8_refusalOf_218 : decode cX8_refusalOf 218 = .ok (.aload_n 0, 1) := by decide +kernel
theorem dX8_refusalOf_219 : decode cX8_refusalOf 219 = .ok (.iload_n 2, 1) := by decide +kernel
theorem dX8_refusalOf_220 : decode cX8_refusalOf 220 = .ok (.invokestatic 71, 3) := by decide +kernel
theorem dX8_refusalOf_223 : decode cX8_refusalOf 223 = .ok (.areturn, 1) := by decide +kernel
theorem dX8_refusalOf_224 : decode cX8_refusalOf 224 = .ok (.aload_n 0, 1) := by decide +kernel
theorem dX8_refusalOf_225 : decode cX8_refusalOf 225 = .ok (.iload_n 2, 1) := by decide +kernel
theorem dX8_refusalOf_226 : decode cX8_refusalOf 226 = .ok (.iload_n 3, 1) := by decide +kernel
theorem dX8_refusalOf_227 : decode cX8_refusalOf 227 = .ok (.invokestatic 74, 3) := by decide +kernel
theorem dX8_refusalOf_230 : decode cX8_refusalOf 230 = .ok (.areturn, 1) := by decide +kernel
theorem dX8_refusalOf_231 : decode cX8_refusalOf 231 = .ok (.aload_n 0, 1) := by decide +kernel
theorem dX8_refusalOf_232 : decode cX8_refusalOf 232 = .ok (.iload_n 2, 1) := by decide +kernel
theorem dX8_refusalOf_233 : decode cX8_refusalOf 233 = .ok (.invokevirtual 77, 3) := by decide +kernel
theorem dX8_refusalOf_236 : decode cX8_refusalOf 236 = .ok (.ifCond .eq 9, 3) := by decide +kernel
theorem dX8_refusalOf_239 : decode cX8_refusalOf 239 = .ok (.getstatic 27, 3) := by decide +kernel
theorem dX8_refusalOf_242 : decode cX8_refusalOf 242 = .ok (.goto 6, 3) := by decide +kernel
theorem dX8_refusalOf_245 : decode cX8_refusalOf 245 = .ok (.getstatic 81, 3) := by decide +kernel
theorem dX8_refusalOf_248 : decode cX8_refusalOf 248 = .ok (.areturn, 1) := by decide +kernel
theorem dX8_refusalOf_249 : decode cX8_refusalOf 249 = .ok (.aload_n 0, 1) := by decide +kernel
theorem dX8_refusalOf_250 : decode cX8_refusalOf 250 = .ok (.iload_n 2, 1) := by decide +kernel
theorem dX8_refusalOf_251 : decode cX8_refusalOf 251 = .ok (.iload_n 3, 1) := by decide +kernel
theorem dX8_refusalOf_252 : decode cX8_refusalOf 252 = .ok (.invokestatic 84, 3) := by decide +kernel
theorem dX8_refusalOf_255 : decode cX8_refusalOf 255 = .ok (.areturn, 1) := by decide +kernel
theorem dX8_refusalOf_256 : decode cX8_refusalOf 256 = .ok (.aload_n 0, 1) := by decide +kernel
theorem dX8_refusalOf_257 : decode cX8_refusalOf 257 = .ok (.iload_n 2, 1) := by decide +kernel
theorem dX8_refusalOf_258 : decode cX8_refusalOf 258 = .ok (.bipush 107, 2) := by decide +kernel
theorem dX8_refusalOf_260 : decode cX8_refusalOf 260 = .ok (.invokestatic 46, 3) := by decide +kernel
theorem dX8_refusalOf_263 : decode cX8_refusalOf 263 = .ok (.areturn, 1) := by decide +kernel
theorem dX8_refusalOf_264 : decode cX8_refusalOf 264 = .ok (.aload_n 0, 1) := by decide +kernel
theorem dX8_refusalOf_265 : decode cX8_refusalOf 265 = .ok (.iload_n 2, 1) := by decide +kernel
theorem dX8_refusalOf_266 : decode cX8_refusalOf 266 = .ok (.iload_n 3, 1) := by decide +kernel
theorem dX8_refusalOf_267 : decode cX8_refusalOf 267 = .ok (.iload 4, 2) := by decide +kernel
theorem dX8_refusalOf_269 : decode cX8_refusalOf 269 = .ok (.invokestatic 87, 3) := by decide +kernel
theorem dX8_refusalOf_272 : decode cX8_refusalOf 272 = .ok (.areturn, 1) := by decide +kernel
theorem dX8_refusalOf_273 : decode cX8_refusalOf 273 = .ok (.aload_n 0, 1) := by decide +kernel
theorem dX8_refusalOf_274 : decode cX8_refusalOf 274 = .ok (.iload_n 2, 1) := by decide +kernel
theorem dX8_refusalOf_275 : decode cX8_refusalOf 275 = .ok (.bipush 104, 2) := by decide +kernel
theorem dX8_refusalOf_277 : decode cX8_refusalOf 277 = .ok (.invokestatic 46, 3) := by decide +kernel
theorem dX8_refusalOf_280 : decode cX8_refusalOf 280 = .ok (.areturn, 1) := by decide +kernel
theorem dX8_refusalOf_281 : decode cX8_refusalOf 281 = .ok (.getstatic 33, 3) := by decide +kernel
theorem dX8_refusalOf_284 : decode cX8_refusalOf 284 = .ok (.areturn, 1) := by decide +kernel
theorem dX8_isIn_0 : decode cX8_isIn 0 = .ok (.iload_n 0, 1) := by decide +kernel
theorem dX8_isIn_1 : decode cX8_isIn 1 = .ok (.iload_n 1, 1) := by decide +kernel
theorem dX8_isIn_2 : decode cX8_isIn 2 = .ok (.if_icmp .lt 12, 3) := by decide +kernel
theorem dX8_isIn_5 : decode cX8_isIn 5 = .ok (.iload_n 0, 1) := by decide +kernel
theorem dX8_isIn_6 : decode cX8_isIn 6 = .ok (.iload_n 2, 1) := by decide +kernel
theorem dX8_isIn_7 : decode cX8_isIn 7 = .ok (.if_icmp .gt 7, 3) := by decide +kernel
theorem dX8_isIn_10 : decode cX8_isIn 10 = .ok (.iconst 1, 1) := by decide +kernel
theorem dX8_isIn_11 : decode cX8_isIn 11 = .ok (.goto 4, 3) := by decide +kernel
theorem dX8_isIn_14 : decode cX8_isIn 14 = .ok (.iconst 0, 1) := by decide +kernel
theorem dX8_isIn_15 : decode cX8_isIn 15 = .ok (.ireturn, 1) := by decide +kernel
theorem dX8_areLicences_0 : decode cX8_areLicences 0 = .ok (.iload_n 0, 1) := by decide +kernel
theorem dX8_areLicences_1 : decode cX8_areLicences 1 = .ok (.iconst 0, 1) := by decide +kernel
theorem dX8_areLicences_2 : decode cX8_areLicences 2 = .ok (.bipush 63, 2) := by decide +kernel
theorem dX8_areLicences_4 : decode cX8_areLicences 4 = .ok (.invokestatic 23, 3) := by decide +kernel
theorem dX8_areLicences_7 : decode cX8_areLicences 7 = .ok (.ifCond .eq 18, 3) := by decide +kernel
theorem dX8_areLicences_10 : decode cX8_areLicences 10 = .ok (.iload_n 1, 1) := by decide +kernel
theorem dX8_areLicences_11 : decode cX8_areLicences 11 = .ok (.iconst 0, 1) := by decide +kernel
theorem dX8_areLicences_12 : decode cX8_areLicences 12 = .ok (.sipush 9999, 3) := by decide +kernel
theorem dX8_areLicences_15 : decode cX8_areLicences 15 = .ok (.invokestatic 23, 3) := by decide +kernel
theorem dX8_areLicences_18 : decode cX8_areLicences 18 = .ok (.ifCond .eq 7, 3) := by decide +kernel
theorem dX8_areLicences_21 : decode cX8_areLicences 21 = .ok (.iconst 1, 1) := by decide +kernel
theorem dX8_areLicences_22 : decode cX8_areLicences 22 = .ok (.goto 4, 3) := by decide +kernel
theorem dX8_areLicences_25 : decode cX8_areLicences 25 = .ok (.iconst 0, 1) := by decide +kernel
theorem dX8_areLicences_26 : decode cX8_areLicences 26 = .ok (.ireturn, 1) := by decide +kernel
theorem dX8_ofAddRigger_0 : decode cX8_ofAddRigger 0 = .ok (.iload_n 1, 1) := by decide +kernel
theorem dX8_ofAddRigger_1 : decode cX8_ofAddRigger 1 = .ok (.iload_n 2, 1) := by decide +kernel
theorem dX8_ofAddRigger_2 : decode cX8_ofAddRigger 2 = .ok (.invokestatic 90, 3) := by decide +kernel
theorem dX8_ofAddRigger_5 : decode cX8_ofAddRigger 5 = .ok (.ifCond .ne 7, 3) := by decide +kernel
theorem dX8_ofAddRigger_8 : decode cX8_ofAddRigger 8 = .ok (.getstatic 33, 3) := by decide +kernel
theorem dX8_ofAddRigger_11 : decode cX8_ofAddRigger 11 = .ok (.areturn, 1) := by decide +kernel
theorem dX8_ofAddRigger_12 : decode cX8_ofAddRigger 12 = .ok (.aload_n 0, 1) := by decide +kernel
theorem dX8_ofAddRigger_13 : decode cX8_ofAddRigger 13 = .ok (.getfield 94, 3) := by decide +kernel
theorem dX8_ofAddRigger_16 : decode cX8_ofAddRigger 16 = .ok (.bipush 8, 2) := by decide +kernel
theorem dX8_ofAddRigger_18 : decode cX8_ofAddRigger 18 = .ok (.if_icmp .ge 9, 3) := by decide +kernel
theorem dX8_ofAddRigger_21 : decode cX8_ofAddRigger 21 = .ok (.getstatic 27, 3) := by decide +kernel
theorem dX8_ofAddRigger_24 : decode cX8_ofAddRigger 24 = .ok (.goto 6, 3) := by decide +kernel
theorem dX8_ofAddRigger_27 : decode cX8_ofAddRigger 27 = .ok (.getstatic 56, 3) := by decide +kernel
theorem dX8_ofAddRigger_30 : decode cX8_ofAddRigger 30 = .ok (.areturn, 1) := by decide +kernel
theorem dX8_ofSetLicences_0 : decode cX8_ofSetLicences 0 = .ok (.aload_n 0, 1) := by decide +kernel
theorem dX8_ofSetLicences_1 : decode cX8_ofSetLicences 1 = .ok (.iload_n 1, 1) := by decide +kernel
theorem dX8_ofSetLicences_2 : decode cX8_ofSetLicences 2 = .ok (.invokevirtual 97, 3) := by decide +kernel
theorem dX8_ofSetLicences_5 : decode cX8_ofSetLicences 5 = .ok (.ifCond .ne 7, 3) := by decide +kernel
theorem dX8_ofSetLicences_8 : decode cX8_ofSetLicences 8 = .ok (.getstatic 81, 3) := by decide +kernel
theorem dX8_ofSetLicences_11 : decode cX8_ofSetLicences 11 = .ok (.areturn, 1) := by decide +kernel
theorem dX8_ofSetLicences_12 : decode cX8_ofSetLicences 12 = .ok (.iload_n 2, 1) := by decide +kernel
theorem dX8_ofSetLicences_13 : decode cX8_ofSetLicences 13 = .ok (.iload_n 3, 1) := by decide +kernel
theorem dX8_ofSetLicences_14 : decode cX8_ofSetLicences 14 = .ok (.invokestatic 90, 3) := by decide +kernel
theorem dX8_ofSetLicences_17 : decode cX8_ofSetLicences 17 = .ok (.ifCond .eq 9, 3) := by decide +kernel
theorem dX8_ofSetLicences_20 : decode cX8_ofSetLicences 20 = .ok (.getstatic 27, 3) := by decide +kernel
theorem dX8_ofSetLicences_23 : decode cX8_ofSetLicences 23 = .ok (.goto 6, 3) := by decide +kernel
theorem dX8_ofSetLicences_26 : decode cX8_ofSetLicences 26 = .ok (.getstatic 33, 3) := by decide +kernel
theorem dX8_ofSetLicences_29 : decode cX8_ofSetLicences 29 = .ok (.areturn, 1) := by decide +kernel
theorem dX8_ofAddCanopy_0 : decode cX8_ofAddCanopy 0 = .ok (.iload_n 1, 1) := by decide +kernel
theorem dX8_ofAddCanopy_1 : decode cX8_ofAddCanopy 1 = .ok (.bipush 109, 2) := by decide +kernel
theorem dX8_ofAddCanopy_3 : decode cX8_ofAddCanopy 3 = .ok (.if_icmp .eq 13, 3) := by decide +kernel
theorem dX8_ofAddCanopy_6 : decode cX8_ofAddCanopy 6 = .ok (.iload_n 1, 1) := by decide +kernel
theorem dX8_ofAddCanopy_7 : decode cX8_ofAddCanopy 7 = .ok (.bipush 114, 2) := by decide +kernel
theorem dX8_ofAddCanopy_9 : decode cX8_ofAddCanopy 9 = .ok (.if_icmp .eq 7, 3) := by decide +kernel
theorem dX8_ofAddCanopy_12 : decode cX8_ofAddCanopy 12 = .ok (.getstatic 33, 3) := by decide +kernel
theorem dX8_ofAddCanopy_15 : decode cX8_ofAddCanopy 15 = .ok (.areturn, 1) := by decide +kernel
theorem dX8_ofAddCanopy_16 : decode cX8_ofAddCanopy 16 = .ok (.iload_n 2, 1) := by decide +kernel
theorem dX8_ofAddCanopy_17 : decode cX8_ofAddCanopy 17 = .ok (.iconst 0, 1) := by decide +kernel
theorem dX8_ofAddCanopy_18 : decode cX8_ofAddCanopy 18 = .ok (.bipush 9, 2) := by decide +kernel
theorem dX8_ofAddCanopy_20 : decode cX8_ofAddCanopy 20 = .ok (.invokestatic 23, 3) := by decide +kernel
theorem dX8_ofAddCanopy_23 : decode cX8_ofAddCanopy 23 = .ok (.ifCond .eq 25, 3) := by decide +kernel
theorem dX8_ofAddCanopy_26 : decode cX8_ofAddCanopy 26 = .ok (.iload_n 3, 1) := by decide +kernel
theorem dX8_ofAddCanopy_27 : decode cX8_ofAddCanopy 27 = .ok (.iconst 0, 1) := by decide +kernel
theorem dX8_ofAddCanopy_28 : decode cX8_ofAddCanopy 28 = .ok (.bipush 9, 2) := by decide +kernel
theorem dX8_ofAddCanopy_30 : decode cX8_ofAddCanopy 30 = .ok (.invokestatic 23, 3) := by decide +kernel
theorem dX8_ofAddCanopy_33 : decode cX8_ofAddCanopy 33 = .ok (.ifCond .eq 15, 3) := by decide +kernel
theorem dX8_ofAddCanopy_36 : decode cX8_ofAddCanopy 36 = .ok (.iload 4, 2) := by decide +kernel
theorem dX8_ofAddCanopy_38 : decode cX8_ofAddCanopy 38 = .ok (.iconst 1, 1) := by decide +kernel
theorem dX8_ofAddCanopy_39 : decode cX8_ofAddCanopy 39 = .ok (.sipush 9999, 3) := by decide +kernel
theorem dX8_ofAddCanopy_42 : decode cX8_ofAddCanopy 42 = .ok (.invokestatic 23, 3) := by decide +kernel
theorem dX8_ofAddCanopy_45 : decode cX8_ofAddCanopy 45 = .ok (.ifCond .ne 7, 3) := by decide +kernel
theorem dX8_ofAddCanopy_48 : decode cX8_ofAddCanopy 48 = .ok (.getstatic 33, 3) := by decide +kernel
theorem dX8_ofAddCanopy_51 : decode cX8_ofAddCanopy 51 = .ok (.areturn, 1) := by decide +kernel
theorem dX8_ofAddCanopy_52 : decode cX8_ofAddCanopy 52 = .ok (.aload_n 0, 1) := by decide +kernel
theorem dX8_ofAddCanopy_53 : decode cX8_ofAddCanopy 53 = .ok (.getfield 100, 3) := by decide +kernel
theorem dX8_ofAddCanopy_56 : decode cX8_ofAddCanopy 56 = .ok (.bipush 24, 2) := by decide +kernel
theorem dX8_ofAddCanopy_58 : decode cX8_ofAddCanopy 58 = .ok (.if_icmp .ge 9, 3) := by decide +kernel
theorem dX8_ofAddCanopy_61 : decode cX8_ofAddCanopy 61 = .ok (.getstatic 27, 3) := by decide +kernel
theorem dX8_ofAddCanopy_64 : decode cX8_ofAddCanopy 64 = .ok (.goto 6, 3) := by decide +kernel
theorem dX8_ofAddCanopy_67 : decode cX8_ofAddCanopy 67 = .ok (.getstatic 56, 3) := by decide +kernel
theorem dX8_ofAddCanopy_70 : decode cX8_ofAddCanopy 70 = .ok (.areturn, 1) := by decide +kernel
theorem dX8_ofGoOn_0 : decode cX8_ofGoOn 0 = .ok (.iload_n 1, 1) := by decide +kernel
theorem dX8_ofGoOn_1 : decode cX8_ofGoOn 1 = .ok (.iconst 1, 1) := by decide +kernel
theorem dX8_ofGoOn_2 : decode cX8_ofGoOn 2 = .ok (.sipush 999, 3) := by decide +kernel
theorem dX8_ofGoOn_5 : decode cX8_ofGoOn 5 = .ok (.invokestatic 23, 3) := by decide +kernel
theorem dX8_ofGoOn_8 : decode cX8_ofGoOn 8 = .ok (.ifCond .ne 7, 3) := by decide +kernel
theorem dX8_ofGoOn_11 : decode cX8_ofGoOn 11 = .ok (.getstatic 33, 3) := by decide +kernel
theorem dX8_ofGoOn_14 : decode cX8_ofGoOn 14 = .ok (.areturn, 1) := by decide +kernel
theorem dX8_ofGoOn_15 : decode cX8_ofGoOn 15 = .ok (.aload_n 0, 1) := by decide +kernel
theorem dX8_ofGoOn_16 : decode cX8_ofGoOn 16 = .ok (.getfield 103, 3) := by decide +kernel
theorem dX8_ofGoOn_19 : decode cX8_ofGoOn 19 = .ok (.iload_n 1, 1) := by decide +kernel
theorem dX8_ofGoOn_20 : decode cX8_ofGoOn 20 = .ok (.iadd, 1) := by decide +kernel
theorem dX8_ofGoOn_21 : decode cX8_ofGoOn 21 = .ok (.sipush 9999, 3) := by decide +kernel
theorem dX8_ofGoOn_24 : decode cX8_ofGoOn 24 = .ok (.if_icmp .gt 9, 3) := by decide +kernel
theorem dX8_ofGoOn_27 : decode cX8_ofGoOn 27 = .ok (.getstatic 27, 3) := by decide +kernel
theorem dX8_ofGoOn_30 : decode cX8_ofGoOn 30 = .ok (.goto 6, 3) := by decide +kernel
theorem dX8_ofGoOn_33 : decode cX8_ofGoOn 33 = .ok (.getstatic 56, 3) := by decide +kernel
theorem dX8_ofGoOn_36 : decode cX8_ofGoOn 36 = .ok (.areturn, 1) := by decide +kernel
theorem dX8_ofCanopyIn_0 : decode cX8_ofCanopyIn 0 = .ok (.aload_n 0, 1) := by decide +kernel
theorem dX8_ofCanopyIn_1 : decode cX8_ofCanopyIn 1 = .ok (.iload_n 1, 1) := by decide +kernel
theorem dX8_ofCanopyIn_2 : decode cX8_ofCanopyIn 2 = .ok (.invokevirtual 106, 3) := by decide +kernel
theorem dX8_ofCanopyIn_5 : decode cX8_ofCanopyIn 5 = .ok (.ifCond .ne 7, 3) := by decide +kernel
theorem dX8_ofCanopyIn_8 : decode cX8_ofCanopyIn 8 = .ok (.getstatic 81, 3) := by decide +kernel
theorem dX8_ofCanopyIn_11 : decode cX8_ofCanopyIn 11 = .ok (.areturn, 1) := by decide +kernel
theorem dX8_ofCanopyIn_12 : decode cX8_ofCanopyIn 12 = .ok (.aload_n 0, 1) := by decide +kernel
theorem dX8_ofCanopyIn_13 : decode cX8_ofCanopyIn 13 = .ok (.getfield 109, 3) := by decide +kernel
theorem dX8_ofCanopyIn_16 : decode cX8_ofCanopyIn 16 = .ok (.iload_n 1, 1) := by decide +kernel
theorem dX8_ofCanopyIn_17 : decode cX8_ofCanopyIn 17 = .ok (.aaload, 1) := by decide +kernel
theorem dX8_ofCanopyIn_18 : decode cX8_ofCanopyIn 18 = .ok (.getfield 113, 3) := by decide +kernel
theorem dX8_ofCanopyIn_21 : decode cX8_ofCanopyIn 21 = .ok (.iload_n 2, 1) := by decide +kernel
theorem dX8_ofCanopyIn_22 : decode cX8_ofCanopyIn 22 = .ok (.if_icmp .ne 9, 3) := by decide +kernel
theorem dX8_ofCanopyIn_25 : decode cX8_ofCanopyIn 25 = .ok (.getstatic 27, 3) := by decide +kernel
theorem dX8_ofCanopyIn_28 : decode cX8_ofCanopyIn 28 = .ok (.goto 6, 3) := by decide +kernel
theorem dX8_ofCanopyIn_31 : decode cX8_ofCanopyIn 31 = .ok (.getstatic 119, 3) := by decide +kernel
theorem dX8_ofCanopyIn_34 : decode cX8_ofCanopyIn 34 = .ok (.areturn, 1) := by decide +kernel
theorem dX8_ofHang_0 : decode cX8_ofHang 0 = .ok (.aload_n 0, 1) := by decide +kernel
theorem dX8_ofHang_1 : decode cX8_ofHang 1 = .ok (.iload_n 1, 1) := by decide +kernel
theorem dX8_ofHang_2 : decode cX8_ofHang 2 = .ok (.invokevirtual 106, 3) := by decide +kernel
theorem dX8_ofHang_5 : decode cX8_ofHang 5 = .ok (.ifCond .ne 7, 3) := by decide +kernel
theorem dX8_ofHang_8 : decode cX8_ofHang 8 = .ok (.getstatic 81, 3) := by decide +kernel
theorem dX8_ofHang_11 : decode cX8_ofHang 11 = .ok (.areturn, 1) := by decide +kernel
theorem dX8_ofHang_12 : decode cX8_ofHang 12 = .ok (.iload_n 2, 1) := by decide +kernel
theorem dX8_ofHang_13 : decode cX8_ofHang 13 = .ok (.iconst 0, 1) := by decide +kernel
theorem dX8_ofHang_14 : decode cX8_ofHang 14 = .ok (.iconst 5, 1) := by decide +kernel
theorem dX8_ofHang_15 : decode cX8_ofHang 15 = .ok (.invokestatic 23, 3) := by decide +kernel
theorem dX8_ofHang_18 : decode cX8_ofHang 18 = .ok (.ifCond .ne 7, 3) := by decide +kernel
theorem dX8_ofHang_21 : decode cX8_ofHang 21 = .ok (.getstatic 33, 3) := by decide +kernel
theorem dX8_ofHang_24 : decode cX8_ofHang 24 = .ok (.areturn, 1) := by decide +kernel
theorem dX8_ofHang_25 : decode cX8_ofHang 25 = .ok (.aload_n 0, 1) := by decide +kernel
theorem dX8_ofHang_26 : decode cX8_ofHang 26 = .ok (.getfield 109, 3) := by decide +kernel
theorem dX8_ofHang_29 : decode cX8_ofHang 29 = .ok (.iload_n 1, 1) := by decide +kernel
theorem dX8_ofHang_30 : decode cX8_ofHang 30 = .ok (.aaload, 1) := by decide +kernel
theorem dX8_ofHang_31 : decode cX8_ofHang 31 = .ok (.getfield 113, 3) := by decide +kernel
theorem dX8_ofHang_34 : decode cX8_ofHang 34 = .ok (.bipush 111, 2) := by decide +kernel
theorem dX8_ofHang_36 : decode cX8_ofHang 36 = .ok (.if_icmp .eq 7, 3) := by decide +kernel
theorem dX8_ofHang_39 : decode cX8_ofHang 39 = .ok (.getstatic 119, 3) := by decide +kernel
theorem dX8_ofHang_42 : decode cX8_ofHang 42 = .ok (.areturn, 1) := by decide +kernel
theorem dX8_ofHang_43 : decode cX8_ofHang 43 = .ok (.aload_n 0, 1) := by decide +kernel
theorem dX8_ofHang_44 : decode cX8_ofHang 44 = .ok (.iload_n 2, 1) := by decide +kernel
theorem dX8_ofHang_45 : decode cX8_ofHang 45 = .ok (.invokevirtual 122, 3) := by decide +kernel
theorem dX8_ofHang_48 : decode cX8_ofHang 48 = .ok (.ifCond .eq 9, 3) := by decide +kernel
theorem dX8_ofHang_51 : decode cX8_ofHang 51 = .ok (.getstatic 27, 3) := by decide +kernel
theorem dX8_ofHang_54 : decode cX8_ofHang 54 = .ok (.goto 6, 3) := by decide +kernel
theorem dX8_ofHang_57 : decode cX8_ofHang 57 = .ok (.getstatic 56, 3) := by decide +kernel
theorem dX8_ofHang_60 : decode cX8_ofHang 60 = .ok (.areturn, 1) := by decide +kernel
theorem dX8_ofStep_0 : decode cX8_ofStep 0 = .ok (.aload_n 0, 1) := by decide +kernel
theorem dX8_ofStep_1 : decode cX8_ofStep 1 = .ok (.iload_n 1, 1) := by decide +kernel
theorem dX8_ofStep_2 : decode cX8_ofStep 2 = .ok (.invokevirtual 106, 3) := by decide +kernel
theorem dX8_ofStep_5 : decode cX8_ofStep 5 = .ok (.ifCond .eq 11, 3) := by decide +kernel
theorem dX8_ofStep_8 : decode cX8_ofStep 8 = .ok (.aload_n 0, 1) := by decide +kernel
theorem dX8_ofStep_9 : decode cX8_ofStep 9 = .ok (.iload_n 2, 1) := by decide +kernel
theorem dX8_ofStep_10 : decode cX8_ofStep 10 = .ok (.invokevirtual 97, 3) := by decide +kernel
theorem dX8_ofStep_13 : decode cX8_ofStep 13 = .ok (.ifCond .ne 7, 3) := by decide +kernel
theorem dX8_ofStep_16 : decode cX8_ofStep 16 = .ok (.getstatic 81, 3) := by decide +kernel
theorem dX8_ofStep_19 : decode cX8_ofStep 19 = .ok (.areturn, 1) := by decide +kernel
theorem dX8_ofStep_20 : decode cX8_ofStep 20 = .ok (.aload_n 0, 1) := by decide +kernel
theorem dX8_ofStep_21 : decode cX8_ofStep 21 = .ok (.getfield 109, 3) := by decide +kernel
theorem dX8_ofStep_24 : decode cX8_ofStep 24 = .ok (.iload_n 1, 1) := by decide +kernel
theorem dX8_ofStep_25 : decode cX8_ofStep 25 = .ok (.aaload, 1) := by decide +kernel
theorem dX8_ofStep_26 : decode cX8_ofStep 26 = .ok (.astore_n 3, 1) := by decide +kernel
theorem dX8_ofStep_27 : decode cX8_ofStep 27 = .ok (.aload_n 3, 1) := by decide +kernel
theorem dX8_ofStep_28 : decode cX8_ofStep 28 = .ok (.getfield 125, 3) := by decide +kernel
theorem dX8_ofStep_31 : decode cX8_ofStep 31 = .ok (.istore 4, 2) := by decide +kernel
theorem dX8_ofStep_33 : decode cX8_ofStep 33 = .ok (.aload_n 3, 1) := by decide +kernel
theorem dX8_ofStep_34 : decode cX8_ofStep 34 = .ok (.getfield 113, 3) := by decide +kernel
theorem dX8_ofStep_37 : decode cX8_ofStep 37 = .ok (.bipush 112, 2) := by decide +kernel
theorem dX8_ofStep_39 : decode cX8_ofStep 39 = .ok (.if_icmp .ne 13, 3) := by decide +kernel
theorem dX8_ofStep_42 : decode cX8_ofStep 42 = .ok (.iload 4, 2) := by decide +kernel
theorem dX8_ofStep_44 : decode cX8_ofStep 44 = .ok (.iconst 0, 1) := by decide +kernel
theorem dX8_ofStep_45 : decode cX8_ofStep 45 = .ok (.iconst 4, 1) := by decide +kernel
theorem dX8_ofStep_46 : decode cX8_ofStep 46 = .ok (.invokestatic 23, 3) := by decide +kernel
theorem dX8_ofStep_49 : decode cX8_ofStep 49 = .ok (.ifCond .ne 7, 3) := by decide +kernel
theorem dX8_ofStep_52 : decode cX8_ofStep 52 = .ok (.getstatic 119, 3) := by decide +kernel
theorem dX8_ofStep_55 : decode cX8_ofStep 55 = .ok (.areturn, 1) := by decide +kernel
theorem dX8_ofStep_56 : decode cX8_ofStep 56 = .ok (.aload_n 0, 1) := by decide +kernel
theorem dX8_ofStep_57 : decode cX8_ofStep 57 = .ok (.getfield 128, 3) := by decide +kernel
theorem dX8_ofStep_60 : decode cX8_ofStep 60 = .ok (.iload_n 2, 1) := by decide +kernel
theorem dX8_ofStep_61 : decode cX8_ofStep 61 = .ok (.aaload, 1) := by decide +kernel
theorem dX8_ofStep_62 : decode cX8_ofStep 62 = .ok (.iload 4, 2) := by decide +kernel
theorem dX8_ofStep_64 : decode cX8_ofStep 64 = .ok (.aload_n 0, 1) := by decide +kernel
theorem dX8_ofStep_65 : decode cX8_ofStep 65 = .ok (.getfield 103, 3) := by decide +kernel
theorem dX8_ofStep_68 : decode cX8_ofStep 68 = .ok (.invokevirtual 132, 3) := by decide +kernel
theorem dX8_ofStep_71 : decode cX8_ofStep 71 = .ok (.ifCond .ne 7, 3) := by decide +kernel
theorem dX8_ofStep_74 : decode cX8_ofStep 74 = .ok (.getstatic 33, 3) := by decide +kernel
theorem dX8_ofStep_77 : decode cX8_ofStep 77 = .ok (.areturn, 1) := by decide +kernel
theorem dX8_ofStep_78 : decode cX8_ofStep 78 = .ok (.iload 4, 2) := by decide +kernel
theorem dX8_ofStep_80 : decode cX8_ofStep 80 = .ok (.iconst 4, 1) := by decide +kernel
theorem dX8_ofStep_81 : decode cX8_ofStep 81 = .ok (.if_icmp .ne 17, 3) := by decide +kernel
theorem dX8_ofStep_84 : decode cX8_ofStep 84 = .ok (.aload_n 3, 1) := by decide +kernel
theorem dX8_ofStep_85 : decode cX8_ofStep 85 = .ok (.getfield 137, 3) := by decide +kernel
theorem dX8_ofStep_88 : decode cX8_ofStep 88 = .ok (.iconst 3, 1) := by decide +kernel
theorem dX8_ofStep_89 : decode cX8_ofStep 89 = .ok (.iaload, 1) := by decide +kernel
theorem dX8_ofStep_90 : decode cX8_ofStep 90 = .ok (.iload_n 2, 1) := by decide +kernel
theorem dX8_ofStep_91 : decode cX8_ofStep 91 = .ok (.if_icmp .ne 7, 3) := by decide +kernel
theorem dX8_ofStep_94 : decode cX8_ofStep 94 = .ok (.iconst 1, 1) := by decide +kernel
theorem dX8_ofStep_95 : decode cX8_ofStep 95 = .ok (.goto 4, 3) := by decide +kernel
theorem dX8_ofStep_98 : decode cX8_ofStep 98 = .ok (.iconst 0, 1) := by decide +kernel
theorem dX8_ofStep_99 : decode cX8_ofStep 99 = .ok (.istore 5, 2) := by decide +kernel
theorem dX8_ofStep_101 : decode cX8_ofStep 101 = .ok (.iload 5, 2) := by decide +kernel
theorem dX8_ofStep_103 : decode cX8_ofStep 103 = .ok (.ifCond .eq 9, 3) := by decide +kernel
theorem dX8_ofStep_106 : decode cX8_ofStep 106 = .ok (.getstatic 33, 3) := by decide +kernel
theorem dX8_ofStep_109 : decode cX8_ofStep 109 = .ok (.goto 6, 3) := by decide +kernel
theorem dX8_ofStep_112 : decode cX8_ofStep 112 = .ok (.getstatic 27, 3) := by decide +kernel
theorem dX8_ofStep_115 : decode cX8_ofStep 115 = .ok (.areturn, 1) := by decide +kernel
theorem dX8_ofBoard_0 : decode cX8_ofBoard 0 = .ok (.aload_n 0, 1) := by decide +kernel
theorem dX8_ofBoard_1 : decode cX8_ofBoard 1 = .ok (.iload_n 1, 1) := by decide +kernel
theorem dX8_ofBoard_2 : decode cX8_ofBoard 2 = .ok (.invokevirtual 141, 3) := by decide +kernel
theorem dX8_ofBoard_5 : decode cX8_ofBoard 5 = .ok (.ifCond .eq 19, 3) := by decide +kernel
theorem dX8_ofBoard_8 : decode cX8_ofBoard 8 = .ok (.aload_n 0, 1) := by decide +kernel
theorem dX8_ofBoard_9 : decode cX8_ofBoard 9 = .ok (.iload_n 2, 1) := by decide +kernel
theorem dX8_ofBoard_10 : decode cX8_ofBoard 10 = .ok (.invokevirtual 106, 3) := by decide +kernel
theorem dX8_ofBoard_13 : decode cX8_ofBoard 13 = .ok (.ifCond .eq 11, 3) := by decide +kernel
theorem dX8_ofBoard_16 : decode cX8_ofBoard 16 = .ok (.aload_n 0, 1) := by decide +kernel
theorem dX8_ofBoard_17 : decode cX8_ofBoard 17 = .ok (.iload_n 3, 1) := by decide +kernel
theorem dX8_ofBoard_18 : decode cX8_ofBoard 18 = .ok (.invokevirtual 106, 3) := by decide +kernel
theorem dX8_ofBoard_21 : decode cX8_ofBoard 21 = .ok (.ifCond .ne 7, 3) := by decide +kernel
theorem dX8_ofBoard_24 : decode cX8_ofBoard 24 = .ok (.getstatic 81, 3) := by decide +kernel
theorem dX8_ofBoard_27 : decode cX8_ofBoard 27 = .ok (.areturn, 1) := by decide +kernel
theorem dX8_ofBoard_28 : decode cX8_ofBoard 28 = .ok (.aload_n 0, 1) := by decide +kernel
theorem dX8_ofBoard_29 : decode cX8_ofBoard 29 = .ok (.getfield 109, 3) := by decide +kernel
theorem dX8_ofBoard_32 : decode cX8_ofBoard 32 = .ok (.iload_n 2, 1) := by decide +kernel
theorem dX8_ofBoard_33 : decode cX8_ofBoard 33 = .ok (.aaload, 1) := by decide +kernel
theorem dX8_ofBoard_34 : decode cX8_ofBoard 34 = .ok (.astore 4, 2) := by decide +kernel
theorem dX8_ofBoard_36 : decode cX8_ofBoard 36 = .ok (.aload_n 0, 1) := by decide +kernel
theorem dX8_ofBoard_37 : decode cX8_ofBoard 37 = .ok (.getfield 109, 3) := by decide +kernel
theorem dX8_ofBoard_40 : decode cX8_ofBoard 40 = .ok (.iload_n 3, 1) := by decide +kernel
theorem dX8_ofBoard_41 : decode cX8_ofBoard 41 = .ok (.aaload, 1) := by decide +kernel
theorem dX8_ofBoard_42 : decode cX8_ofBoard 42 = .ok (.astore 5, 2) := by decide +kernel
theorem dX8_ofBoard_44 : decode cX8_ofBoard 44 = .ok (.aload 4, 2) := by decide +kernel
theorem dX8_ofBoard_46 : decode cX8_ofBoard 46 = .ok (.getfield 144, 3) := by decide +kernel
theorem dX8_ofBoard_49 : decode cX8_ofBoard 49 = .ok (.bipush 109, 2) := by decide +kernel
theorem dX8_ofBoard_51 : decode cX8_ofBoard 51 = .ok (.if_icmp .ne 13, 3) := by decide +kernel
theorem dX8_ofBoard_54 : decode cX8_ofBoard 54 = .ok (.aload 5, 2) := by decide +kernel
theorem dX8_ofBoard_56 : decode cX8_ofBoard 56 = .ok (.getfield 144, 3) := by decide +kernel
theorem dX8_ofBoard_59 : decode cX8_ofBoard 59 = .ok (.bipush 114, 2) := by decide +kernel
theorem dX8_ofBoard_61 : decode cX8_ofBoard 61 = .ok (.if_icmp .eq 7, 3) := by decide +kernel
theorem dX8_ofBoard_64 : decode cX8_ofBoard 64 = .ok (.getstatic 33, 3) := by decide +kernel
theorem dX8_ofBoard_67 : decode cX8_ofBoard 67 = .ok (.areturn, 1) := by decide +kernel
theorem dX8_ofBoard_68 : decode cX8_ofBoard 68 = .ok (.aload 4, 2) := by decide +kernel
theorem dX8_ofBoard_70 : decode cX8_ofBoard 70 = .ok (.getfield 113, 3) := by decide +kernel
theorem dX8_ofBoard_73 : decode cX8_ofBoard 73 = .ok (.bipush 107, 2) := by decide +kernel
theorem dX8_ofBoard_75 : decode cX8_ofBoard 75 = .ok (.if_icmp .ne 25, 3) := by decide +kernel
theorem dX8_ofBoard_78 : decode cX8_ofBoard 78 = .ok (.aload 5, 2) := by decide +kernel
theorem dX8_ofBoard_80 : decode cX8_ofBoard 80 = .ok (.getfield 113, 3) := by decide +kernel
theorem dX8_ofBoard_83 : decode cX8_ofBoard 83 = .ok (.bipush 107, 2) := by decide +kernel
theorem dX8_ofBoard_85 : decode cX8_ofBoard 85 = .ok (.if_icmp .ne 15, 3) := by decide +kernel
theorem dX8_ofBoard_88 : decode cX8_ofBoard 88 = .ok (.aload_n 0, 1) := by decide +kernel
theorem dX8_ofBoard_89 : decode cX8_ofBoard 89 = .ok (.getfield 147, 3) := by decide +kernel
theorem dX8_ofBoard_92 : decode cX8_ofBoard 92 = .ok (.iload_n 1, 1) := by decide +kernel
theorem dX8_ofBoard_93 : decode cX8_ofBoard 93 = .ok (.aaload, 1) := by decide +kernel
theorem dX8_ofBoard_94 : decode cX8_ofBoard 94 = .ok (.getfield 151, 3) := by decide +kernel
theorem dX8_ofBoard_97 : decode cX8_ofBoard 97 = .ok (.ifCond .eq 7, 3) := by decide +kernel
theorem dX8_ofBoard_100 : decode cX8_ofBoard 100 = .ok (.getstatic 119, 3) := by decide +kernel
theorem dX8_ofBoard_103 : decode cX8_ofBoard 103 = .ok (.areturn, 1) := by decide +kernel
theorem dX8_ofBoard_104 : decode cX8_ofBoard 104 = .ok (.aload_n 0, 1) := by decide +kernel
theorem dX8_ofBoard_105 : decode cX8_ofBoard 105 = .ok (.iload_n 2, 1) := by decide +kernel
theorem dX8_ofBoard_106 : decode cX8_ofBoard 106 = .ok (.invokevirtual 157, 3) := by decide +kernel
theorem dX8_ofBoard_109 : decode cX8_ofBoard 109 = .ok (.ifCond .eq 11, 3) := by decide +kernel
theorem dX8_ofBoard_112 : decode cX8_ofBoard 112 = .ok (.aload_n 0, 1) := by decide +kernel
theorem dX8_ofBoard_113 : decode cX8_ofBoard 113 = .ok (.iload_n 3, 1) := by decide +kernel
theorem dX8_ofBoard_114 : decode cX8_ofBoard 114 = .ok (.invokevirtual 157, 3) := by decide +kernel
theorem dX8_ofBoard_117 : decode cX8_ofBoard 117 = .ok (.ifCond .ne 7, 3) := by decide +kernel
theorem dX8_ofBoard_120 : decode cX8_ofBoard 120 = .ok (.getstatic 119, 3) := by decide +kernel
theorem dX8_ofBoard_123 : decode cX8_ofBoard 123 = .ok (.areturn, 1) := by decide +kernel
theorem dX8_ofBoard_124 : decode cX8_ofBoard 124 = .ok (.aload_n 0, 1) := by decide +kernel
theorem dX8_ofBoard_125 : decode cX8_ofBoard 125 = .ok (.getfield 147, 3) := by decide +kernel
theorem dX8_ofBoard_128 : decode cX8_ofBoard 128 = .ok (.iload_n 1, 1) := by decide +kernel
theorem dX8_ofBoard_129 : decode cX8_ofBoard 129 = .ok (.aaload, 1) := by decide +kernel
theorem dX8_ofBoard_130 : decode cX8_ofBoard 130 = .ok (.getfield 160, 3) := by decide +kernel
theorem dX8_ofBoard_133 : decode cX8_ofBoard 133 = .ok (.bipush 6, 2) := by decide +kernel
theorem dX8_ofBoard_135 : decode cX8_ofBoard 135 = .ok (.if_icmp .ge 9, 3) := by decide +kernel
theorem dX8_ofBoard_138 : decode cX8_ofBoard 138 = .ok (.getstatic 27, 3) := by decide +kernel
theorem dX8_ofBoard_141 : decode cX8_ofBoard 141 = .ok (.goto 6, 3) := by decide +kernel
theorem dX8_ofBoard_144 : decode cX8_ofBoard 144 = .ok (.getstatic 56, 3) := by decide +kernel
theorem dX8_ofBoard_147 : decode cX8_ofBoard 147 = .ok (.areturn, 1) := by decide +kernel
theorem dX8_ofLeave_0 : decode cX8_ofLeave 0 = .ok (.aload_n 0, 1) := by decide +kernel
theorem dX8_ofLeave_1 : decode cX8_ofLeave 1 = .ok (.iload_n 1, 1) := by decide +kernel
theorem dX8_ofLeave_2 : decode cX8_ofLeave 2 = .ok (.invokevirtual 141, 3) := by decide +kernel
theorem dX8_ofLeave_5 : decode cX8_ofLeave 5 = .ok (.ifCond .ne 7, 3) := by decide +kernel
theorem dX8_ofLeave_8 : decode cX8_ofLeave 8 = .ok (.getstatic 81, 3) := by decide +kernel
theorem dX8_ofLeave_11 : decode cX8_ofLeave 11 = .ok (.areturn, 1) := by decide +kernel
theorem dX8_ofLeave_12 : decode cX8_ofLeave 12 = .ok (.aload_n 0, 1) := by decide +kernel
theorem dX8_ofLeave_13 : decode cX8_ofLeave 13 = .ok (.getfield 147, 3) := by decide +kernel
theorem dX8_ofLeave_16 : decode cX8_ofLeave 16 = .ok (.iload_n 1, 1) := by decide +kernel
theorem dX8_ofLeave_17 : decode cX8_ofLeave 17 = .ok (.aaload, 1) := by decide +kernel
theorem dX8_ofLeave_18 : decode cX8_ofLeave 18 = .ok (.getfield 160, 3) := by decide +kernel
theorem dX8_ofLeave_21 : decode cX8_ofLeave 21 = .ok (.ifCond .eq 15, 3) := by decide +kernel
theorem dX8_ofLeave_24 : decode cX8_ofLeave 24 = .ok (.aload_n 0, 1) := by decide +kernel
theorem dX8_ofLeave_25 : decode cX8_ofLeave 25 = .ok (.getfield 147, 3) := by decide +kernel
theorem dX8_ofLeave_28 : decode cX8_ofLeave 28 = .ok (.iload_n 1, 1) := by decide +kernel
theorem dX8_ofLeave_29 : decode cX8_ofLeave 29 = .ok (.aaload, 1) := by decide +kernel
theorem dX8_ofLeave_30 : decode cX8_ofLeave 30 = .ok (.getfield 151, 3) := by decide +kernel
theorem dX8_ofLeave_33 : decode cX8_ofLeave 33 = .ok (.ifCond .eq 9, 3) := by decide +kernel
theorem dX8_ofLeave_36 : decode cX8_ofLeave 36 = .ok (.getstatic 119, 3) := by decide +kernel
theorem dX8_ofLeave_39 : decode cX8_ofLeave 39 = .ok (.goto 6, 3) := by decide +kernel
theorem dX8_ofLeave_42 : decode cX8_ofLeave 42 = .ok (.getstatic 27, 3) := by decide +kernel
theorem dX8_ofLeave_45 : decode cX8_ofLeave 45 = .ok (.areturn, 1) := by decide +kernel
theorem dX8_ofJump_0 : decode cX8_ofJump 0 = .ok (.aload_n 0, 1) := by decide +kernel
theorem dX8_ofJump_1 : decode cX8_ofJump 1 = .ok (.iload_n 1, 1) := by decide +kernel
theorem dX8_ofJump_2 : decode cX8_ofJump 2 = .ok (.invokestatic 62, 3) := by decide +kernel
theorem dX8_ofJump_5 : decode cX8_ofJump 5 = .ok (.astore_n 2, 1) := by decide +kernel
theorem dX8_ofJump_6 : decode cX8_ofJump 6 = .ok (.aload_n 2, 1) := by decide +kernel
theorem dX8_ofJump_7 : decode cX8_ofJump 7 = .ok (.getstatic 27, 3) := by decide +kernel
theorem dX8_ofJump_10 : decode cX8_ofJump 10 = .ok (.if_acmp .eq 5, 3) := by decide +kernel
theorem dX8_ofJump_13 : decode cX8_ofJump 13 = .ok (.aload_n 2, 1) := by decide +kernel
theorem dX8_ofJump_14 : decode cX8_ofJump 14 = .ok (.areturn, 1) := by decide +kernel
theorem dX8_ofJump_15 : decode cX8_ofJump 15 = .ok (.aload_n 0, 1) := by decide +kernel
theorem dX8_ofJump_16 : decode cX8_ofJump 16 = .ok (.getfield 147, 3) := by decide +kernel
theorem dX8_ofJump_19 : decode cX8_ofJump 19 = .ok (.iload_n 1, 1) := by decide +kernel
theorem dX8_ofJump_20 : decode cX8_ofJump 20 = .ok (.aaload, 1) := by decide +kernel
theorem dX8_ofJump_21 : decode cX8_ofJump 21 = .ok (.astore_n 3, 1) := by decide +kernel
theorem dX8_ofJump_22 : decode cX8_ofJump 22 = .ok (.iconst 0, 1) := by decide +kernel
theorem dX8_ofJump_23 : decode cX8_ofJump 23 = .ok (.istore 4, 2) := by decide +kernel
theorem dX8_ofJump_25 : decode cX8_ofJump 25 = .ok (.iload 4, 2) := by decide +kernel
theorem dX8_ofJump_27 : decode cX8_ofJump 27 = .ok (.aload_n 3, 1) := by decide +kernel
theorem dX8_ofJump_28 : decode cX8_ofJump 28 = .ok (.getfield 160, 3) := by decide +kernel
theorem dX8_ofJump_31 : decode cX8_ofJump 31 = .ok (.if_icmp .ge 48, 3) := by decide +kernel
theorem dX8_ofJump_34 : decode cX8_ofJump 34 = .ok (.iload 4, 2) := by decide +kernel
theorem dX8_ofJump_36 : decode cX8_ofJump 36 = .ok (.bipush 6, 2) := by decide +kernel
theorem dX8_ofJump_38 : decode cX8_ofJump 38 = .ok (.if_icmp .ge 41, 3) := by decide +kernel
theorem dX8_ofJump_41 : decode cX8_ofJump 41 = .ok (.aload_n 0, 1) := by decide +kernel
theorem dX8_ofJump_42 : decode cX8_ofJump 42 = .ok (.aload_n 3, 1) := by decide +kernel
theorem dX8_ofJump_43 : decode cX8_ofJump 43 = .ok (.getfield 163, 3) := by decide +kernel
theorem dX8_ofJump_46 : decode cX8_ofJump 46 = .ok (.iload 4, 2) := by decide +kernel
theorem dX8_ofJump_48 : decode cX8_ofJump 48 = .ok (.iaload, 1) := by decide +kernel
theorem dX8_ofJump_49 : decode cX8_ofJump 49 = .ok (.invokevirtual 157, 3) := by decide +kernel
theorem dX8_ofJump_52 : decode cX8_ofJump 52 = .ok (.ifCond .eq 17, 3) := by decide +kernel
theorem dX8_ofJump_55 : decode cX8_ofJump 55 = .ok (.aload_n 0, 1) := by decide +kernel
theorem dX8_ofJump_56 : decode cX8_ofJump 56 = .ok (.aload_n 3, 1) := by decide +kernel
theorem dX8_ofJump_57 : decode cX8_ofJump 57 = .ok (.getfield 166, 3) := by decide +kernel
theorem dX8_ofJump_60 : decode cX8_ofJump 60 = .ok (.iload 4, 2) := by decide +kernel
theorem dX8_ofJump_62 : decode cX8_ofJump 62 = .ok (.iaload, 1) := by decide +kernel
theorem dX8_ofJump_63 : decode cX8_ofJump 63 = .ok (.invokevirtual 157, 3) := by decide +kernel
theorem dX8_ofJump_66 : decode cX8_ofJump 66 = .ok (.ifCond .ne 7, 3) := by decide +kernel
theorem dX8_ofJump_69 : decode cX8_ofJump 69 = .ok (.getstatic 119, 3) := by decide +kernel
theorem dX8_ofJump_72 : decode cX8_ofJump 72 = .ok (.areturn, 1) := by decide +kernel
theorem dX8_ofJump_73 : decode cX8_ofJump 73 = .ok (.iinc 4 1, 3) := by decide +kernel
theorem dX8_ofJump_76 : decode cX8_ofJump 76 = .ok (.goto (-51), 3) := by decide +kernel
theorem dX8_ofJump_79 : decode cX8_ofJump 79 = .ok (.getstatic 27, 3) := by decide +kernel
theorem dX8_ofJump_82 : decode cX8_ofJump 82 = .ok (.areturn, 1) := by decide +kernel
theorem dX8_ofFind_0 : decode cX8_ofFind 0 = .ok (.aload_n 0, 1) := by decide +kernel
theorem dX8_ofFind_1 : decode cX8_ofFind 1 = .ok (.iload_n 1, 1) := by decide +kernel
theorem dX8_ofFind_2 : decode cX8_ofFind 2 = .ok (.invokevirtual 106, 3) := by decide +kernel
theorem dX8_ofFind_5 : decode cX8_ofFind 5 = .ok (.ifCond .ne 7, 3) := by decide +kernel
theorem dX8_ofFind_8 : decode cX8_ofFind 8 = .ok (.getstatic 81, 3) := by decide +kernel
theorem dX8_ofFind_11 : decode cX8_ofFind 11 = .ok (.areturn, 1) := by decide +kernel
theorem dX8_ofFind_12 : decode cX8_ofFind 12 = .ok (.aload_n 0, 1) := by decide +kernel
theorem dX8_ofFind_13 : decode cX8_ofFind 13 = .ok (.getfield 169, 3) := by decide +kernel
theorem dX8_ofFind_16 : decode cX8_ofFind 16 = .ok (.bipush 12, 2) := by decide +kernel
theorem dX8_ofFind_18 : decode cX8_ofFind 18 = .ok (.if_icmp .ge 9, 3) := by decide +kernel
theorem dX8_ofFind_21 : decode cX8_ofFind 21 = .ok (.getstatic 27, 3) := by decide +kernel
theorem dX8_ofFind_24 : decode cX8_ofFind 24 = .ok (.goto 6, 3) := by decide +kernel
theorem dX8_ofFind_27 : decode cX8_ofFind 27 = .ok (.getstatic 56, 3) := by decide +kernel
theorem dX8_ofFind_30 : decode cX8_ofFind 30 = .ok (.areturn, 1) := by decide +kernel
theorem dX8_ofWiden_0 : decode cX8_ofWiden 0 = .ok (.aload_n 0, 1) := by decide +kernel
theorem dX8_ofWiden_1 : decode cX8_ofWiden 1 = .ok (.iload_n 1, 1) := by decide +kernel
theorem dX8_ofWiden_2 : decode cX8_ofWiden 2 = .ok (.invokevirtual 77, 3) := by decide +kernel
theorem dX8_ofWiden_5 : decode cX8_ofWiden 5 = .ok (.ifCond .ne 7, 3) := by decide +kernel
theorem dX8_ofWiden_8 : decode cX8_ofWiden 8 = .ok (.getstatic 81, 3) := by decide +kernel
theorem dX8_ofWiden_11 : decode cX8_ofWiden 11 = .ok (.areturn, 1) := by decide +kernel
theorem dX8_ofWiden_12 : decode cX8_ofWiden 12 = .ok (.aload_n 0, 1) := by decide +kernel
theorem dX8_ofWiden_13 : decode cX8_ofWiden 13 = .ok (.getfield 172, 3) := by decide +kernel
theorem dX8_ofWiden_16 : decode cX8_ofWiden 16 = .ok (.iload_n 1, 1) := by decide +kernel
theorem dX8_ofWiden_17 : decode cX8_ofWiden 17 = .ok (.aaload, 1) := by decide +kernel
theorem dX8_ofWiden_18 : decode cX8_ofWiden 18 = .ok (.astore_n 2, 1) := by decide +kernel
theorem dX8_ofWiden_19 : decode cX8_ofWiden 19 = .ok (.aload_n 2, 1) := by decide +kernel
theorem dX8_ofWiden_20 : decode cX8_ofWiden 20 = .ok (.getfield 176, 3) := by decide +kernel
theorem dX8_ofWiden_23 : decode cX8_ofWiden 23 = .ok (.ifCond .ne 20, 3) := by decide +kernel
theorem dX8_ofWiden_26 : decode cX8_ofWiden 26 = .ok (.aload_n 2, 1) := by decide +kernel
theorem dX8_ofWiden_27 : decode cX8_ofWiden 27 = .ok (.getfield 181, 3) := by decide +kernel
theorem dX8_ofWiden_30 : decode cX8_ofWiden 30 = .ok (.bipush 45, 2) := by decide +kernel
theorem dX8_ofWiden_32 : decode cX8_ofWiden 32 = .ok (.if_icmp .ne 11, 3) := by decide +kernel
theorem dX8_ofWiden_35 : decode cX8_ofWiden 35 = .ok (.aload_n 2, 1) := by decide +kernel
theorem dX8_ofWiden_36 : decode cX8_ofWiden 36 = .ok (.getfield 184, 3) := by decide +kernel
theorem dX8_ofWiden_39 : decode cX8_ofWiden 39 = .ok (.iconst 4, 1) := by decide +kernel
theorem dX8_ofWiden_40 : decode cX8_ofWiden 40 = .ok (.if_icmp .lt 7, 3) := by decide +kernel
theorem dX8_ofWiden_43 : decode cX8_ofWiden 43 = .ok (.iconst 1, 1) := by decide +kernel
theorem dX8_ofWiden_44 : decode cX8_ofWiden 44 = .ok (.goto 4, 3) := by decide +kernel
theorem dX8_ofWiden_47 : decode cX8_ofWiden 47 = .ok (.iconst 0, 1) := by decide +kernel
theorem dX8_ofWiden_48 : decode cX8_ofWiden 48 = .ok (.istore_n 3, 1) := by decide +kernel
theorem dX8_ofWiden_49 : decode cX8_ofWiden 49 = .ok (.iload_n 3, 1) := by decide +kernel
theorem dX8_ofWiden_50 : decode cX8_ofWiden 50 = .ok (.ifCond .eq 9, 3) := by decide +kernel
theorem dX8_ofWiden_53 : decode cX8_ofWiden 53 = .ok (.getstatic 119, 3) := by decide +kernel
theorem dX8_ofWiden_56 : decode cX8_ofWiden 56 = .ok (.goto 6, 3) := by decide +kernel
theorem dX8_ofWiden_59 : decode cX8_ofWiden 59 = .ok (.getstatic 27, 3) := by decide +kernel
theorem dX8_ofWiden_62 : decode cX8_ofWiden 62 = .ok (.areturn, 1) := by decide +kernel
theorem dX8_ofTellCause_0 : decode cX8_ofTellCause 0 = .ok (.aload_n 0, 1) := by decide +kernel
theorem dX8_ofTellCause_1 : decode cX8_ofTellCause 1 = .ok (.iload_n 1, 1) := by decide +kernel
theorem dX8_ofTellCause_2 : decode cX8_ofTellCause 2 = .ok (.invokevirtual 77, 3) := by decide +kernel
theorem dX8_ofTellCause_5 : decode cX8_ofTellCause 5 = .ok (.ifCond .ne 7, 3) := by decide +kernel
theorem dX8_ofTellCause_8 : decode cX8_ofTellCause 8 = .ok (.getstatic 81, 3) := by decide +kernel
theorem dX8_ofTellCause_11 : decode cX8_ofTellCause 11 = .ok (.areturn, 1) := by decide +kernel
theorem dX8_ofTellCause_12 : decode cX8_ofTellCause 12 = .ok (.iload_n 2, 1) := by decide +kernel
theorem dX8_ofTellCause_13 : decode cX8_ofTellCause 13 = .ok (.bipush 104, 2) := by decide +kernel
theorem dX8_ofTellCause_15 : decode cX8_ofTellCause 15 = .ok (.if_icmp .eq 9, 3) := by decide +kernel
theorem dX8_ofTellCause_18 : decode cX8_ofTellCause 18 = .ok (.iload_n 2, 1) := by decide +kernel
theorem dX8_ofTellCause_19 : decode cX8_ofTellCause 19 = .ok (.bipush 114, 2) := by decide +kernel
theorem dX8_ofTellCause_21 : decode cX8_ofTellCause 21 = .ok (.if_icmp .ne 7, 3) := by decide +kernel
theorem dX8_ofTellCause_24 : decode cX8_ofTellCause 24 = .ok (.iconst 1, 1) := by decide +kernel
theorem dX8_ofTellCause_25 : decode cX8_ofTellCause 25 = .ok (.goto 4, 3) := by decide +kernel
theorem dX8_ofTellCause_28 : decode cX8_ofTellCause 28 = .ok (.iconst 0, 1) := by decide +kernel
theorem dX8_ofTellCause_29 : decode cX8_ofTellCause 29 = .ok (.istore_n 3, 1) := by decide +kernel
theorem dX8_ofTellCause_30 : decode cX8_ofTellCause 30 = .ok (.iload_n 3, 1) := by decide +kernel
theorem dX8_ofTellCause_31 : decode cX8_ofTellCause 31 = .ok (.ifCond .ne 25, 3) := by decide +kernel
theorem dX8_ofTellCause_34 : decode cX8_ofTellCause 34 = .ok (.iload_n 2, 1) := by decide +kernel
theorem dX8_ofTellCause_35 : decode cX8_ofTellCause 35 = .ok (.bipush 108, 2) := by decide +kernel
theorem dX8_ofTellCause_37 : decode cX8_ofTellCause 37 = .ok (.if_icmp .eq 19, 3) := by decide +kernel
theorem dX8_ofTellCause_40 : decode cX8_ofTellCause 40 = .ok (.iload_n 2, 1) := by decide +kernel
theorem dX8_ofTellCause_41 : decode cX8_ofTellCause 41 = .ok (.bipush 99, 2) := by decide +kernel
theorem dX8_ofTellCause_43 : decode cX8_ofTellCause 43 = .ok (.if_icmp .eq 13, 3) := by decide +kernel
theorem dX8_ofTellCause_46 : decode cX8_ofTellCause 46 = .ok (.iload_n 2, 1) := by decide +kernel
theorem dX8_ofTellCause_47 : decode cX8_ofTellCause 47 = .ok (.bipush 115, 2) := by decide +kernel
theorem dX8_ofTellCause_49 : decode cX8_ofTellCause 49 = .ok (.if_icmp .eq 7, 3) := by decide +kernel
theorem dX8_ofTellCause_52 : decode cX8_ofTellCause 52 = .ok (.getstatic 33, 3) := by decide +kernel
theorem dX8_ofTellCause_55 : decode cX8_ofTellCause 55 = .ok (.areturn, 1) := by decide +kernel
theorem dX8_ofTellCause_56 : decode cX8_ofTellCause 56 = .ok (.aload_n 0, 1) := by decide +kernel
theorem dX8_ofTellCause_57 : decode cX8_ofTellCause 57 = .ok (.getfield 172, 3) := by decide +kernel
theorem dX8_ofTellCause_60 : decode cX8_ofTellCause 60 = .ok (.iload_n 1, 1) := by decide +kernel
theorem dX8_ofTellCause_61 : decode cX8_ofTellCause 61 = .ok (.aaload, 1) := by decide +kernel
theorem dX8_ofTellCause_62 : decode cX8_ofTellCause 62 = .ok (.astore 4, 2) := by decide +kernel
theorem dX8_ofTellCause_64 : decode cX8_ofTellCause 64 = .ok (.aload 4, 2) := by decide +kernel
theorem dX8_ofTellCause_66 : decode cX8_ofTellCause 66 = .ok (.getfield 176, 3) := by decide +kernel
theorem dX8_ofTellCause_69 : decode cX8_ofTellCause 69 = .ok (.ifCond .ne 16, 3) := by decide +kernel
theorem dX8_ofTellCause_72 : decode cX8_ofTellCause 72 = .ok (.iload_n 3, 1) := by decide +kernel
theorem dX8_ofTellCause_73 : decode cX8_ofTellCause 73 = .ok (.ifCond .eq 16, 3) := by decide +kernel
theorem dX8_ofTellCause_76 : decode cX8_ofTellCause 76 = .ok (.aload 4, 2) := by decide +kernel
theorem dX8_ofTellCause_78 : decode cX8_ofTellCause 78 = .ok (.getfield 187, 3) := by decide +kernel
theorem dX8_ofTellCause_81 : decode cX8_ofTellCause 81 = .ok (.iconst (-1), 1) := by decide +kernel
theorem dX8_ofTellCause_82 : decode cX8_ofTellCause 82 = .ok (.if_icmp .ne 7, 3) := by decide +kernel
theorem dX8_ofTellCause_85 : decode cX8_ofTellCause 85 = .ok (.getstatic 119, 3) := by decide +kernel
theorem dX8_ofTellCause_88 : decode cX8_ofTellCause 88 = .ok (.areturn, 1) := by decide +kernel
theorem dX8_ofTellCause_89 : decode cX8_ofTellCause 89 = .ok (.getstatic 27, 3) := by decide +kernel
theorem dX8_ofTellCause_92 : decode cX8_ofTellCause 92 = .ok (.areturn, 1) := by decide +kernel
theorem dX8_ofRepair_0 : decode cX8_ofRepair 0 = .ok (.aload_n 0, 1) := by decide +kernel
theorem dX8_ofRepair_1 : decode cX8_ofRepair 1 = .ok (.iload_n 1, 1) := by decide +kernel
theorem dX8_ofRepair_2 : decode cX8_ofRepair 2 = .ok (.invokevirtual 106, 3) := by decide +kernel
theorem dX8_ofRepair_5 : decode cX8_ofRepair 5 = .ok (.ifCond .eq 11, 3) := by decide +kernel
theorem dX8_ofRepair_8 : decode cX8_ofRepair 8 = .ok (.aload_n 0, 1) := by decide +kernel
theorem dX8_ofRepair_9 : decode cX8_ofRepair 9 = .ok (.iload_n 2, 1) := by decide +kernel
theorem dX8_ofRepair_10 : decode cX8_ofRepair 10 = .ok (.invokevirtual 97, 3) := by decide +kernel
theorem dX8_ofRepair_13 : decode cX8_ofRepair 13 = .ok (.ifCond .ne 7, 3) := by decide +kernel
theorem dX8_ofRepair_16 : decode cX8_ofRepair 16 = .ok (.getstatic 81, 3) := by decide +kernel
theorem dX8_ofRepair_19 : decode cX8_ofRepair 19 = .ok (.areturn, 1) := by decide +kernel
theorem dX8_ofRepair_20 : decode cX8_ofRepair 20 = .ok (.aload_n 0, 1) := by decide +kernel
theorem dX8_ofRepair_21 : decode cX8_ofRepair 21 = .ok (.getfield 109, 3) := by decide +kernel
theorem dX8_ofRepair_24 : decode cX8_ofRepair 24 = .ok (.iload_n 1, 1) := by decide +kernel
theorem dX8_ofRepair_25 : decode cX8_ofRepair 25 = .ok (.aaload, 1) := by decide +kernel
theorem dX8_ofRepair_26 : decode cX8_ofRepair 26 = .ok (.getfield 113, 3) := by decide +kernel
theorem dX8_ofRepair_29 : decode cX8_ofRepair 29 = .ok (.bipush 111, 2) := by decide +kernel
theorem dX8_ofRepair_31 : decode cX8_ofRepair 31 = .ok (.if_icmp .eq 7, 3) := by decide +kernel
theorem dX8_ofRepair_34 : decode cX8_ofRepair 34 = .ok (.getstatic 119, 3) := by decide +kernel
theorem dX8_ofRepair_37 : decode cX8_ofRepair 37 = .ok (.areturn, 1) := by decide +kernel
theorem dX8_ofRepair_38 : decode cX8_ofRepair 38 = .ok (.aload_n 0, 1) := by decide +kernel
theorem dX8_ofRepair_39 : decode cX8_ofRepair 39 = .ok (.getfield 128, 3) := by decide +kernel
theorem dX8_ofRepair_42 : decode cX8_ofRepair 42 = .ok (.iload_n 2, 1) := by decide +kernel
theorem dX8_ofRepair_43 : decode cX8_ofRepair 43 = .ok (.aaload, 1) := by decide +kernel
theorem dX8_ofRepair_44 : decode cX8_ofRepair 44 = .ok (.iconst 5, 1) := by decide +kernel
theorem dX8_ofRepair_45 : decode cX8_ofRepair 45 = .ok (.aload_n 0, 1) := by decide +kernel
theorem dX8_ofRepair_46 : decode cX8_ofRepair 46 = .ok (.getfield 103, 3) := by decide +kernel
theorem dX8_ofRepair_49 : decode cX8_ofRepair 49 = .ok (.invokevirtual 132, 3) := by decide +kernel
theorem dX8_ofRepair_52 : decode cX8_ofRepair 52 = .ok (.ifCond .eq 9, 3) := by decide +kernel
theorem dX8_ofRepair_55 : decode cX8_ofRepair 55 = .ok (.getstatic 27, 3) := by decide +kernel
theorem dX8_ofRepair_58 : decode cX8_ofRepair 58 = .ok (.goto 6, 3) := by decide +kernel
theorem dX8_ofRepair_61 : decode cX8_ofRepair 61 = .ok (.getstatic 33, 3) := by decide +kernel
theorem dX8_ofRepair_64 : decode cX8_ofRepair 64 = .ok (.areturn, 1) := by decide +kernel
theorem dX8_ofHire_0 : decode cX8_ofHire 0 = .ok (.aload_n 0, 1) := by decide +kernel
theorem dX8_ofHire_1 : decode cX8_ofHire 1 = .ok (.iload_n 1, 1) := by decide +kernel
theorem dX8_ofHire_2 : decode cX8_ofHire 2 = .ok (.invokevirtual 106, 3) := by decide +kernel
theorem dX8_ofHire_5 : decode cX8_ofHire 5 = .ok (.ifCond .ne 7, 3) := by decide +kernel
theorem dX8_ofHire_8 : decode cX8_ofHire 8 = .ok (.getstatic 81, 3) := by decide +kernel
theorem dX8_ofHire_11 : decode cX8_ofHire 11 = .ok (.areturn, 1) := by decide +kernel
theorem dX8_ofHire_12 : decode cX8_ofHire 12 = .ok (.iload_n 2, 1) := by decide +kernel
theorem dX8_ofHire_13 : decode cX8_ofHire 13 = .ok (.iconst 1, 1) := by decide +kernel
theorem dX8_ofHire_14 : decode cX8_ofHire 14 = .ok (.bipush 30, 2) := by decide +kernel
theorem dX8_ofHire_16 : decode cX8_ofHire 16 = .ok (.invokestatic 23, 3) := by decide +kernel
theorem dX8_ofHire_19 : decode cX8_ofHire 19 = .ok (.ifCond .eq 14, 3) := by decide +kernel
theorem dX8_ofHire_22 : decode cX8_ofHire 22 = .ok (.iload_n 3, 1) := by decide +kernel
theorem dX8_ofHire_23 : decode cX8_ofHire 23 = .ok (.iconst 0, 1) := by decide +kernel
theorem dX8_ofHire_24 : decode cX8_ofHire 24 = .ok (.sipush 999, 3) := by decide +kernel
theorem dX8_ofHire_27 : decode cX8_ofHire 27 = .ok (.invokestatic 23, 3) := by decide +kernel
theorem dX8_ofHire_30 : decode cX8_ofHire 30 = .ok (.ifCond .ne 7, 3) := by decide +kernel
theorem dX8_ofHire_33 : decode cX8_ofHire 33 = .ok (.getstatic 33, 3) := by decide +kernel
theorem dX8_ofHire_36 : decode cX8_ofHire 36 = .ok (.areturn, 1) := by decide +kernel
theorem dX8_ofHire_37 : decode cX8_ofHire 37 = .ok (.aload_n 0, 1) := by decide +kernel
theorem dX8_ofHire_38 : decode cX8_ofHire 38 = .ok (.getfield 109, 3) := by decide +kernel
theorem dX8_ofHire_41 : decode cX8_ofHire 41 = .ok (.iload_n 1, 1) := by decide +kernel
theorem dX8_ofHire_42 : decode cX8_ofHire 42 = .ok (.aaload, 1) := by decide +kernel
theorem dX8_ofHire_43 : decode cX8_ofHire 43 = .ok (.getfield 113, 3) := by decide +kernel
theorem dX8_ofHire_46 : decode cX8_ofHire 46 = .ok (.bipush 107, 2) := by decide +kernel
theorem dX8_ofHire_48 : decode cX8_ofHire 48 = .ok (.if_icmp .ne 15, 3) := by decide +kernel
theorem dX8_ofHire_51 : decode cX8_ofHire 51 = .ok (.aload_n 0, 1) := by decide +kernel
theorem dX8_ofHire_52 : decode cX8_ofHire 52 = .ok (.iload_n 1, 1) := by decide +kernel
theorem dX8_ofHire_53 : decode cX8_ofHire 53 = .ok (.invokevirtual 157, 3) := by decide +kernel
theorem dX8_ofHire_56 : decode cX8_ofHire 56 = .ok (.ifCond .eq 7, 3) := by decide +kernel
theorem dX8_ofHire_59 : decode cX8_ofHire 59 = .ok (.iconst 1, 1) := by decide +kernel
theorem dX8_ofHire_60 : decode cX8_ofHire 60 = .ok (.goto 4, 3) := by decide +kernel
theorem dX8_ofHire_63 : decode cX8_ofHire 63 = .ok (.iconst 0, 1) := by decide +kernel
theorem dX8_ofHire_64 : decode cX8_ofHire 64 = .ok (.istore 4, 2) := by decide +kernel
theorem dX8_ofHire_66 : decode cX8_ofHire 66 = .ok (.iload 4, 2) := by decide +kernel
theorem dX8_ofHire_68 : decode cX8_ofHire 68 = .ok (.ifCond .eq 9, 3) := by decide +kernel
theorem dX8_ofHire_71 : decode cX8_ofHire 71 = .ok (.getstatic 27, 3) := by decide +kernel
theorem dX8_ofHire_74 : decode cX8_ofHire 74 = .ok (.goto 6, 3) := by decide +kernel
theorem dX8_ofHire_77 : decode cX8_ofHire 77 = .ok (.getstatic 119, 3) := by decide +kernel
theorem dX8_ofHire_80 : decode cX8_ofHire 80 = .ok (.areturn, 1) := by decide +kernel
theorem dX9_init_0 : decode cX9_init 0 = .ok (.aload_n 0, 1) := by decide +kernel
theorem dX9_init_1 : decode cX9_init 1 = .ok (.invokespecial 1, 3) := by decide +kernel
theorem dX9_init_4 : decode cX9_init 4 = .ok (.aload_n 0, 1) := by decide +kernel
theorem dX9_init_5 : decode cX9_init 5 = .ok (.new 7, 3) := by decide +kernel
theorem dX9_init_8 : decode cX9_init 8 = .ok (.dup, 1) := by decide +kernel
theorem dX9_init_9 : decode cX9_init 9 = .ok (.invokespecial 9, 3) := by decide +kernel
theorem dX9_init_12 : decode cX9_init 12 = .ok (.putfield 10, 3) := by decide +kernel
theorem dX9_init_15 : decode cX9_init 15 = .ok (.aload_n 0, 1) := by decide +kernel
theorem dX9_init_16 : decode cX9_init 16 = .ok (.new 7, 3) := by decide +kernel
theorem dX9_init_19 : decode cX9_init 19 = .ok (.dup, 1) := by decide +kernel
theorem dX9_init_20 : decode cX9_init 20 = .ok (.invokespecial 9, 3) := by decide +kernel
theorem dX9_init_23 : decode cX9_init 23 = .ok (.putfield 16, 3) := by decide +kernel
theorem dX9_init_26 : decode cX9_init 26 = .ok (.aload_n 0, 1) := by decide +kernel
theorem dX9_init_27 : decode cX9_init 27 = .ok (.new 19, 3) := by decide +kernel
theorem dX9_init_30 : decode cX9_init 30 = .ok (.dup, 1) := by decide +kernel
theorem dX9_init_31 : decode cX9_init 31 = .ok (.invokespecial 21, 3) := by decide +kernel
theorem dX9_init_34 : decode cX9_init 34 = .ok (.putfield 22, 3) := by decide +kernel
theorem dX9_init_37 : decode cX9_init 37 = .ok (.return_, 1) := by decide +kernel
theorem dX9_addRigger_0 : decode cX9_addRigger 0 = .ok (.aload_n 0, 1) := by decide +kernel
theorem dX9_addRigger_1 : decode cX9_addRigger 1 = .ok (.iconst 0, 1) := by decide +kernel
theorem dX9_addRigger_2 : decode cX9_addRigger 2 = .ok (.iload_n 1, 1) := by decide +kernel
theorem dX9_addRigger_3 : decode cX9_addRigger 3 = .ok (.iload_n 2, 1) := by decide +kernel
theorem dX9_addRigger_4 : decode cX9_addRigger 4 = .ok (.iconst 0, 1) := by decide +kernel
theorem dX9_addRigger_5 : decode cX9_addRigger 5 = .ok (.iconst 0, 1) := by decide +kernel
theorem dX9_addRigger_6 : decode cX9_addRigger 6 = .ok (.invokevirtual 26, 3) := by decide +kernel
theorem dX9_addRigger_9 : decode cX9_addRigger 9 = .ok (.ireturn, 1) := by decide +kernel
theorem dX9_setLicences_0 : decode cX9_setLicences 0 = .ok (.aload_n 0, 1) := by decide +kernel
theorem dX9_setLicences_1 : decode cX9_setLicences 1 = .ok (.iconst 1, 1) := by decide +kernel
theorem dX9_setLicences_2 : decode cX9_setLicences 2 = .ok (.iload_n 1, 1) := by decide +kernel
theorem dX9_setLicences_3 : decode cX9_setLicences 3 = .ok (.iload_n 2, 1) := by decide +kernel
theorem dX9_setLicences_4 : decode cX9_setLicences 4 = .ok (.iload_n 3, 1) := by decide +kernel
theorem dX9_setLicences_5 : decode cX9_setLicences 5 = .ok (.iconst 0, 1) := by decide +kernel
theorem dX9_setLicences_6 : decode cX9_setLicences 6 = .ok (.invokevirtual 26, 3) := by decide +kernel
theorem dX9_setLicences_9 : decode cX9_setLicences 9 = .ok (.ireturn, 1) := by decide +kernel
theorem dX9_addCanopy_0 : decode cX9_addCanopy 0 = .ok (.aload_n 0, 1) := by decide +kernel
theorem dX9_addCanopy_1 : decode cX9_addCanopy 1 = .ok (.iconst 2, 1) := by decide +kernel
theorem dX9_addCanopy_2 : decode cX9_addCanopy 2 = .ok (.iload_n 1, 1) := by decide +kernel
theorem dX9_addCanopy_3 : decode cX9_addCanopy 3 = .ok (.iload_n 2, 1) := by decide +kernel
theorem dX9_addCanopy_4 : decode cX9_addCanopy 4 = .ok (.iload_n 3, 1) := by decide +kernel
theorem dX9_addCanopy_5 : decode cX9_addCanopy 5 = .ok (.iload 4, 2) := by decide +kernel
theorem dX9_addCanopy_7 : decode cX9_addCanopy 7 = .ok (.invokevirtual 26, 3) := by decide +kernel
theorem dX9_addCanopy_10 : decode cX9_addCanopy 10 = .ok (.ireturn, 1) := by decide +kernel
theorem dX9_setPeriod_0 : decode cX9_setPeriod 0 = .ok (.aload_n 0, 1) := by decide +kernel
theorem dX9_setPeriod_1 : decode cX9_setPeriod 1 = .ok (.iconst 3, 1) := by decide +kernel
theorem dX9_setPeriod_2 : decode cX9_setPeriod 2 = .ok (.iload_n 1, 1) := by decide +kernel
theorem dX9_setPeriod_3 : decode cX9_setPeriod 3 = .ok (.iconst 0, 1) := by decide +kernel
theorem dX9_setPeriod_4 : decode cX9_setPeriod 4 = .ok (.iconst 0, 1) := by decide +kernel
theorem dX9_setPeriod_5 : decode cX9_setPeriod 5 = .ok (.iconst 0, 1) := by decide +kernel
theorem dX9_setPeriod_6 : decode cX9_setPeriod 6 = .ok (.invokevirtual 26, 3) := by decide +kernel
theorem dX9_setPeriod_9 : decode cX9_setPeriod 9 = .ok (.ireturn, 1) := by decide +kernel
theorem dX9_goOn_0 : decode cX9_goOn 0 = .ok (.aload_n 0, 1) := by decide +kernel
theorem dX9_goOn_1 : decode cX9_goOn 1 = .ok (.iconst 4, 1) := by decide +kernel
theorem dX9_goOn_2 : decode cX9_goOn 2 = .ok (.iload_n 1, 1) := by decide +kernel
theorem dX9_goOn_3 : decode cX9_goOn 3 = .ok (.iconst 0, 1) := by decide +kernel
theorem dX9_goOn_4 : decode cX9_goOn 4 = .ok (.iconst 0, 1) := by decide +kernel
theorem dX9_goOn_5 : decode cX9_goOn 5 = .ok (.iconst 0, 1) := by decide +kernel
theorem dX9_goOn_6 : decode cX9_goOn 6 = .ok (.invokevirtual 26, 3) := by decide +kernel
theorem dX9_goOn_9 : decode cX9_goOn 9 = .ok (.ireturn, 1) := by decide +kernel
theorem dX9_hang_0 : decode cX9_hang 0 = .ok (.aload_n 0, 1) := by decide +kernel
theorem dX9_hang_1 : decode cX9_hang 1 = .ok (.iconst 5, 1) := by decide +kernel
theorem dX9_hang_2 : decode cX9_hang 2 = .ok (.iload_n 1, 1) := by decide +kernel
theorem dX9_hang_3 : decode cX9_hang 3 = .ok (.iload_n 2, 1) := by decide +kernel
theorem dX9_hang_4 : decode cX9_hang 4 = .ok (.iconst 0, 1) := by decide +kernel
theorem dX9_hang_5 : decode cX9_hang 5 = .ok (.iconst 0, 1) := by decide +kernel
theorem dX9_hang_6 : decode cX9_hang 6 = .ok (.invokevirtual 26, 3) := by decide +kernel
theorem dX9_hang_9 : decode cX9_hang 9 = .ok (.ireturn, 1) := by decide +kernel
theorem dX9_step_0 : decode cX9_step 0 = .ok (.aload_n 0, 1) := by decide +kernel
theorem dX9_step_1 : decode cX9_step 1 = .ok (.bipush 6, 2) := by decide +kernel
theorem dX9_step_3 : decode cX9_step 3 = .ok (.iload_n 1, 1) := by decide +kernel
theorem dX9_step_4 : decode cX9_step 4 = .ok (.iload_n 2, 1) := by decide +kernel
theorem dX9_step_5 : decode cX9_step 5 = .ok (.iconst 0, 1) := by decide +kernel
theorem dX9_step_6 : decode cX9_step 6 = .ok (.iconst 0, 1) := by decide +kernel
theorem dX9_step_7 : decode cX9_step 7 = .ok (.invokevirtual 26, 3) := by decide +kernel
theorem dX9_step_10 : decode cX9_step 10 = .ok (.ireturn, 1) := by decide +kernel
theorem dX9_breakOff_0 : decode cX9_breakOff 0 = .ok (.aload_n 0, 1) := by decide +kernel
theorem dX9_breakOff_1 : decode cX9_breakOff 1 = .ok (.bipush 7, 2) := by decide +kernel
theorem dX9_breakOff_3 : decode cX9_breakOff 3 = .ok (.iload_n 1, 1) := by decide +kernel
theorem dX9_breakOff_4 : decode cX9_breakOff 4 = .ok (.iconst 0, 1) := by decide +kernel
theorem dX9_breakOff_5 : decode cX9_breakOff 5 = .ok (.iconst 0, 1) := by decide +kernel
theorem dX9_breakOff_6 : decode cX9_breakOff 6 = .ok (.iconst 0, 1) := by decide +kernel
theorem dX9_breakOff_7 : decode cX9_breakOff 7 = .ok (.invokevirtual 26, 3) := by decide +kernel
theorem dX9_breakOff_10 : decode cX9_breakOff 10 = .ok (.ireturn, 1) := by decide +kernel
theorem dX9_load_0 : decode cX9_load 0 = .ok (.aload_n 0, 1) := by decide +kernel
theorem dX9_load_1 : decode cX9_load 1 = .ok (.bipush 8, 2) := by decide +kernel
theorem dX9_load_3 : decode cX9_load 3 = .ok (.iconst 0, 1) := by decide +kernel
theorem dX9_load_4 : decode cX9_load 4 = .ok (.iconst 0, 1) := by decide +kernel
theorem dX9_load_5 : decode cX9_load 5 = .ok (.iconst 0, 1) := by decide +kernel
theorem dX9_load_6 : decode cX9_load 6 = .ok (.iconst 0, 1) := by decide +kernel
theorem dX9_load_7 : decode cX9_load 7 = .ok (.invokevirtual 26, 3) := by decide +kernel
theorem dX9_load_10 : decode cX9_load 10 = .ok (.ireturn, 1) := by decide +kernel
theorem dX9_board_0 : decode cX9_board 0 = .ok (.aload_n 0, 1) := by decide +kernel
theorem dX9_board_1 : decode cX9_board 1 = .ok (.bipush 9, 2) := by decide +kernel
theorem dX9_board_3 : decode cX9_board 3 = .ok (.iload_n 1, 1) := by decide +kernel
theorem dX9_board_4 : decode cX9_board 4 = .ok (.iload_n 2, 1) := by decide +kernel
theorem dX9_board_5 : decode cX9_board 5 = .ok (.iload_n 3, 1) := by decide +kernel
theorem dX9_board_6 : decode cX9_board 6 = .ok (.iconst 0, 1) := by decide +kernel
theorem dX9_board_7 : decode cX9_board 7 = .ok (.invokevirtual 26, 3) := by decide +kernel
theorem dX9_board_10 : decode cX9_board 10 = .ok (.ireturn, 1) := by decide +kernel
theorem dX9_leave_0 : decode cX9_leave 0 = .ok (.aload_n 0, 1) := by decide +kernel
theorem dX9_leave_1 : decode cX9_leave 1 = .ok (.bipush 10, 2) := by decide +kernel
theorem dX9_leave_3 : decode cX9_leave 3 = .ok (.iload_n 1, 1) := by decide +kernel
theorem dX9_leave_4 : decode cX9_leave 4 = .ok (.iconst 0, 1) := by decide +kernel
theorem dX9_leave_5 : decode cX9_leave 5 = .ok (.iconst 0, 1) := by decide +kernel
theorem dX9_leave_6 : decode cX9_leave 6 = .ok (.iconst 0, 1) := by decide +kernel
theorem dX9_leave_7 : decode cX9_leave 7 = .ok (.invokevirtual 26, 3) := by decide +kernel
theorem dX9_leave_10 : decode cX9_leave 10 = .ok (.ireturn, 1) := by decide +kernel
theorem dX9_jump_0 : decode cX9_jump 0 = .ok (.aload_n 0, 1) := by decide +kernel
theorem dX9_jump_1 : decode cX9_jump 1 = .ok (.bipush 11, 2) := by decide +kernel
theorem dX9_jump_3 : decode cX9_jump 3 = .ok (.iload_n 1, 1) := by decide +kernel
theorem dX9_jump_4 : decode cX9_jump 4 = .ok (.iload_n 2, 1) := by decide +kernel
theorem dX9_jump_5 : decode cX9_jump 5 = .ok (.iconst 0, 1) := by decide +kernel
theorem dX9_jump_6 : decode cX9_jump 6 = .ok (.iconst 0, 1) := by decide +kernel
theorem dX9_jump_7 : decode cX9_jump 7 = .ok (.invokevirtual 26, 3) := by decide +kernel
theorem dX9_jump_10 : decode cX9_jump 10 = .ok (.ireturn, 1) := by decide +kernel
theorem dX9_find_0 : decode cX9_find 0 = .ok (.aload_n 0, 1) := by decide +kernel
theorem dX9_find_1 : decode cX9_find 1 = .ok (.bipush 12, 2) := by decide +kernel
theorem dX9_find_3 : decode cX9_find 3 = .ok (.iload_n 1, 1) := by decide +kernel
theorem dX9_find_4 : decode cX9_find 4 = .ok (.iconst 0, 1) := by decide +kernel
theorem dX9_find_5 : decode cX9_find 5 = .ok (.iconst 0, 1) := by decide +kernel
theorem dX9_find_6 : decode cX9_find 6 = .ok (.iconst 0, 1) := by decide +kernel
theorem dX9_find_7 : decode cX9_find 7 = .ok (.invokevirtual 26, 3) := by decide +kernel
theorem dX9_find_10 : decode cX9_find 10 = .ok (.ireturn, 1) := by decide +kernel
theorem dX9_widen_0 : decode cX9_widen 0 = .ok (.aload_n 0, 1) := by decide +kernel
theorem dX9_widen_1 : decode cX9_widen 1 = .ok (.bipush 13, 2) := by decide +kernel
theorem dX9_widen_3 : decode cX9_widen 3 = .ok (.iload_n 1, 1) := by decide +kernel
theorem dX9_widen_4 : decode cX9_widen 4 = .ok (.iconst 0, 1) := by decide +kernel
theorem dX9_widen_5 : decode cX9_widen 5 = .ok (.iconst 0, 1) := by decide +kernel
theorem dX9_widen_6 : decode cX9_widen 6 = .ok (.iconst 0, 1) := by decide +kernel
theorem dX9_widen_7 : decode cX9_widen 7 = .ok (.invokevirtual 26, 3) := by decide +kernel
theorem dX9_widen_10 : decode cX9_widen 10 = .ok (.ireturn, 1) := by decide +kernel
theorem dX9_tellCause_0 : decode cX9_tellCause 0 = .ok (.aload_n 0, 1) := by decide +kernel
theorem dX9_tellCause_1 : decode cX9_tellCause 1 = .ok (.bipush 14, 2) := by decide +kernel
theorem dX9_tellCause_3 : decode cX9_tellCause 3 = .ok (.iload_n 1, 1) := by decide +kernel
theorem dX9_tellCause_4 : decode cX9_tellCause 4 = .ok (.iload_n 2, 1) := by decide +kernel
theorem dX9_tellCause_5 : decode cX9_tellCause 5 = .ok (.iconst 0, 1) := by decide +kernel
theorem dX9_tellCause_6 : decode cX9_tellCause 6 = .ok (.iconst 0, 1) := by decide +kernel
theorem dX9_tellCause_7 : decode cX9_tellCause 7 = .ok (.invokevirtual 26, 3) := by decide +kernel
theorem dX9_tellCause_10 : decode cX9_tellCause 10 = .ok (.i2c, 1) := by decide +kernel
theorem dX9_tellCause_11 : decode cX9_tellCause 11 = .ok (.ireturn, 1) := by decide +kernel
theorem dX9_close_0 : decode cX9_close 0 = .ok (.aload_n 0, 1) := by decide +kernel
theorem dX9_close_1 : decode cX9_close 1 = .ok (.bipush 15, 2) := by decide +kernel
theorem dX9_close_3 : decode cX9_close 3 = .ok (.iload_n 1, 1) := by decide +kernel
theorem dX9_close_4 : decode cX9_close 4 = .ok (.iconst 0, 1) := by decide +kernel
theorem dX9_close_5 : decode cX9_close 5 = .ok (.iconst 0, 1) := by decide +kernel
theorem dX9_close_6 : decode cX9_close 6 = .ok (.iconst 0, 1) := by decide +kernel
theorem dX9_close_7 : decode cX9_close 7 = .ok (.invokevirtual 26, 3) := by decide +kernel
theorem dX9_close_10 : decode cX9_close 10 = .ok (.iconst 1, 1) := by decide +kernel
theorem dX9_close_11 : decode cX9_close 11 = .ok (.if_icmp .ne 7, 3) := by decide +kernel
theorem dX9_close_14 : decode cX9_close 14 = .ok (.iconst 1, 1) := by decide +kernel
theorem dX9_close_15 : decode cX9_close 15 = .ok (.goto 4, 3) := by decide +kernel
theorem dX9_close_18 : decode cX9_close 18 = .ok (.iconst 0, 1) := by decide +kernel
theorem dX9_close_19 : decode cX9_close 19 = .ok (.ireturn, 1) := by decide +kernel
theorem dX9_grounds_0 : decode cX9_grounds 0 = .ok (.aload_n 0, 1) := by decide +kernel
theorem dX9_grounds_1 : decode cX9_grounds 1 = .ok (.getfield 10, 3) := by decide +kernel
theorem dX9_grounds_4 : decode cX9_grounds 4 = .ok (.iload_n 1, 1) := by decide +kernel
theorem dX9_grounds_5 : decode cX9_grounds 5 = .ok (.invokevirtual 30, 3) := by decide +kernel
theorem dX9_grounds_8 : decode cX9_grounds 8 = .ok (.ifCond .ne 13, 3) := by decide +kernel
theorem dX9_grounds_11 : decode cX9_grounds 11 = .ok (.new 34, 3) := by decide +kernel
theorem dX9_grounds_14 : decode cX9_grounds 14 = .ok (.dup, 1) := by decide +kernel
theorem dX9_grounds_15 : decode cX9_grounds 15 = .ok (.ldc 36, 2) := by decide +kernel
theorem dX9_grounds_17 : decode cX9_grounds 17 = .ok (.invokespecial 38, 3) := by decide +kernel
theorem dX9_grounds_20 : decode cX9_grounds 20 = .ok (.athrow, 1) := by decide +kernel
theorem dX9_grounds_21 : decode cX9_grounds 21 = .ok (.aload_n 0, 1) := by decide +kernel
theorem dX9_grounds_22 : decode cX9_grounds 22 = .ok (.getfield 10, 3) := by decide +kernel
theorem dX9_grounds_25 : decode cX9_grounds 25 = .ok (.iload_n 1, 1) := by decide +kernel
theorem dX9_grounds_26 : decode cX9_grounds 26 = .ok (.invokevirtual 41, 3) := by decide +kernel
theorem dX9_grounds_29 : decode cX9_grounds 29 = .ok (.ireturn, 1) := by decide +kernel
theorem dX9_repair_0 : decode cX9_repair 0 = .ok (.aload_n 0, 1) := by decide +kernel
theorem dX9_repair_1 : decode cX9_repair 1 = .ok (.bipush 16, 2) := by decide +kernel
theorem dX9_repair_3 : decode cX9_repair 3 = .ok (.iload_n 1, 1) := by decide +kernel
theorem dX9_repair_4 : decode cX9_repair 4 = .ok (.iload_n 2, 1) := by decide +kernel
theorem dX9_repair_5 : decode cX9_repair 5 = .ok (.iconst 0, 1) := by decide +kernel
theorem dX9_repair_6 : decode cX9_repair 6 = .ok (.iconst 0, 1) := by decide +kernel
theorem dX9_repair_7 : decode cX9_repair 7 = .ok (.invokevirtual 26, 3) := by decide +kernel
theorem dX9_repair_10 : decode cX9_repair 10 = .ok (.ireturn, 1) := by decide +kernel
theorem dX9_drop_0 : decode cX9_drop 0 = .ok (.aload_n 0, 1) := by decide +kernel
theorem dX9_drop_1 : decode cX9_drop 1 = .ok (.bipush 17, 2) := by decide +kernel
theorem dX9_drop_3 : decode cX9_drop 3 = .ok (.iload_n 1, 1) := by decide +kernel
theorem dX9_drop_4 : decode cX9_drop 4 = .ok (.iload_n 2, 1) := by decide +kernel
theorem dX9_drop_5 : decode cX9_drop 5 = .ok (.ifCond .eq 7, 3) := by decide +kernel
theorem dX9_drop_8 : decode cX9_drop 8 = .ok (.iconst 1, 1) := by decide +kernel
theorem dX9_drop_9 : decode cX9_drop 9 = .ok (.goto 4, 3) := by decide +kernel
theorem dX9_drop_12 : decode cX9_drop 12 = .ok (.iconst 0, 1) := by decide +kernel
theorem dX9_drop_13 : decode cX9_drop 13 = .ok (.iconst 0, 1) := by decide +kernel
theorem dX9_drop_14 : decode cX9_drop 14 = .ok (.iconst 0, 1) := by decide +kernel
theorem dX9_drop_15 : decode cX9_drop 15 = .ok (.invokevirtual 26, 3) := by decide +kernel
theorem dX9_drop_18 : decode cX9_drop 18 = .ok (.ireturn, 1) := by decide +kernel
theorem dX9_hire_0 : decode cX9_hire 0 = .ok (.aload_n 0, 1) := by decide +kernel
theorem dX9_hire_1 : decode cX9_hire 1 = .ok (.bipush 18, 2) := by decide +kernel
theorem dX9_hire_3 : decode cX9_hire 3 = .ok (.iload_n 1, 1) := by decide +kernel
theorem dX9_hire_4 : decode cX9_hire 4 = .ok (.iload_n 2, 1) := by decide +kernel
theorem dX9_hire_5 : decode cX9_hire 5 = .ok (.iload_n 3, 1) := by decide +kernel
theorem dX9_hire_6 : decode cX9_hire 6 = .ok (.iconst 0, 1) := by decide +kernel
theorem dX9_hire_7 : decode cX9_hire 7 = .ok (.invokevirtual 26, 3) := by decide +kernel
theorem dX9_hire_10 : decode cX9_hire 10 = .ok (.ireturn, 1) := by decide +kernel
theorem dX9_back_0 : decode cX9_back 0 = .ok (.aload_n 0, 1) := by decide +kernel
theorem dX9_back_1 : decode cX9_back 1 = .ok (.bipush 19, 2) := by decide +kernel
theorem dX9_back_3 : decode cX9_back 3 = .ok (.iload_n 1, 1) := by decide +kernel
theorem dX9_back_4 : decode cX9_back 4 = .ok (.iload_n 2, 1) := by decide +kernel
theorem dX9_back_5 : decode cX9_back 5 = .ok (.ifCond .eq 7, 3) := by decide +kernel
theorem dX9_back_8 : decode cX9_back 8 = .ok (.iconst 1, 1) := by decide +kernel
theorem dX9_back_9 : decode cX9_back 9 = .ok (.goto 4, 3) := by decide +kernel
theorem dX9_back_12 : decode cX9_back 12 = .ok (.iconst 0, 1) := by decide +kernel
theorem dX9_back_13 : decode cX9_back 13 = .ok (.iload_n 3, 1) := by decide +kernel
theorem dX9_back_14 : decode cX9_back 14 = .ok (.ifCond .eq 7, 3) := by decide +kernel
theorem dX9_back_17 : decode cX9_back 17 = .ok (.iconst 1, 1) := by decide +kernel
theorem dX9_back_18 : decode cX9_back 18 = .ok (.goto 4, 3) := by decide +kernel
theorem dX9_back_21 : decode cX9_back 21 = .ok (.iconst 0, 1) := by decide +kernel
theorem dX9_back_22 : decode cX9_back 22 = .ok (.iconst 0, 1) := by decide +kernel
theorem dX9_back_23 : decode cX9_back 23 = .ok (.invokevirtual 26, 3) := by decide +kernel
theorem dX9_back_26 : decode cX9_back 26 = .ok (.ireturn, 1) := by decide +kernel
theorem dX9_stateOf_0 : decode cX9_stateOf 0 = .ok (.aload_n 0, 1) := by decide +kernel
theorem dX9_stateOf_1 : decode cX9_stateOf 1 = .ok (.iload_n 1, 1) := by decide +kernel
theorem dX9_stateOf_2 : decode cX9_stateOf 2 = .ok (.invokevirtual 45, 3) := by decide +kernel
theorem dX9_stateOf_5 : decode cX9_stateOf 5 = .ok (.getfield 49, 3) := by decide +kernel
theorem dX9_stateOf_8 : decode cX9_stateOf 8 = .ok (.ireturn, 1) := by decide +kernel
theorem dX9_isGrounded_0 : decode cX9_isGrounded 0 = .ok (.aload_n 0, 1) := by decide +kernel
theorem dX9_isGrounded_1 : decode cX9_isGrounded 1 = .ok (.iload_n 1, 1) := by decide +kernel
theorem dX9_isGrounded_2 : decode cX9_isGrounded 2 = .ok (.invokevirtual 45, 3) := by decide +kernel
theorem dX9_isGrounded_5 : decode cX9_isGrounded 5 = .ok (.pop, 1) := by decide +kernel
theorem dX9_isGrounded_6 : decode cX9_isGrounded 6 = .ok (.aload_n 0, 1) := by decide +kernel
theorem dX9_isGrounded_7 : decode cX9_isGrounded 7 = .ok (.getfield 10, 3) := by decide +kernel
theorem dX9_isGrounded_10 : decode cX9_isGrounded 10 = .ok (.iload_n 1, 1) := by decide +kernel
theorem dX9_isGrounded_11 : decode cX9_isGrounded 11 = .ok (.invokevirtual 55, 3) := by decide +kernel
theorem dX9_isGrounded_14 : decode cX9_isGrounded 14 = .ok (.ireturn, 1) := by decide +kernel
theorem dX9_isOut_0 : decode cX9_isOut 0 = .ok (.aload_n 0, 1) := by decide +kernel
theorem dX9_isOut_1 : decode cX9_isOut 1 = .ok (.getfield 10, 3) := by decide +kernel
theorem dX9_isOut_4 : decode cX9_isOut 4 = .ok (.aload_n 0, 1) := by decide +kernel
theorem dX9_isOut_5 : decode cX9_isOut 5 = .ok (.iload_n 1, 1) := by decide +kernel
theorem dX9_isOut_6 : decode cX9_isOut 6 = .ok (.invokevirtual 45, 3) := by decide +kernel
theorem dX9_isOut_9 : decode cX9_isOut 9 = .ok (.invokevirtual 58, 3) := by decide +kernel
theorem dX9_isOut_12 : decode cX9_isOut 12 = .ok (.ireturn, 1) := by decide +kernel
theorem dX9_packings_0 : decode cX9_packings 0 = .ok (.aload_n 0, 1) := by decide +kernel
theorem dX9_packings_1 : decode cX9_packings 1 = .ok (.iload_n 1, 1) := by decide +kernel
theorem dX9_packings_2 : decode cX9_packings 2 = .ok (.invokevirtual 45, 3) := by decide +kernel
theorem dX9_packings_5 : decode cX9_packings 5 = .ok (.getfield 62, 3) := by decide +kernel
theorem dX9_packings_8 : decode cX9_packings 8 = .ok (.ireturn, 1) := by decide +kernel
theorem dX9_packingOf_0 : decode cX9_packingOf 0 = .ok (.aload_n 0, 1) := by decide +kernel
theorem dX9_packingOf_1 : decode cX9_packingOf 1 = .ok (.iload_n 1, 1) := by decide +kernel
theorem dX9_packingOf_2 : decode cX9_packingOf 2 = .ok (.invokevirtual 45, 3) := by decide +kernel
theorem dX9_packingOf_5 : decode cX9_packingOf 5 = .ok (.astore 4, 2) := by decide +kernel
theorem dX9_packingOf_7 : decode cX9_packingOf 7 = .ok (.iload_n 2, 1) := by decide +kernel
theorem dX9_packingOf_8 : decode cX9_packingOf 8 = .ok (.ifCond .lt 12, 3) := by decide +kernel
theorem dX9_packingOf_11 : decode cX9_packingOf 11 = .ok (.iload_n 2, 1) := by decide +kernel
theorem dX9_packingOf_12 : decode cX9_packingOf 12 = .ok (.aload 4, 2) := by decide +kernel
theorem dX9_packingOf_14 : decode cX9_packingOf 14 = .ok (.getfield 62, 3) := by decide +kernel
theorem dX9_packingOf_17 : decode cX9_packingOf 17 = .ok (.if_icmp .lt 13, 3) := by decide +kernel
theorem dX9_packingOf_20 : decode cX9_packingOf 20 = .ok (.new 34, 3) := by decide +kernel
theorem dX9_packingOf_23 : decode cX9_packingOf 23 = .ok (.dup, 1) := by decide +kernel
theorem dX9_packingOf_24 : decode cX9_packingOf 24 = .ok (.ldc 66, 2) := by decide +kernel
theorem dX9_packingOf_26 : decode cX9_packingOf 26 = .ok (.invokespecial 38, 3) := by decide +kernel
theorem dX9_packingOf_29 : decode cX9_packingOf 29 = .ok (.athrow, 1) := by decide +kernel
theorem dX9_packingOf_30 : decode cX9_packingOf 30 = .ok (.iload_n 3, 1) := by decide +kernel
theorem dX9_packingOf_31 : decode cX9_packingOf 31 = .ok (.bipush 104, 2) := by decide +kernel
theorem dX9_packingOf_33 : decode cX9_packingOf 33 = .ok (.if_icmp .eq 31, 3) := by decide +kernel
theorem dX9_packingOf_36 : decode cX9_packingOf 36 = .ok (.iload_n 3, 1) := by decide +kernel
theorem dX9_packingOf_37 : decode cX9_packingOf 37 = .ok (.bipush 100, 2) := by decide +kernel
theorem dX9_packingOf_39 : decode cX9_packingOf 39 = .ok (.if_icmp .eq 25, 3) := by decide +kernel
theorem dX9_packingOf_42 : decode cX9_packingOf 42 = .ok (.iload_n 3, 1) := by decide +kernel
theorem dX9_packingOf_43 : decode cX9_packingOf 43 = .ok (.bipush 48, 2) := by decide +kernel
theorem dX9_packingOf_45 : decode cX9_packingOf 45 = .ok (.if_icmp .lt 9, 3) := by decide +kernel
theorem dX9_packingOf_48 : decode cX9_packingOf 48 = .ok (.iload_n 3, 1) := by decide +kernel
theorem dX9_packingOf_49 : decode cX9_packingOf 49 = .ok (.bipush 52, 2) := by decide +kernel
theorem dX9_packingOf_51 : decode cX9_packingOf 51 = .ok (.if_icmp .le 13, 3) := by decide +kernel
theorem dX9_packingOf_54 : decode cX9_packingOf 54 = .ok (.new 68, 3) := by decide +kernel
theorem dX9_packingOf_57 : decode cX9_packingOf 57 = .ok (.dup, 1) := by decide +kernel
theorem dX9_packingOf_58 : decode cX9_packingOf 58 = .ok (.ldc 70, 2) := by decide +kernel
theorem dX9_packingOf_60 : decode cX9_packingOf 60 = .ok (.invokespecial 72, 3) := by decide +kernel
theorem dX9_packingOf_63 : decode cX9_packingOf 63 = .ok (.athrow, 1) := by decide +kernel
theorem dX9_packingOf_64 : decode cX9_packingOf 64 = .ok (.aload_n 0, 1) := by decide +kernel
theorem dX9_packingOf_65 : decode cX9_packingOf 65 = .ok (.getfield 10, 3) := by decide +kernel
theorem dX9_packingOf_68 : decode cX9_packingOf 68 = .ok (.getfield 73, 3) := by decide +kernel
theorem dX9_packingOf_71 : decode cX9_packingOf 71 = .ok (.iload_n 1, 1) := by decide +kernel
theorem dX9_packingOf_72 : decode cX9_packingOf 72 = .ok (.iload_n 2, 1) := by decide +kernel
theorem dX9_packingOf_73 : decode cX9_packingOf 73 = .ok (.iload_n 3, 1) := by decide +kernel
theorem dX9_packingOf_74 : decode cX9_packingOf 74 = .ok (.invokevirtual 77, 3) := by decide +kernel
theorem dX9_packingOf_77 : decode cX9_packingOf 77 = .ok (.ireturn, 1) := by decide +kernel
theorem dX9_jumps_0 : decode cX9_jumps 0 = .ok (.aload_n 0, 1) := by decide +kernel
theorem dX9_jumps_1 : decode cX9_jumps 1 = .ok (.iload_n 1, 1) := by decide +kernel
theorem dX9_jumps_2 : decode cX9_jumps 2 = .ok (.invokevirtual 45, 3) := by decide +kernel
theorem dX9_jumps_5 : decode cX9_jumps 5 = .ok (.getfield 83, 3) := by decide +kernel
theorem dX9_jumps_8 : decode cX9_jumps 8 = .ok (.ireturn, 1) := by decide +kernel
theorem dX9_sharers_0 : decode cX9_sharers 0 = .ok (.aload_n 0, 1) := by decide +kernel
theorem dX9_sharers_1 : decode cX9_sharers 1 = .ok (.iload_n 1, 1) := by decide +kernel
theorem dX9_sharers_2 : decode cX9_sharers 2 = .ok (.invokevirtual 45, 3) := by decide +kernel
theorem dX9_sharers_5 : decode cX9_sharers 5 = .ok (.pop, 1) := by decide +kernel
theorem dX9_sharers_6 : decode cX9_sharers 6 = .ok (.aload_n 0, 1) := by decide +kernel
theorem dX9_sharers_7 : decode cX9_sharers 7 = .ok (.getfield 10, 3) := by decide +kernel
theorem dX9_sharers_10 : decode cX9_sharers 10 = .ok (.iload_n 1, 1) := by decide +kernel
theorem dX9_sharers_11 : decode cX9_sharers 11 = .ok (.invokevirtual 86, 3) := by decide +kernel
theorem dX9_sharers_14 : decode cX9_sharers 14 = .ok (.ireturn, 1) := by decide +kernel
theorem dX9_next_0 : decode cX9_next 0 = .ok (.aload_n 0, 1) := by decide +kernel
theorem dX9_next_1 : decode cX9_next 1 = .ok (.getfield 10, 3) := by decide +kernel
theorem dX9_next_4 : decode cX9_next 4 = .ok (.invokevirtual 89, 3) := by decide +kernel
theorem dX9_next_7 : decode cX9_next 7 = .ok (.istore_n 1, 1) := by decide +kernel
theorem dX9_next_8 : decode cX9_next 8 = .ok (.iload_n 1, 1) := by decide +kernel
theorem dX9_next_9 : decode cX9_next 9 = .ok (.ifCond .ge 13, 3) := by decide +kernel
theorem dX9_next_12 : decode cX9_next 12 = .ok (.new 93, 3) := by decide +kernel
theorem dX9_next_15 : decode cX9_next 15 = .ok (.dup, 1) := by decide +kernel
theorem dX9_next_16 : decode cX9_next 16 = .ok (.ldc 95, 2) := by decide +kernel
theorem dX9_next_18 : decode cX9_next 18 = .ok (.invokespecial 97, 3) := by decide +kernel
theorem dX9_next_21 : decode cX9_next 21 = .ok (.athrow, 1) := by decide +kernel
theorem dX9_next_22 : decode cX9_next 22 = .ok (.iload_n 1, 1) := by decide +kernel
theorem dX9_next_23 : decode cX9_next 23 = .ok (.ireturn, 1) := by decide +kernel
theorem dX9_held_0 : decode cX9_held 0 = .ok (.aload_n 0, 1) := by decide +kernel
theorem dX9_held_1 : decode cX9_held 1 = .ok (.getfield 10, 3) := by decide +kernel
theorem dX9_held_4 : decode cX9_held 4 = .ok (.invokevirtual 98, 3) := by decide +kernel
theorem dX9_held_7 : decode cX9_held 7 = .ok (.lreturn, 1) := by decide +kernel
theorem dX9_kept_0 : decode cX9_kept 0 = .ok (.aload_n 0, 1) := by decide +kernel
theorem dX9_kept_1 : decode cX9_kept 1 = .ok (.getfield 10, 3) := by decide +kernel
theorem dX9_kept_4 : decode cX9_kept 4 = .ok (.getfield 102, 3) := by decide +kernel
theorem dX9_kept_7 : decode cX9_kept 7 = .ok (.lreturn, 1) := by decide +kernel
theorem dX9_groundedShare_0 : decode cX9_groundedShare 0 = .ok (.aload_n 0, 1) := by decide +kernel
theorem dX9_groundedShare_1 : decode cX9_groundedShare 1 = .ok (.getfield 10, 3) := by decide +kernel
theorem dX9_groundedShare_4 : decode cX9_groundedShare 4 = .ok (.getfield 106, 3) := by decide +kernel
theorem dX9_groundedShare_7 : decode cX9_groundedShare 7 = .ok (.istore_n 1, 1) := by decide +kernel
theorem dX9_groundedShare_8 : decode cX9_groundedShare 8 = .ok (.iload_n 1, 1) := by decide +kernel
theorem dX9_groundedShare_9 : decode cX9_groundedShare 9 = .ok (.ifCond .ne 13, 3) := by decide +kernel
theorem dX9_groundedShare_12 : decode cX9_groundedShare 12 = .ok (.new 109, 3) := by decide +kernel
theorem dX9_groundedShare_15 : decode cX9_groundedShare 15 = .ok (.dup, 1) := by decide +kernel
theorem dX9_groundedShare_16 : decode cX9_groundedShare 16 = .ok (.ldc 111, 2) := by decide +kernel
theorem dX9_groundedShare_18 : decode cX9_groundedShare 18 = .ok (.invokespecial 113, 3) := by decide +kernel
theorem dX9_groundedShare_21 : decode cX9_groundedShare 21 = .ok (.athrow, 1) := by decide +kernel
theorem dX9_groundedShare_22 : decode cX9_groundedShare 22 = .ok (.aload_n 0, 1) := by decide +kernel
theorem dX9_groundedShare_23 : decode cX9_groundedShare 23 = .ok (.getfield 10, 3) := by decide +kernel
theorem dX9_groundedShare_26 : decode cX9_groundedShare 26 = .ok (.invokevirtual 114, 3) := by decide +kernel
theorem dX9_groundedShare_29 : decode cX9_groundedShare 29 = .ok (.i2f, 1) := by decide +kernel
theorem dX9_groundedShare_30 : decode cX9_groundedShare 30 = .ok (.iload_n 1, 1) := by decide +kernel
theorem dX9_groundedShare_31 : decode cX9_groundedShare 31 = .ok (.i2f, 1) := by decide +kernel
theorem dX9_groundedShare_32 : decode cX9_groundedShare 32 = .ok (.fdiv, 1) := by decide +kernel
theorem dX9_groundedShare_33 : decode cX9_groundedShare 33 = .ok (.freturn, 1) := by decide +kernel
theorem dX9_meanDrops_0 : decode cX9_meanDrops 0 = .ok (.aload_n 0, 1) := by decide +kernel
theorem dX9_meanDrops_1 : decode cX9_meanDrops 1 = .ok (.getfield 10, 3) := by decide +kernel
theorem dX9_meanDrops_4 : decode cX9_meanDrops 4 = .ok (.getfield 106, 3) := by decide +kernel
theorem dX9_meanDrops_7 : decode cX9_meanDrops 7 = .ok (.istore_n 1, 1) := by decide +kernel
theorem dX9_meanDrops_8 : decode cX9_meanDrops 8 = .ok (.iload_n 1, 1) := by decide +kernel
theorem dX9_meanDrops_9 : decode cX9_meanDrops 9 = .ok (.ifCond .ne 13, 3) := by decide +kernel
theorem dX9_meanDrops_12 : decode cX9_meanDrops 12 = .ok (.new 109, 3) := by decide +kernel
theorem dX9_meanDrops_15 : decode cX9_meanDrops 15 = .ok (.dup, 1) := by decide +kernel
theorem dX9_meanDrops_16 : decode cX9_meanDrops 16 = .ok (.ldc 111, 2) := by decide +kernel
theorem dX9_meanDrops_18 : decode cX9_meanDrops 18 = .ok (.invokespecial 113, 3) := by decide +kernel
theorem dX9_meanDrops_21 : decode cX9_meanDrops 21 = .ok (.athrow, 1) := by decide +kernel
theorem dX9_meanDrops_22 : decode cX9_meanDrops 22 = .ok (.aload_n 0, 1) := by decide +kernel
theorem dX9_meanDrops_23 : decode cX9_meanDrops 23 = .ok (.getfield 10, 3) := by decide +kernel
theorem dX9_meanDrops_26 : decode cX9_meanDrops 26 = .ok (.invokevirtual 117, 3) := by decide +kernel
theorem dX9_meanDrops_29 : decode cX9_meanDrops 29 = .ok (.i2d, 1) := by decide +kernel
theorem dX9_meanDrops_30 : decode cX9_meanDrops 30 = .ok (.iload_n 1, 1) := by decide +kernel
theorem dX9_meanDrops_31 : decode cX9_meanDrops 31 = .ok (.i2d, 1) := by decide +kernel
theorem dX9_meanDrops_32 : decode cX9_meanDrops 32 = .ok (.ddiv, 1) := by decide +kernel
theorem dX9_meanDrops_33 : decode cX9_meanDrops 33 = .ok (.dreturn, 1) := by decide +kernel
theorem dX9_isSound_0 : decode cX9_isSound 0 = .ok (.aload_n 0, 1) := by decide +kernel
theorem dX9_isSound_1 : decode cX9_isSound 1 = .ok (.getfield 16, 3) := by decide +kernel
theorem dX9_isSound_4 : decode cX9_isSound 4 = .ok (.invokevirtual 120, 3) := by decide +kernel
theorem dX9_isSound_7 : decode cX9_isSound 7 = .ok (.iconst 0, 1) := by decide +kernel
theorem dX9_isSound_8 : decode cX9_isSound 8 = .ok (.istore_n 1, 1) := by decide +kernel
theorem dX9_isSound_9 : decode cX9_isSound 9 = .ok (.iload_n 1, 1) := by decide +kernel
theorem dX9_isSound_10 : decode cX9_isSound 10 = .ok (.aload_n 0, 1) := by decide +kernel
theorem dX9_isSound_11 : decode cX9_isSound 11 = .ok (.getfield 22, 3) := by decide +kernel
theorem dX9_isSound_14 : decode cX9_isSound 14 = .ok (.getfield 123, 3) := by decide +kernel
theorem dX9_isSound_17 : decode cX9_isSound 17 = .ok (.if_icmp .ge 26, 3) := by decide +kernel
theorem dX9_isSound_20 : decode cX9_isSound 20 = .ok (.aload_n 0, 1) := by decide +kernel
theorem dX9_isSound_21 : decode cX9_isSound 21 = .ok (.getfield 22, 3) := by decide +kernel
theorem dX9_isSound_24 : decode cX9_isSound 24 = .ok (.iload_n 1, 1) := by decide +kernel
theorem dX9_isSound_25 : decode cX9_isSound 25 = .ok (.aload_n 0, 1) := by decide +kernel
theorem dX9_isSound_26 : decode cX9_isSound 26 = .ok (.getfield 16, 3) := by decide +kernel
theorem dX9_isSound_29 : decode cX9_isSound 29 = .ok (.invokevirtual 126, 3) := by decide +kernel
theorem dX9_isSound_32 : decode cX9_isSound 32 = .ok (.ifCond .ne 5, 3) := by decide +kernel
theorem dX9_isSound_35 : decode cX9_isSound 35 = .ok (.iconst 0, 1) := by decide +kernel
theorem dX9_isSound_36 : decode cX9_isSound 36 = .ok (.ireturn, 1) := by decide +kernel
theorem dX9_isSound_37 : decode cX9_isSound 37 = .ok (.iinc 1 1, 3) := by decide +kernel
theorem dX9_isSound_40 : decode cX9_isSound 40 = .ok (.goto (-31), 3) := by decide +kernel
theorem dX9_isSound_43 : decode cX9_isSound 43 = .ok (.aload_n 0, 1) := by decide +kernel
theorem dX9_isSound_44 : decode cX9_isSound 44 = .ok (.getfield 10, 3) := by decide +kernel
theorem dX9_isSound_47 : decode cX9_isSound 47 = .ok (.aload_n 0, 1) := by decide +kernel
theorem dX9_isSound_48 : decode cX9_isSound 48 = .ok (.getfield 16, 3) := by decide +kernel
theorem dX9_isSound_51 : decode cX9_isSound 51 = .ok (.invokevirtual 130, 3) := by decide +kernel
theorem dX9_isSound_54 : decode cX9_isSound 54 = .ok (.ireturn, 1) := by decide +kernel
theorem dX9_canopyAt_0 : decode cX9_canopyAt 0 = .ok (.aload_n 0, 1) := by decide +kernel
theorem dX9_canopyAt_1 : decode cX9_canopyAt 1 = .ok (.getfield 10, 3) := by decide +kernel
theorem dX9_canopyAt_4 : decode cX9_canopyAt 4 = .ok (.iload_n 1, 1) := by decide +kernel
theorem dX9_canopyAt_5 : decode cX9_canopyAt 5 = .ok (.invokevirtual 134, 3) := by decide +kernel
theorem dX9_canopyAt_8 : decode cX9_canopyAt 8 = .ok (.ifCond .ne 13, 3) := by decide +kernel
theorem dX9_canopyAt_11 : decode cX9_canopyAt 11 = .ok (.new 34, 3) := by decide +kernel
theorem dX9_canopyAt_14 : decode cX9_canopyAt 14 = .ok (.dup, 1) := by decide +kernel
theorem dX9_canopyAt_15 : decode cX9_canopyAt 15 = .ok (.ldc 137, 2) := by decide +kernel
theorem dX9_canopyAt_17 : decode cX9_canopyAt 17 = .ok (.invokespecial 38, 3) := by decide +kernel
theorem dX9_canopyAt_20 : decode cX9_canopyAt 20 = .ok (.athrow, 1) := by decide +kernel
theorem dX9_canopyAt_21 : decode cX9_canopyAt 21 = .ok (.aload_n 0, 1) := by decide +kernel
theorem dX9_canopyAt_22 : decode cX9_canopyAt 22 = .ok (.getfield 10, 3) := by decide +kernel
theorem dX9_canopyAt_25 : decode cX9_canopyAt 25 = .ok (.getfield 139, 3) := by decide +kernel
theorem dX9_canopyAt_28 : decode cX9_canopyAt 28 = .ok (.iload_n 1, 1) := by decide +kernel
theorem dX9_canopyAt_29 : decode cX9_canopyAt 29 = .ok (.aaload, 1) := by decide +kernel
theorem dX9_canopyAt_30 : decode cX9_canopyAt 30 = .ok (.areturn, 1) := by decide +kernel
theorem dX9_act_0 : decode cX9_act 0 = .ok (.aload_n 0, 1) := by decide +kernel
theorem dX9_act_1 : decode cX9_act 1 = .ok (.getfield 10, 3) := by decide +kernel
theorem dX9_act_4 : decode cX9_act 4 = .ok (.iload_n 1, 1) := by decide +kernel
theorem dX9_act_5 : decode cX9_act 5 = .ok (.iload_n 2, 1) := by decide +kernel
theorem dX9_act_6 : decode cX9_act 6 = .ok (.iload_n 3, 1) := by decide +kernel
theorem dX9_act_7 : decode cX9_act 7 = .ok (.iload 4, 2) := by decide +kernel
theorem dX9_act_9 : decode cX9_act 9 = .ok (.iload 5, 2) := by decide +kernel
theorem dX9_act_11 : decode cX9_act 11 = .ok (.invokestatic 143, 3) := by decide +kernel
theorem dX9_act_14 : decode cX9_act 14 = .ok (.invokestatic 149, 3) := by decide +kernel
theorem dX9_act_17 : decode cX9_act 17 = .ok (.aload_n 0, 1) := by decide +kernel
theorem dX9_act_18 : decode cX9_act 18 = .ok (.getfield 22, 3) := by decide +kernel
theorem dX9_act_21 : decode cX9_act 21 = .ok (.invokevirtual 153, 3) := by decide +kernel
theorem dX9_act_24 : decode cX9_act 24 = .ok (.ifCond .eq 5, 3) := by decide +kernel
theorem dX9_act_27 : decode cX9_act 27 = .ok (.iconst 0, 1) := by decide +kernel
theorem dX9_act_28 : decode cX9_act 28 = .ok (.ireturn, 1) := by decide +kernel
theorem dX9_act_29 : decode cX9_act 29 = .ok (.aload_n 0, 1) := by decide +kernel
theorem dX9_act_30 : decode cX9_act 30 = .ok (.getfield 22, 3) := by decide +kernel
theorem dX9_act_33 : decode cX9_act 33 = .ok (.iload_n 1, 1) := by decide +kernel
theorem dX9_act_34 : decode cX9_act 34 = .ok (.iload_n 2, 1) := by decide +kernel
theorem dX9_act_35 : decode cX9_act 35 = .ok (.iload_n 3, 1) := by decide +kernel
theorem dX9_act_36 : decode cX9_act 36 = .ok (.iload 4, 2) := by decide +kernel
theorem dX9_act_38 : decode cX9_act 38 = .ok (.iload 5, 2) := by decide +kernel
theorem dX9_act_40 : decode cX9_act 40 = .ok (.invokevirtual 157, 3) := by decide +kernel
theorem dX9_act_43 : decode cX9_act 43 = .ok (.aload_n 0, 1) := by decide +kernel
theorem dX9_act_44 : decode cX9_act 44 = .ok (.getfield 10, 3) := by decide +kernel
theorem dX9_act_47 : decode cX9_act 47 = .ok (.iload_n 1, 1) := by decide +kernel
theorem dX9_act_48 : decode cX9_act 48 = .ok (.iload_n 2, 1) := by decide +kernel
theorem dX9_act_49 : decode cX9_act 49 = .ok (.iload_n 3, 1) := by decide +kernel
theorem dX9_act_50 : decode cX9_act 50 = .ok (.iload 4, 2) := by decide +kernel
theorem dX9_act_52 : decode cX9_act 52 = .ok (.iload 5, 2) := by decide +kernel
theorem dX9_act_54 : decode cX9_act 54 = .ok (.invokevirtual 161, 3) := by decide +kernel
theorem dX9_act_57 : decode cX9_act 57 = .ok (.ireturn, 1) := by decide +kernel
theorem dX9_throwFor_0 : decode cX9_throwFor 0 = .ok (.aload_n 0, 1) := by decide +kernel
theorem dX9_throwFor_1 : decode cX9_throwFor 1 = .ok (.getstatic 164, 3) := by decide +kernel
theorem dX9_throwFor_4 : decode cX9_throwFor 4 = .ok (.if_acmp .ne 13, 3) := by decide +kernel
theorem dX9_throwFor_7 : decode cX9_throwFor 7 = .ok (.new 34, 3) := by decide +kernel
theorem dX9_throwFor_10 : decode cX9_throwFor 10 = .ok (.dup, 1) := by decide +kernel
theorem dX9_throwFor_11 : decode cX9_throwFor 11 = .ok (.ldc 170, 2) := by decide +kernel
theorem dX9_throwFor_13 : decode cX9_throwFor 13 = .ok (.invokespecial 38, 3) := by decide +kernel
theorem dX9_throwFor_16 : decode cX9_throwFor 16 = .ok (.athrow, 1) := by decide +kernel
theorem dX9_throwFor_17 : decode cX9_throwFor 17 = .ok (.aload_n 0, 1) := by decide +kernel
theorem dX9_throwFor_18 : decode cX9_throwFor 18 = .ok (.getstatic 172, 3) := by decide +kernel
theorem dX9_throwFor_21 : decode cX9_throwFor 21 = .ok (.if_acmp .ne 13, 3) := by decide +kernel
theorem dX9_throwFor_24 : decode cX9_throwFor 24 = .ok (.new 68, 3) := by decide +kernel
theorem dX9_throwFor_27 : decode cX9_throwFor 27 = .ok (.dup, 1) := by decide +kernel
theorem dX9_throwFor_28 : decode cX9_throwFor 28 = .ok (.ldc 175, 2) := by decide +kernel
theorem dX9_throwFor_30 : decode cX9_throwFor 30 = .ok (.invokespecial 72, 3) := by decide +kernel
theorem dX9_throwFor_33 : decode cX9_throwFor 33 = .ok (.athrow, 1) := by decide +kernel
theorem dX9_throwFor_34 : decode cX9_throwFor 34 = .ok (.aload_n 0, 1) := by decide +kernel
theorem dX9_throwFor_35 : decode cX9_throwFor 35 = .ok (.getstatic 177, 3) := by decide +kernel
theorem dX9_throwFor_38 : decode cX9_throwFor 38 = .ok (.if_acmp .ne 13, 3) := by decide +kernel
theorem dX9_throwFor_41 : decode cX9_throwFor 41 = .ok (.new 180, 3) := by decide +kernel
theorem dX9_throwFor_44 : decode cX9_throwFor 44 = .ok (.dup, 1) := by decide +kernel
theorem dX9_throwFor_45 : decode cX9_throwFor 45 = .ok (.ldc 182, 2) := by decide +kernel
theorem dX9_throwFor_47 : decode cX9_throwFor 47 = .ok (.invokespecial 184, 3) := by decide +kernel
theorem dX9_throwFor_50 : decode cX9_throwFor 50 = .ok (.athrow, 1) := by decide +kernel
theorem dX9_throwFor_51 : decode cX9_throwFor 51 = .ok (.aload_n 0, 1) := by decide +kernel
theorem dX9_throwFor_52 : decode cX9_throwFor 52 = .ok (.getstatic 185, 3) := by decide +kernel
theorem dX9_throwFor_55 : decode cX9_throwFor 55 = .ok (.if_acmp .ne 13, 3) := by decide +kernel
theorem dX9_throwFor_58 : decode cX9_throwFor 58 = .ok (.new 188, 3) := by decide +kernel
theorem dX9_throwFor_61 : decode cX9_throwFor 61 = .ok (.dup, 1) := by decide +kernel
theorem dX9_throwFor_62 : decode cX9_throwFor 62 = .ok (.ldc 190, 2) := by decide +kernel
theorem dX9_throwFor_64 : decode cX9_throwFor 64 = .ok (.invokespecial 192, 3) := by decide +kernel
theorem dX9_throwFor_67 : decode cX9_throwFor 67 = .ok (.athrow, 1) := by decide +kernel
theorem dX9_throwFor_68 : decode cX9_throwFor 68 = .ok (.return_, 1) := by decide +kernel
theorem dX10_init_0 : decode cX10_init 0 = .ok (.aload_n 0, 1) := by decide +kernel
theorem dX10_init_1 : decode cX10_init 1 = .ok (.invokespecial 1, 3) := by decide +kernel
theorem dX10_init_4 : decode cX10_init 4 = .ok (.aload_n 0, 1) := by decide +kernel
theorem dX10_init_5 : decode cX10_init 5 = .ok (.bipush 8, 2) := by decide +kernel
theorem dX10_init_7 : decode cX10_init 7 = .ok (.newarray .int, 2) := by decide +kernel
theorem dX10_init_9 : decode cX10_init 9 = .ok (.putfield 7, 3) := by decide +kernel
theorem dX10_init_12 : decode cX10_init 12 = .ok (.aload_n 0, 1) := by decide +kernel
theorem dX10_init_13 : decode cX10_init 13 = .ok (.bipush 8, 2) := by decide +kernel
theorem dX10_init_15 : decode cX10_init 15 = .ok (.newarray .int, 2) := by decide +kernel
theorem dX10_init_17 : decode cX10_init 17 = .ok (.putfield 13, 3) := by decide +kernel
theorem dX10_init_20 : decode cX10_init 20 = .ok (.aload_n 0, 1) := by decide +kernel
theorem dX10_init_21 : decode cX10_init 21 = .ok (.bipush 24, 2) := by decide +kernel
theorem dX10_init_23 : decode cX10_init 23 = .ok (.newarray .int, 2) := by decide +kernel
theorem dX10_init_25 : decode cX10_init 25 = .ok (.putfield 16, 3) := by decide +kernel
theorem dX10_init_28 : decode cX10_init 28 = .ok (.aload_n 0, 1) := by decide +kernel
theorem dX10_init_29 : decode cX10_init 29 = .ok (.bipush 24, 2) := by decide +kernel
theorem dX10_init_31 : decode cX10_init 31 = .ok (.newarray .int, 2) := by decide +kernel
theorem dX10_init_33 : decode cX10_init 33 = .ok (.putfield 19, 3) := by decide +kernel
theorem dX10_init_36 : decode cX10_init 36 = .ok (.aload_n 0, 1) := by decide +kernel
theorem dX10_init_37 : decode cX10_init 37 = .ok (.bipush 24, 2) := by decide +kernel
theorem dX10_init_39 : decode cX10_init 39 = .ok (.newarray .int, 2) := by decide +kernel
theorem dX10_init_41 : decode cX10_init 41 = .ok (.putfield 22, 3) := by decide +kernel
theorem dX10_init_44 : decode cX10_init 44 = .ok (.aload_n 0, 1) := by decide +kernel
theorem dX10_init_45 : decode cX10_init 45 = .ok (.bipush 24, 2) := by decide +kernel
theorem dX10_init_47 : decode cX10_init 47 = .ok (.newarray .int, 2) := by decide +kernel
theorem dX10_init_49 : decode cX10_init 49 = .ok (.putfield 25, 3) := by decide +kernel
theorem dX10_init_52 : decode cX10_init 52 = .ok (.aload_n 0, 1) := by decide +kernel
theorem dX10_init_53 : decode cX10_init 53 = .ok (.bipush 24, 2) := by decide +kernel
theorem dX10_init_55 : decode cX10_init 55 = .ok (.newarray .int, 2) := by decide +kernel
theorem dX10_init_57 : decode cX10_init 57 = .ok (.putfield 28, 3) := by decide +kernel
theorem dX10_init_60 : decode cX10_init 60 = .ok (.aload_n 0, 1) := by decide +kernel
theorem dX10_init_61 : decode cX10_init 61 = .ok (.bipush 24, 2) := by decide +kernel
theorem dX10_init_63 : decode cX10_init 63 = .ok (.newarray .int, 2) := by decide +kernel
theorem dX10_init_65 : decode cX10_init 65 = .ok (.putfield 31, 3) := by decide +kernel
theorem dX10_init_68 : decode cX10_init 68 = .ok (.aload_n 0, 1) := by decide +kernel
theorem dX10_init_69 : decode cX10_init 69 = .ok (.bipush 24, 2) := by decide +kernel
theorem dX10_init_71 : decode cX10_init 71 = .ok (.newarray .int, 2) := by decide +kernel
theorem dX10_init_73 : decode cX10_init 73 = .ok (.putfield 34, 3) := by decide +kernel
theorem dX10_init_76 : decode cX10_init 76 = .ok (.aload_n 0, 1) := by decide +kernel
theorem dX10_init_77 : decode cX10_init 77 = .ok (.bipush 24, 2) := by decide +kernel
theorem dX10_init_79 : decode cX10_init 79 = .ok (.newarray .int, 2) := by decide +kernel
theorem dX10_init_81 : decode cX10_init 81 = .ok (.putfield 37, 3) := by decide +kernel
theorem dX10_init_84 : decode cX10_init 84 = .ok (.aload_n 0, 1) := by decide +kernel
theorem dX10_init_85 : decode cX10_init 85 = .ok (.bipush 24, 2) := by decide +kernel
theorem dX10_init_87 : decode cX10_init 87 = .ok (.newarray .int, 2) := by decide +kernel
theorem dX10_init_89 : decode cX10_init 89 = .ok (.putfield 40, 3) := by decide +kernel
theorem dX10_init_92 : decode cX10_init 92 = .ok (.aload_n 0, 1) := by decide +kernel
theorem dX10_init_93 : decode cX10_init 93 = .ok (.bipush 24, 2) := by decide +kernel
theorem dX10_init_95 : decode cX10_init 95 = .ok (.newarray .int, 2) := by decide +kernel
theorem dX10_init_97 : decode cX10_init 97 = .ok (.putfield 43, 3) := by decide +kernel
theorem dX10_init_100 : decode cX10_init 100 = .ok (.aload_n 0, 1) := by decide +kernel
theorem dX10_init_101 : decode cX10_init 101 = .ok (.bipush 24, 2) := by decide +kernel
theorem dX10_init_103 : decode cX10_init 103 = .ok (.newarray .int, 2) := by decide +kernel
theorem dX10_init_105 : decode cX10_init 105 = .ok (.putfield 46, 3) := by decide +kernel
theorem dX10_init_108 : decode cX10_init 108 = .ok (.aload_n 0, 1) := by decide +kernel
theorem dX10_init_109 : decode cX10_init 109 = .ok (.bipush 24, 2) := by decide +kernel
theorem dX10_init_111 : decode cX10_init 111 = .ok (.newarray .int, 2) := by decide +kernel
theorem dX10_init_113 : decode cX10_init 113 = .ok (.putfield 49, 3) := by decide +kernel
theorem dX10_init_116 : decode cX10_init 116 = .ok (.aload_n 0, 1) := by decide +kernel
theorem dX10_init_117 : decode cX10_init 117 = .ok (.bipush 24, 2) := by decide +kernel
theorem dX10_init_119 : decode cX10_init 119 = .ok (.newarray .int, 2) := by decide +kernel
theorem dX10_init_121 : decode cX10_init 121 = .ok (.putfield 52, 3) := by decide +kernel
theorem dX10_init_124 : decode cX10_init 124 = .ok (.aload_n 0, 1) := by decide +kernel
theorem dX10_init_125 : decode cX10_init 125 = .ok (.bipush 24, 2) := by decide +kernel
theorem dX10_init_127 : decode cX10_init 127 = .ok (.newarray .int, 2) := by decide +kernel
theorem dX10_init_129 : decode cX10_init 129 = .ok (.putfield 55, 3) := by decide +kernel
theorem dX10_init_132 : decode cX10_init 132 = .ok (.aload_n 0, 1) := by decide +kernel
theorem dX10_init_133 : decode cX10_init 133 = .ok (.bipush 24, 2) := by decide +kernel
theorem dX10_init_135 : decode cX10_init 135 = .ok (.newarray .int, 2) := by decide +kernel
theorem dX10_init_137 : decode cX10_init 137 = .ok (.putfield 58, 3) := by decide +kernel
theorem dX10_init_140 : decode cX10_init 140 = .ok (.aload_n 0, 1) := by decide +kernel
theorem dX10_init_141 : decode cX10_init 141 = .ok (.bipush 24, 2) := by decide +kernel
theorem dX10_init_143 : decode cX10_init 143 = .ok (.newarray .int, 2) := by decide +kernel
theorem dX10_init_145 : decode cX10_init 145 = .ok (.putfield 61, 3) := by decide +kernel
theorem dX10_init_148 : decode cX10_init 148 = .ok (.aload_n 0, 1) := by decide +kernel
theorem dX10_init_149 : decode cX10_init 149 = .ok (.bipush 24, 2) := by decide +kernel
theorem dX10_init_151 : decode cX10_init 151 = .ok (.newarray .int, 2) := by decide +kernel
theorem dX10_init_153 : decode cX10_init 153 = .ok (.putfield 64, 3) := by decide +kernel
theorem dX10_init_156 : decode cX10_init 156 = .ok (.aload_n 0, 1) := by decide +kernel
theorem dX10_init_157 : decode cX10_init 157 = .ok (.bipush 24, 2) := by decide +kernel
theorem dX10_init_159 : decode cX10_init 159 = .ok (.newarray .int, 2) := by decide +kernel
theorem dX10_init_161 : decode cX10_init 161 = .ok (.putfield 67, 3) := by decide +kernel
theorem dX10_init_164 : decode cX10_init 164 = .ok (.aload_n 0, 1) := by decide +kernel
theorem dX10_init_165 : decode cX10_init 165 = .ok (.bipush 24, 2) := by decide +kernel
theorem dX10_init_167 : decode cX10_init 167 = .ok (.newarray .int, 2) := by decide +kernel
theorem dX10_init_169 : decode cX10_init 169 = .ok (.putfield 70, 3) := by decide +kernel
theorem dX10_init_172 : decode cX10_init 172 = .ok (.aload_n 0, 1) := by decide +kernel
theorem dX10_init_173 : decode cX10_init 173 = .ok (.bipush 24, 2) := by decide +kernel
theorem dX10_init_175 : decode cX10_init 175 = .ok (.newarray .int, 2) := by decide +kernel
theorem dX10_init_177 : decode cX10_init 177 = .ok (.putfield 73, 3) := by decide +kernel
theorem dX10_init_180 : decode cX10_init 180 = .ok (.aload_n 0, 1) := by decide +kernel
theorem dX10_init_181 : decode cX10_init 181 = .ok (.bipush 24, 2) := by decide +kernel
theorem dX10_init_183 : decode cX10_init 183 = .ok (.newarray .int, 2) := by decide +kernel
theorem dX10_init_185 : decode cX10_init 185 = .ok (.putfield 76, 3) := by decide +kernel
theorem dX10_init_188 : decode cX10_init 188 = .ok (.aload_n 0, 1) := by decide +kernel
theorem dX10_init_189 : decode cX10_init 189 = .ok (.bipush 120, 2) := by decide +kernel
theorem dX10_init_191 : decode cX10_init 191 = .ok (.newarray .int, 2) := by decide +kernel
theorem dX10_init_193 : decode cX10_init 193 = .ok (.putfield 79, 3) := by decide +kernel
theorem dX10_init_196 : decode cX10_init 196 = .ok (.aload_n 0, 1) := by decide +kernel
theorem dX10_init_197 : decode cX10_init 197 = .ok (.bipush 120, 2) := by decide +kernel
theorem dX10_init_199 : decode cX10_init 199 = .ok (.newarray .int, 2) := by decide +kernel
theorem dX10_init_201 : decode cX10_init 201 = .ok (.putfield 82, 3) := by decide +kernel
theorem dX10_init_204 : decode cX10_init 204 = .ok (.aload_n 0, 1) := by decide +kernel
theorem dX10_init_205 : decode cX10_init 205 = .ok (.bipush 120, 2) := by decide +kernel
theorem dX10_init_207 : decode cX10_init 207 = .ok (.newarray .int, 2) := by decide +kernel
theorem dX10_init_209 : decode cX10_init 209 = .ok (.putfield 85, 3) := by decide +kernel
theorem dX10_init_212 : decode cX10_init 212 = .ok (.aload_n 0, 1) := by decide +kernel
theorem dX10_init_213 : decode cX10_init 213 = .ok (.bipush 120, 2) := by decide +kernel
theorem dX10_init_215 : decode cX10_init 215 = .ok (.newarray .int, 2) := by decide +kernel
theorem dX10_init_217 : decode cX10_init 217 = .ok (.putfield 88, 3) := by decide +kernel
theorem dX10_init_220 : decode cX10_init 220 = .ok (.aload_n 0, 1) := by decide +kernel
theorem dX10_init_221 : decode cX10_init 221 = .ok (.sipush 600, 3) := by decide +kernel
theorem dX10_init_224 : decode cX10_init 224 = .ok (.newarray .int, 2) := by decide +kernel
theorem dX10_init_226 : decode cX10_init 226 = .ok (.putfield 91, 3) := by decide +kernel
theorem dX10_init_229 : decode cX10_init 229 = .ok (.aload_n 0, 1) := by decide +kernel
theorem dX10_init_230 : decode cX10_init 230 = .ok (.bipush 30, 2) := by decide +kernel
theorem dX10_init_232 : decode cX10_init 232 = .ok (.newarray .int, 2) := by decide +kernel
theorem dX10_init_234 : decode cX10_init 234 = .ok (.putfield 94, 3) := by decide +kernel
theorem dX10_init_237 : decode cX10_init 237 = .ok (.aload_n 0, 1) := by decide +kernel
theorem dX10_init_238 : decode cX10_init 238 = .ok (.bipush 30, 2) := by decide +kernel
theorem dX10_init_240 : decode cX10_init 240 = .ok (.newarray .int, 2) := by decide +kernel
theorem dX10_init_242 : decode cX10_init 242 = .ok (.putfield 97, 3) := by decide +kernel
theorem dX10_init_245 : decode cX10_init 245 = .ok (.aload_n 0, 1) := by decide +kernel
theorem dX10_init_246 : decode cX10_init 246 = .ok (.sipush 180, 3) := by decide +kernel
theorem dX10_init_249 : decode cX10_init 249 = .ok (.newarray .int, 2) := by decide +kernel
theorem dX10_init_251 : decode cX10_init 251 = .ok (.putfield 100, 3) := by decide +kernel
theorem dX10_init_254 : decode cX10_init 254 = .ok (.aload_n 0, 1) := by decide +kernel
theorem dX10_init_255 : decode cX10_init 255 = .ok (.sipush 180, 3) := by decide +kernel
theorem dX10_init_258 : decode cX10_init 258 = .ok (.newarray .int, 2) := by decide +kernel
theorem dX10_init_260 : decode cX10_init 260 = .ok (.putfield 103, 3) := by decide +kernel
theorem dX10_init_263 : decode cX10_init 263 = .ok (.aload_n 0, 1) := by decide +kernel
theorem dX10_init_264 : decode cX10_init 264 = .ok (.bipush 12, 2) := by decide +kernel
theorem dX10_init_266 : decode cX10_init 266 = .ok (.newarray .int, 2) := by decide +kernel
theorem dX10_init_268 : decode cX10_init 268 = .ok (.putfield 106, 3) := by decide +kernel
theorem dX10_init_271 : decode cX10_init 271 = .ok (.aload_n 0, 1) := by decide +kernel
theorem dX10_init_272 : decode cX10_init 272 = .ok (.bipush 12, 2) := by decide +kernel
theorem dX10_init_274 : decode cX10_init 274 = .ok (.newarray .int, 2) := by decide +kernel
theorem dX10_init_276 : decode cX10_init 276 = .ok (.putfield 109, 3) := by decide +kernel
theorem dX10_init_279 : decode cX10_init 279 = .ok (.aload_n 0, 1) := by decide +kernel
theorem dX10_init_280 : decode cX10_init 280 = .ok (.bipush 12, 2) := by decide +kernel
theorem dX10_init_282 : decode cX10_init 282 = .ok (.newarray .int, 2) := by decide +kernel
theorem dX10_init_284 : decode cX10_init 284 = .ok (.putfield 112, 3) := by decide +kernel
theorem dX10_init_287 : decode cX10_init 287 = .ok (.aload_n 0, 1) := by decide +kernel
theorem dX10_init_288 : decode cX10_init 288 = .ok (.bipush 12, 2) := by decide +kernel
theorem dX10_init_290 : decode cX10_init 290 = .ok (.newarray .int, 2) := by decide +kernel
theorem dX10_init_292 : decode cX10_init 292 = .ok (.putfield 115, 3) := by decide +kernel
theorem dX10_init_295 : decode cX10_init 295 = .ok (.aload_n 0, 1) := by decide +kernel
theorem dX10_init_296 : decode cX10_init 296 = .ok (.bipush 12, 2) := by decide +kernel
theorem dX10_init_298 : decode cX10_init 298 = .ok (.newarray .int, 2) := by decide +kernel
theorem dX10_init_300 : decode cX10_init 300 = .ok (.putfield 118, 3) := by decide +kernel
theorem dX10_init_303 : decode cX10_init 303 = .ok (.aload_n 0, 1) := by decide +kernel
theorem dX10_init_304 : decode cX10_init 304 = .ok (.bipush 12, 2) := by decide +kernel
theorem dX10_init_306 : decode cX10_init 306 = .ok (.newarray .int, 2) := by decide +kernel
theorem dX10_init_308 : decode cX10_init 308 = .ok (.putfield 121, 3) := by decide +kernel
theorem dX10_init_311 : decode cX10_init 311 = .ok (.aload_n 0, 1) := by decide +kernel
theorem dX10_init_312 : decode cX10_init 312 = .ok (.sipush 180, 3) := by decide +kernel
theorem dX10_init_315 : decode cX10_init 315 = .ok (.putfield 124, 3) := by decide +kernel
theorem dX10_init_318 : decode cX10_init 318 = .ok (.return_, 1) := by decide +kernel
theorem dX10_thrown_0 : decode cX10_thrown 0 = .ok (.aload_n 0, 1) := by decide +kernel
theorem dX10_thrown_1 : decode cX10_thrown 1 = .ok (.getfield 128, 3) := by decide +kernel
theorem dX10_thrown_4 : decode cX10_thrown 4 = .ok (.ireturn, 1) := by decide +kernel
theorem dX10_fails_0 : decode cX10_fails 0 = .ok (.aload_n 0, 1) := by decide +kernel
theorem dX10_fails_1 : decode cX10_fails 1 = .ok (.iload_n 1, 1) := by decide +kernel
theorem dX10_fails_2 : decode cX10_fails 2 = .ok (.putfield 128, 3) := by decide +kernel
theorem dX10_fails_5 : decode cX10_fails 5 = .ok (.iconst 0, 1) := by decide +kernel
theorem dX10_fails_6 : decode cX10_fails 6 = .ok (.ireturn, 1) := by decide +kernel
theorem dX10_tell_0 : decode cX10_tell 0 = .ok (.aload_n 0, 1) := by decide +kernel
theorem dX10_tell_1 : decode cX10_tell 1 = .ok (.iconst 0, 1) := by decide +kernel
theorem dX10_tell_2 : decode cX10_tell 2 = .ok (.putfield 128, 3) := by decide +kernel
theorem dX10_tell_5 : decode cX10_tell 5 = .ok (.iload_n 1, 1) := by decide +kernel
theorem dX10_tell_6 : decode cX10_tell 6 = .ok (.ireturn, 1) := by decide +kernel
theorem dX10_refuses_0 : decode cX10_refuses 0 = .ok (.aload_n 0, 1) := by decide +kernel
theorem dX10_refuses_1 : decode cX10_refuses 1 = .ok (.iload_n 1, 1) := by decide +kernel
theorem dX10_refuses_2 : decode cX10_refuses 2 = .ok (.putfield 128, 3) := by decide +kernel
theorem dX10_refuses_5 : decode cX10_refuses 5 = .ok (.iconst 0, 1) := by decide +kernel
theorem dX10_refuses_6 : decode cX10_refuses 6 = .ok (.ireturn, 1) := by decide +kernel
theorem dX10_tells_0 : decode cX10_tells 0 = .ok (.aload_n 0, 1) := by decide +kernel
theorem dX10_tells_1 : decode cX10_tells 1 = .ok (.iconst 0, 1) := by decide +kernel
theorem dX10_tells_2 : decode cX10_tells 2 = .ok (.putfield 128, 3) := by decide +kernel
theorem dX10_tells_5 : decode cX10_tells 5 = .ok (.iload_n 1, 1) := by decide +kernel
theorem dX10_tells_6 : decode cX10_tells 6 = .ok (.ireturn, 1) := by decide +kernel
theorem dX10_in_0 : decode cX10_in 0 = .ok (.iload_n 0, 1) := by decide +kernel
theorem dX10_in_1 : decode cX10_in 1 = .ok (.iload_n 1, 1) := by decide +kernel
theorem dX10_in_2 : decode cX10_in 2 = .ok (.if_icmp .lt 12, 3) := by decide +kernel
theorem dX10_in_5 : decode cX10_in 5 = .ok (.iload_n 0, 1) := by decide +kernel
theorem dX10_in_6 : decode cX10_in 6 = .ok (.iload_n 2, 1) := by decide +kernel
theorem dX10_in_7 : decode cX10_in 7 = .ok (.if_icmp .gt 7, 3) := by decide +kernel
theorem dX10_in_10 : decode cX10_in 10 = .ok (.iconst 1, 1) := by decide +kernel
theorem dX10_in_11 : decode cX10_in 11 = .ok (.goto 4, 3) := by decide +kernel
theorem dX10_in_14 : decode cX10_in 14 = .ok (.iconst 0, 1) := by decide +kernel
theorem dX10_in_15 : decode cX10_in 15 = .ok (.ireturn, 1) := by decide +kernel
theorem dX10_isRigger_0 : decode cX10_isRigger 0 = .ok (.iload_n 1, 1) := by decide +kernel
theorem dX10_isRigger_1 : decode cX10_isRigger 1 = .ok (.iconst 0, 1) := by decide +kernel
theorem dX10_isRigger_2 : decode cX10_isRigger 2 = .ok (.aload_n 0, 1) := by decide +kernel
theorem dX10_isRigger_3 : decode cX10_isRigger 3 = .ok (.getfield 131, 3) := by decide +kernel
theorem dX10_isRigger_6 : decode cX10_isRigger 6 = .ok (.iconst 1, 1) := by decide +kernel
theorem dX10_isRigger_7 : decode cX10_isRigger 7 = .ok (.isub, 1) := by decide +kernel
theorem dX10_isRigger_8 : decode cX10_isRigger 8 = .ok (.invokestatic 134, 3) := by decide +kernel
theorem dX10_isRigger_11 : decode cX10_isRigger 11 = .ok (.ireturn, 1) := by decide +kernel
theorem dX10_isCanopy_0 : decode cX10_isCanopy 0 = .ok (.iload_n 1, 1) := by decide +kernel
theorem dX10_isCanopy_1 : decode cX10_isCanopy 1 = .ok (.iconst 0, 1) := by decide +kernel
theorem dX10_isCanopy_2 : decode cX10_isCanopy 2 = .ok (.aload_n 0, 1) := by decide +kernel
theorem dX10_isCanopy_3 : decode cX10_isCanopy 3 = .ok (.getfield 138, 3) := by decide +kernel
theorem dX10_isCanopy_6 : decode cX10_isCanopy 6 = .ok (.iconst 1, 1) := by decide +kernel
theorem dX10_isCanopy_7 : decode cX10_isCanopy 7 = .ok (.isub, 1) := by decide +kernel
theorem dX10_isCanopy_8 : decode cX10_isCanopy 8 = .ok (.invokestatic 134, 3) := by decide +kernel
theorem dX10_isCanopy_11 : decode cX10_isCanopy 11 = .ok (.ireturn, 1) := by decide +kernel
theorem dX10_may_0 : decode cX10_may 0 = .ok (.aload_n 0, 1) := by decide +kernel
theorem dX10_may_1 : decode cX10_may 1 = .ok (.getfield 7, 3) := by decide +kernel
theorem dX10_may_4 : decode cX10_may 4 = .ok (.iload_n 1, 1) := by decide +kernel
theorem dX10_may_5 : decode cX10_may 5 = .ok (.iaload, 1) := by decide +kernel
theorem dX10_may_6 : decode cX10_may 6 = .ok (.iload_n 2, 1) := by decide +kernel
theorem dX10_may_7 : decode cX10_may 7 = .ok (.ishr, 1) := by decide +kernel
theorem dX10_may_8 : decode cX10_may 8 = .ok (.iconst 1, 1) := by decide +kernel
theorem dX10_may_9 : decode cX10_may 9 = .ok (.iand, 1) := by decide +kernel
theorem dX10_may_10 : decode cX10_may 10 = .ok (.iconst 1, 1) := by decide +kernel
theorem dX10_may_11 : decode cX10_may 11 = .ok (.if_icmp .ne 20, 3) := by decide +kernel
theorem dX10_may_14 : decode cX10_may 14 = .ok (.aload_n 0, 1) := by decide +kernel
theorem dX10_may_15 : decode cX10_may 15 = .ok (.getfield 141, 3) := by decide +kernel
theorem dX10_may_18 : decode cX10_may 18 = .ok (.aload_n 0, 1) := by decide +kernel
theorem dX10_may_19 : decode cX10_may 19 = .ok (.getfield 13, 3) := by decide +kernel
theorem dX10_may_22 : decode cX10_may 22 = .ok (.iload_n 1, 1) := by decide +kernel
theorem dX10_may_23 : decode cX10_may 23 = .ok (.iaload, 1) := by decide +kernel
theorem dX10_may_24 : decode cX10_may 24 = .ok (.if_icmp .gt 7, 3) := by decide +kernel
theorem dX10_may_27 : decode cX10_may 27 = .ok (.iconst 1, 1) := by decide +kernel
theorem dX10_may_28 : decode cX10_may 28 = .ok (.goto 4, 3) := by decide +kernel
theorem dX10_may_31 : decode cX10_may 31 = .ok (.iconst 0, 1) := by decide +kernel
theorem dX10_may_32 : decode cX10_may 32 = .ok (.ireturn, 1) := by decide +kernel
theorem dX10_addRigger_0 : decode cX10_addRigger 0 = .ok (.iload_n 1, 1) := by decide +kernel
theorem dX10_addRigger_1 : decode cX10_addRigger 1 = .ok (.iconst 0, 1) := by decide +kernel
theorem dX10_addRigger_2 : decode cX10_addRigger 2 = .ok (.bipush 63, 2) := by decide +kernel
theorem dX10_addRigger_4 : decode cX10_addRigger 4 = .ok (.invokestatic 134, 3) := by decide +kernel
theorem dX10_addRigger_7 : decode cX10_addRigger 7 = .ok (.ifCond .eq 14, 3) := by decide +kernel
theorem dX10_addRigger_10 : decode cX10_addRigger 10 = .ok (.iload_n 2, 1) := by decide +kernel
theorem dX10_addRigger_11 : decode cX10_addRigger 11 = .ok (.iconst 0, 1) := by decide +kernel
theorem dX10_addRigger_12 : decode cX10_addRigger 12 = .ok (.sipush 9999, 3) := by decide +kernel
theorem dX10_addRigger_15 : decode cX10_addRigger 15 = .ok (.invokestatic 134, 3) := by decide +kernel
theorem dX10_addRigger_18 : decode cX10_addRigger 18 = .ok (.ifCond .ne 9, 3) := by decide +kernel
theorem dX10_addRigger_21 : decode cX10_addRigger 21 = .ok (.aload_n 0, 1) := by decide +kernel
theorem dX10_addRigger_22 : decode cX10_addRigger 22 = .ok (.iconst 1, 1) := by decide +kernel
theorem dX10_addRigger_23 : decode cX10_addRigger 23 = .ok (.invokevirtual 144, 3) := by decide +kernel
theorem dX10_addRigger_26 : decode cX10_addRigger 26 = .ok (.ireturn, 1) := by decide +kernel
theorem dX10_addRigger_27 : decode cX10_addRigger 27 = .ok (.aload_n 0, 1) := by decide +kernel
theorem dX10_addRigger_28 : decode cX10_addRigger 28 = .ok (.getfield 131, 3) := by decide +kernel
theorem dX10_addRigger_31 : decode cX10_addRigger 31 = .ok (.bipush 8, 2) := by decide +kernel
theorem dX10_addRigger_33 : decode cX10_addRigger 33 = .ok (.if_icmp .ne 9, 3) := by decide +kernel
theorem dX10_addRigger_36 : decode cX10_addRigger 36 = .ok (.aload_n 0, 1) := by decide +kernel
theorem dX10_addRigger_37 : decode cX10_addRigger 37 = .ok (.iconst 2, 1) := by decide +kernel
theorem dX10_addRigger_38 : decode cX10_addRigger 38 = .ok (.invokevirtual 144, 3) := by decide +kernel
theorem dX10_addRigger_41 : decode cX10_addRigger 41 = .ok (.ireturn, 1) := by decide +kernel
theorem dX10_addRigger_42 : decode cX10_addRigger 42 = .ok (.aload_n 0, 1) := by decide +kernel
theorem dX10_addRigger_43 : decode cX10_addRigger 43 = .ok (.getfield 7, 3) := by decide +kernel
theorem dX10_addRigger_46 : decode cX10_addRigger 46 = .ok (.aload_n 0, 1) := by decide +kernel
theorem dX10_addRigger_47 : decode cX10_addRigger 47 = .ok (.getfield 131, 3) := by decide +kernel
theorem dX10_addRigger_50 : decode cX10_addRigger 50 = .ok (.iload_n 1, 1) := by decide +kernel
theorem dX10_addRigger_51 : decode cX10_addRigger 51 = .ok (.iastore, 1) := by decide +kernel
theorem dX10_addRigger_52 : decode cX10_addRigger 52 = .ok (.aload_n 0, 1) := by decide +kernel
theorem dX10_addRigger_53 : decode cX10_addRigger 53 = .ok (.getfield 13, 3) := by decide +kernel
theorem dX10_addRigger_56 : decode cX10_addRigger 56 = .ok (.aload_n 0, 1) := by decide +kernel
theorem dX10_addRigger_57 : decode cX10_addRigger 57 = .ok (.getfield 131, 3) := by decide +kernel
theorem dX10_addRigger_60 : decode cX10_addRigger 60 = .ok (.iload_n 2, 1) := by decide +kernel
theorem dX10_addRigger_61 : decode cX10_addRigger 61 = .ok (.iastore, 1) := by decide +kernel
theorem dX10_addRigger_62 : decode cX10_addRigger 62 = .ok (.aload_n 0, 1) := by decide +kernel
theorem dX10_addRigger_63 : decode cX10_addRigger 63 = .ok (.dup, 1) := by decide +kernel
theorem dX10_addRigger_64 : decode cX10_addRigger 64 = .ok (.getfield 131, 3) := by decide +kernel
theorem dX10_addRigger_67 : decode cX10_addRigger 67 = .ok (.iconst 1, 1) := by decide +kernel
theorem dX10_addRigger_68 : decode cX10_addRigger 68 = .ok (.iadd, 1) := by decide +kernel
theorem dX10_addRigger_69 : decode cX10_addRigger 69 = .ok (.putfield 131, 3) := by decide +kernel
theorem dX10_addRigger_72 : decode cX10_addRigger 72 = .ok (.aload_n 0, 1) := by decide +kernel
theorem dX10_addRigger_73 : decode cX10_addRigger 73 = .ok (.aload_n 0, 1) := by decide +kernel
theorem dX10_addRigger_74 : decode cX10_addRigger 74 = .ok (.getfield 131, 3) := by decide +kernel
theorem dX10_addRigger_77 : decode cX10_addRigger 77 = .ok (.iconst 1, 1) := by decide +kernel
theorem dX10_addRigger_78 : decode cX10_addRigger 78 = .ok (.isub, 1) := by decide +kernel
theorem dX10_addRigger_79 : decode cX10_addRigger 79 = .ok (.invokevirtual 148, 3) := by decide +kernel
theorem dX10_addRigger_82 : decode cX10_addRigger 82 = .ok (.ireturn, 1) := by decide +kernel
theorem dX10_setLicences_0 : decode cX10_setLicences 0 = .ok (.aload_n 0, 1) := by decide +kernel
theorem dX10_setLicences_1 : decode cX10_setLicences 1 = .ok (.iload_n 1, 1) := by decide +kernel
theorem dX10_setLicences_2 : decode cX10_setLicences 2 = .ok (.invokevirtual 151, 3) := by decide +kernel
theorem dX10_setLicences_5 : decode cX10_setLicences 5 = .ok (.ifCond .ne 9, 3) := by decide +kernel
theorem dX10_setLicences_8 : decode cX10_setLicences 8 = .ok (.aload_n 0, 1) := by decide +kernel
theorem dX10_setLicences_9 : decode cX10_setLicences 9 = .ok (.iconst 1, 1) := by decide +kernel
theorem dX10_setLicences_10 : decode cX10_setLicences 10 = .ok (.invokevirtual 144, 3) := by decide +kernel
theorem dX10_setLicences_13 : decode cX10_setLicences 13 = .ok (.ireturn, 1) := by decide +kernel
theorem dX10_setLicences_14 : decode cX10_setLicences 14 = .ok (.iload_n 2, 1) := by decide +kernel
theorem dX10_setLicences_15 : decode cX10_setLicences 15 = .ok (.iconst 0, 1) := by decide +kernel
theorem dX10_setLicences_16 : decode cX10_setLicences 16 = .ok (.bipush 63, 2) := by decide +kernel
theorem dX10_setLicences_18 : decode cX10_setLicences 18 = .ok (.invokestatic 134, 3) := by decide +kernel
theorem dX10_setLicences_21 : decode cX10_setLicences 21 = .ok (.ifCond .eq 14, 3) := by decide +kernel
theorem dX10_setLicences_24 : decode cX10_setLicences 24 = .ok (.iload_n 3, 1) := by decide +kernel
theorem dX10_setLicences_25 : decode cX10_setLicences 25 = .ok (.iconst 0, 1) := by decide +kernel
theorem dX10_setLicences_26 : decode cX10_setLicences 26 = .ok (.sipush 9999, 3) := by decide +kernel
theorem dX10_setLicences_29 : decode cX10_setLicences 29 = .ok (.invokestatic 134, 3) := by decide +kernel
theorem dX10_setLicences_32 : decode cX10_setLicences 32 = .ok (.ifCond .ne 9, 3) := by decide +kernel
theorem dX10_setLicences_35 : decode cX10_setLicences 35 = .ok (.aload_n 0, 1) := by decide +kernel
theorem dX10_setLicences_36 : decode cX10_setLicences 36 = .ok (.iconst 2, 1) := by decide +kernel
theorem dX10_setLicences_37 : decode cX10_setLicences 37 = .ok (.invokevirtual 144, 3) := by decide +kernel
theorem dX10_setLicences_40 : decode cX10_setLicences 40 = .ok (.ireturn, 1) := by decide +kernel
theorem dX10_setLicences_41 : decode cX10_setLicences 41 = .ok (.aload_n 0, 1) := by decide +kernel
theorem dX10_setLicences_42 : decode cX10_setLicences 42 = .ok (.getfield 7, 3) := by decide +kernel
theorem dX10_setLicences_45 : decode cX10_setLicences 45 = .ok (.iload_n 1, 1) := by decide +kernel
theorem dX10_setLicences_46 : decode cX10_setLicences 46 = .ok (.iaload, 1) := by decide +kernel
theorem dX10_setLicences_47 : decode cX10_setLicences 47 = .ok (.istore 4, 2) := by decide +kernel
theorem dX10_setLicences_49 : decode cX10_setLicences 49 = .ok (.aload_n 0, 1) := by decide +kernel
theorem dX10_setLicences_50 : decode cX10_setLicences 50 = .ok (.getfield 7, 3) := by decide +kernel
theorem dX10_setLicences_53 : decode cX10_setLicences 53 = .ok (.iload_n 1, 1) := by decide +kernel
theorem dX10_setLicences_54 : decode cX10_setLicences 54 = .ok (.iload_n 2, 1) := by decide +kernel
theorem dX10_setLicences_55 : decode cX10_setLicences 55 = .ok (.iastore, 1) := by decide +kernel
theorem dX10_setLicences_56 : decode cX10_setLicences 56 = .ok (.aload_n 0, 1) := by decide +kernel
theorem dX10_setLicences_57 : decode cX10_setLicences 57 = .ok (.getfield 13, 3) := by decide +kernel
theorem dX10_setLicences_60 : decode cX10_setLicences 60 = .ok (.iload_n 1, 1) := by decide +kernel
theorem dX10_setLicences_61 : decode cX10_setLicences 61 = .ok (.iload_n 3, 1) := by decide +kernel
theorem dX10_setLicences_62 : decode cX10_setLicences 62 = .ok (.iastore, 1) := by decide +kernel
theorem dX10_setLicences_63 : decode cX10_setLicences 63 = .ok (.aload_n 0, 1) := by decide +kernel
theorem dX10_setLicences_64 : decode cX10_setLicences 64 = .ok (.iload 4, 2) := by decide +kernel
theorem dX10_setLicences_66 : decode cX10_setLicences 66 = .ok (.invokevirtual 148, 3) := by decide +kernel
theorem dX10_setLicences_69 : decode cX10_setLicences 69 = .ok (.ireturn, 1) := by decide +kernel
theorem dX10_addCanopy_0 : decode cX10_addCanopy 0 = .ok (.iload_n 1, 1) := by decide +kernel
theorem dX10_addCanopy_1 : decode cX10_addCanopy 1 = .ok (.bipush 109, 2) := by decide +kernel
theorem dX10_addCanopy_3 : decode cX10_addCanopy 3 = .ok (.if_icmp .eq 9, 3) := by decide +kernel
theorem dX10_addCanopy_6 : decode cX10_addCanopy 6 = .ok (.iload_n 1, 1) := by decide +kernel
theorem dX10_addCanopy_7 : decode cX10_addCanopy 7 = .ok (.bipush 114, 2) := by decide +kernel
theorem dX10_addCanopy_9 : decode cX10_addCanopy 9 = .ok (.if_icmp .ne 35, 3) := by decide +kernel
theorem dX10_addCanopy_12 : decode cX10_addCanopy 12 = .ok (.iload_n 2, 1) := by decide +kernel
theorem dX10_addCanopy_13 : decode cX10_addCanopy 13 = .ok (.iconst 0, 1) := by decide +kernel
theorem dX10_addCanopy_14 : decode cX10_addCanopy 14 = .ok (.bipush 9, 2) := by decide +kernel
theorem dX10_addCanopy_16 : decode cX10_addCanopy 16 = .ok (.invokestatic 134, 3) := by decide +kernel
theorem dX10_addCanopy_19 : decode cX10_addCanopy 19 = .ok (.ifCond .eq 25, 3) := by decide +kernel
theorem dX10_addCanopy_22 : decode cX10_addCanopy 22 = .ok (.iload_n 3, 1) := by decide +kernel
theorem dX10_addCanopy_23 : decode cX10_addCanopy 23 = .ok (.iconst 0, 1) := by decide +kernel
theorem dX10_addCanopy_24 : decode cX10_addCanopy 24 = .ok (.bipush 9, 2) := by decide +kernel
theorem dX10_addCanopy_26 : decode cX10_addCanopy 26 = .ok (.invokestatic 134, 3) := by decide +kernel
theorem dX10_addCanopy_29 : decode cX10_addCanopy 29 = .ok (.ifCond .eq 15, 3) := by decide +kernel
theorem dX10_addCanopy_32 : decode cX10_addCanopy 32 = .ok (.iload 4, 2) := by decide +kernel
theorem dX10_addCanopy_34 : decode cX10_addCanopy 34 = .ok (.iconst 1, 1) := by decide +kernel
theorem dX10_addCanopy_35 : decode cX10_addCanopy 35 = .ok (.sipush 9999, 3) := by decide +kernel
theorem dX10_addCanopy_38 : decode cX10_addCanopy 38 = .ok (.invokestatic 134, 3) := by decide +kernel
theorem dX10_addCanopy_41 : decode cX10_addCanopy 41 = .ok (.ifCond .ne 9, 3) := by decide +kernel
theorem dX10_addCanopy_44 : decode cX10_addCanopy 44 = .ok (.aload_n 0, 1) := by decide +kernel
theorem dX10_addCanopy_45 : decode cX10_addCanopy 45 = .ok (.iconst 1, 1) := by decide +kernel
theorem dX10_addCanopy_46 : decode cX10_addCanopy 46 = .ok (.invokevirtual 144, 3) := by decide +kernel
theorem dX10_addCanopy_49 : decode cX10_addCanopy 49 = .ok (.ireturn, 1) := by decide +kernel
theorem dX10_addCanopy_50 : decode cX10_addCanopy 50 = .ok (.aload_n 0, 1) := by decide +kernel
theorem dX10_addCanopy_51 : decode cX10_addCanopy 51 = .ok (.getfield 138, 3) := by decide +kernel
theorem dX10_addCanopy_54 : decode cX10_addCanopy 54 = .ok (.bipush 24, 2) := by decide +kernel
theorem dX10_addCanopy_56 : decode cX10_addCanopy 56 = .ok (.if_icmp .ne 9, 3) := by decide +kernel
theorem dX10_addCanopy_59 : decode cX10_addCanopy 59 = .ok (.aload_n 0, 1) := by decide +kernel
theorem dX10_addCanopy_60 : decode cX10_addCanopy 60 = .ok (.iconst 2, 1) := by decide +kernel
theorem dX10_addCanopy_61 : decode cX10_addCanopy 61 = .ok (.invokevirtual 144, 3) := by decide +kernel
theorem dX10_addCanopy_64 : decode cX10_addCanopy 64 = .ok (.ireturn, 1) := by decide +kernel
theorem dX10_addCanopy_65 : decode cX10_addCanopy 65 = .ok (.aload_n 0, 1) := by decide +kernel
theorem dX10_addCanopy_66 : decode cX10_addCanopy 66 = .ok (.getfield 138, 3) := by decide +kernel
theorem dX10_addCanopy_69 : decode cX10_addCanopy 69 = .ok (.istore 5, 2) := by decide +kernel
theorem dX10_addCanopy_71 : decode cX10_addCanopy 71 = .ok (.aload_n 0, 1) := by decide +kernel
theorem dX10_addCanopy_72 : decode cX10_addCanopy 72 = .ok (.getfield 16, 3) := by decide +kernel
theorem dX10_addCanopy_75 : decode cX10_addCanopy 75 = .ok (.iload 5, 2) := by decide +kernel
theorem dX10_addCanopy_77 : decode cX10_addCanopy 77 = .ok (.iload_n 1, 1) := by decide +kernel
theorem dX10_addCanopy_78 : decode cX10_addCanopy 78 = .ok (.iastore, 1) := by decide +kernel
theorem dX10_addCanopy_79 : decode cX10_addCanopy 79 = .ok (.aload_n 0, 1) := by decide +kernel
theorem dX10_addCanopy_80 : decode cX10_addCanopy 80 = .ok (.getfield 19, 3) := by decide +kernel
theorem dX10_addCanopy_83 : decode cX10_addCanopy 83 = .ok (.iload 5, 2) := by decide +kernel
theorem dX10_addCanopy_85 : decode cX10_addCanopy 85 = .ok (.iload_n 2, 1) := by decide +kernel
theorem dX10_addCanopy_86 : decode cX10_addCanopy 86 = .ok (.iastore, 1) := by decide +kernel
theorem dX10_addCanopy_87 : decode cX10_addCanopy 87 = .ok (.aload_n 0, 1) := by decide +kernel
theorem dX10_addCanopy_88 : decode cX10_addCanopy 88 = .ok (.getfield 22, 3) := by decide +kernel
theorem dX10_addCanopy_91 : decode cX10_addCanopy 91 = .ok (.iload 5, 2) := by decide +kernel
theorem dX10_addCanopy_93 : decode cX10_addCanopy 93 = .ok (.iload_n 3, 1) := by decide +kernel
theorem dX10_addCanopy_94 : decode cX10_addCanopy 94 = .ok (.iastore, 1) := by decide +kernel
theorem dX10_addCanopy_95 : decode cX10_addCanopy 95 = .ok (.aload_n 0, 1) := by decide +kernel
theorem dX10_addCanopy_96 : decode cX10_addCanopy 96 = .ok (.getfield 25, 3) := by decide +kernel
theorem dX10_addCanopy_99 : decode cX10_addCanopy 99 = .ok (.iload 5, 2) := by decide +kernel
theorem dX10_addCanopy_101 : decode cX10_addCanopy 101 = .ok (.iload 4, 2) := by decide +kernel
theorem dX10_addCanopy_103 : decode cX10_addCanopy 103 = .ok (.iastore, 1) := by decide +kernel
theorem dX10_addCanopy_104 : decode cX10_addCanopy 104 = .ok (.aload_n 0, 1) := by decide +kernel
theorem dX10_addCanopy_105 : decode cX10_addCanopy 105 = .ok (.getfield 28, 3) := by decide +kernel
theorem dX10_addCanopy_108 : decode cX10_addCanopy 108 = .ok (.iload 5, 2) := by decide +kernel
theorem dX10_addCanopy_110 : decode cX10_addCanopy 110 = .ok (.aload_n 0, 1) := by decide +kernel
theorem dX10_addCanopy_111 : decode cX10_addCanopy 111 = .ok (.getfield 141, 3) := by decide +kernel
theorem dX10_addCanopy_114 : decode cX10_addCanopy 114 = .ok (.iastore, 1) := by decide +kernel
theorem dX10_addCanopy_115 : decode cX10_addCanopy 115 = .ok (.aload_n 0, 1) := by decide +kernel
theorem dX10_addCanopy_116 : decode cX10_addCanopy 116 = .ok (.getfield 31, 3) := by decide +kernel
theorem dX10_addCanopy_119 : decode cX10_addCanopy 119 = .ok (.iload 5, 2) := by decide +kernel
theorem dX10_addCanopy_121 : decode cX10_addCanopy 121 = .ok (.bipush 111, 2) := by decide +kernel
theorem dX10_addCanopy_123 : decode cX10_addCanopy 123 = .ok (.iastore, 1) := by decide +kernel
theorem dX10_addCanopy_124 : decode cX10_addCanopy 124 = .ok (.aload_n 0, 1) := by decide +kernel
theorem dX10_addCanopy_125 : decode cX10_addCanopy 125 = .ok (.getfield 40, 3) := by decide +kernel
theorem dX10_addCanopy_128 : decode cX10_addCanopy 128 = .ok (.iload 5, 2) := by decide +kernel
theorem dX10_addCanopy_130 : decode cX10_addCanopy 130 = .ok (.iconst (-1), 1) := by decide +kernel
theorem dX10_addCanopy_131 : decode cX10_addCanopy 131 = .ok (.iastore, 1) := by decide +kernel
theorem dX10_addCanopy_132 : decode cX10_addCanopy 132 = .ok (.aload_n 0, 1) := by decide +kernel
theorem dX10_addCanopy_133 : decode cX10_addCanopy 133 = .ok (.getfield 52, 3) := by decide +kernel
theorem dX10_addCanopy_136 : decode cX10_addCanopy 136 = .ok (.iload 5, 2) := by decide +kernel
theorem dX10_addCanopy_138 : decode cX10_addCanopy 138 = .ok (.iconst (-1), 1) := by decide +kernel
theorem dX10_addCanopy_139 : decode cX10_addCanopy 139 = .ok (.iastore, 1) := by decide +kernel
theorem dX10_addCanopy_140 : decode cX10_addCanopy 140 = .ok (.aload_n 0, 1) := by decide +kernel
theorem dX10_addCanopy_141 : decode cX10_addCanopy 141 = .ok (.getfield 55, 3) := by decide +kernel
theorem dX10_addCanopy_144 : decode cX10_addCanopy 144 = .ok (.iload 5, 2) := by decide +kernel
theorem dX10_addCanopy_146 : decode cX10_addCanopy 146 = .ok (.iconst (-1), 1) := by decide +kernel
theorem dX10_addCanopy_147 : decode cX10_addCanopy 147 = .ok (.iastore, 1) := by decide +kernel
theorem dX10_addCanopy_148 : decode cX10_addCanopy 148 = .ok (.aload_n 0, 1) := by decide +kernel
theorem dX10_addCanopy_149 : decode cX10_addCanopy 149 = .ok (.getfield 58, 3) := by decide +kernel
theorem dX10_addCanopy_152 : decode cX10_addCanopy 152 = .ok (.iload 5, 2) := by decide +kernel
theorem dX10_addCanopy_154 : decode cX10_addCanopy 154 = .ok (.iconst (-1), 1) := by decide +kernel
theorem dX10_addCanopy_155 : decode cX10_addCanopy 155 = .ok (.iastore, 1) := by decide +kernel
theorem dX10_addCanopy_156 : decode cX10_addCanopy 156 = .ok (.aload_n 0, 1) := by decide +kernel
theorem dX10_addCanopy_157 : decode cX10_addCanopy 157 = .ok (.dup, 1) := by decide +kernel
theorem dX10_addCanopy_158 : decode cX10_addCanopy 158 = .ok (.getfield 138, 3) := by decide +kernel
theorem dX10_addCanopy_161 : decode cX10_addCanopy 161 = .ok (.iconst 1, 1) := by decide +kernel
theorem dX10_addCanopy_162 : decode cX10_addCanopy 162 = .ok (.iadd, 1) := by decide +kernel
theorem dX10_addCanopy_163 : decode cX10_addCanopy 163 = .ok (.putfield 138, 3) := by decide +kernel
theorem dX10_addCanopy_166 : decode cX10_addCanopy 166 = .ok (.aload_n 0, 1) := by decide +kernel
theorem dX10_addCanopy_167 : decode cX10_addCanopy 167 = .ok (.iload 5, 2) := by decide +kernel
theorem dX10_addCanopy_169 : decode cX10_addCanopy 169 = .ok (.invokevirtual 148, 3) := by decide +kernel
theorem dX10_addCanopy_172 : decode cX10_addCanopy 172 = .ok (.ireturn, 1) := by decide +kernel
theorem dX10_setPeriod_0 : decode cX10_setPeriod 0 = .ok (.iload_n 1, 1) := by decide +kernel
theorem dX10_setPeriod_1 : decode cX10_setPeriod 1 = .ok (.iconst 1, 1) := by decide +kernel
theorem dX10_setPeriod_2 : decode cX10_setPeriod 2 = .ok (.sipush 999, 3) := by decide +kernel
theorem dX10_setPeriod_5 : decode cX10_setPeriod 5 = .ok (.invokestatic 134, 3) := by decide +kernel
theorem dX10_setPeriod_8 : decode cX10_setPeriod 8 = .ok (.ifCond .ne 9, 3) := by decide +kernel
theorem dX10_setPeriod_11 : decode cX10_setPeriod 11 = .ok (.aload_n 0, 1) := by decide +kernel
theorem dX10_setPeriod_12 : decode cX10_setPeriod 12 = .ok (.iconst 1, 1) := by decide +kernel
theorem dX10_setPeriod_13 : decode cX10_setPeriod 13 = .ok (.invokevirtual 144, 3) := by decide +kernel
theorem dX10_setPeriod_16 : decode cX10_setPeriod 16 = .ok (.ireturn, 1) := by decide +kernel
theorem dX10_setPeriod_17 : decode cX10_setPeriod 17 = .ok (.aload_n 0, 1) := by decide +kernel
theorem dX10_setPeriod_18 : decode cX10_setPeriod 18 = .ok (.getfield 124, 3) := by decide +kernel
theorem dX10_setPeriod_21 : decode cX10_setPeriod 21 = .ok (.istore_n 2, 1) := by decide +kernel
theorem dX10_setPeriod_22 : decode cX10_setPeriod 22 = .ok (.aload_n 0, 1) := by decide +kernel
theorem dX10_setPeriod_23 : decode cX10_setPeriod 23 = .ok (.iload_n 1, 1) := by decide +kernel
theorem dX10_setPeriod_24 : decode cX10_setPeriod 24 = .ok (.putfield 124, 3) := by decide +kernel
theorem dX10_setPeriod_27 : decode cX10_setPeriod 27 = .ok (.aload_n 0, 1) := by decide +kernel
theorem dX10_setPeriod_28 : decode cX10_setPeriod 28 = .ok (.iload_n 2, 1) := by decide +kernel
theorem dX10_setPeriod_29 : decode cX10_setPeriod 29 = .ok (.invokevirtual 148, 3) := by decide +kernel
theorem dX10_setPeriod_32 : decode cX10_setPeriod 32 = .ok (.ireturn, 1) := by decide +kernel
theorem dX10_goOn_0 : decode cX10_goOn 0 = .ok (.iload_n 1, 1) := by decide +kernel
theorem dX10_goOn_1 : decode cX10_goOn 1 = .ok (.iconst 1, 1) := by decide +kernel
theorem dX10_goOn_2 : decode cX10_goOn 2 = .ok (.sipush 999, 3) := by decide +kernel
theorem dX10_goOn_5 : decode cX10_goOn 5 = .ok (.invokestatic 134, 3) := by decide +kernel
theorem dX10_goOn_8 : decode cX10_goOn 8 = .ok (.ifCond .ne 9, 3) := by decide +kernel
theorem dX10_goOn_11 : decode cX10_goOn 11 = .ok (.aload_n 0, 1) := by decide +kernel
theorem dX10_goOn_12 : decode cX10_goOn 12 = .ok (.iconst 1, 1) := by decide +kernel
theorem dX10_goOn_13 : decode cX10_goOn 13 = .ok (.invokevirtual 144, 3) := by decide +kernel
theorem dX10_goOn_16 : decode cX10_goOn 16 = .ok (.ireturn, 1) := by decide +kernel
theorem dX10_goOn_17 : decode cX10_goOn 17 = .ok (.aload_n 0, 1) := by decide +kernel
theorem dX10_goOn_18 : decode cX10_goOn 18 = .ok (.getfield 141, 3) := by decide +kernel
theorem dX10_goOn_21 : decode cX10_goOn 21 = .ok (.iload_n 1, 1) := by decide +kernel
theorem dX10_goOn_22 : decode cX10_goOn 22 = .ok (.iadd, 1) := by decide +kernel
theorem dX10_goOn_23 : decode cX10_goOn 23 = .ok (.sipush 9999, 3) := by decide +kernel
theorem dX10_goOn_26 : decode cX10_goOn 26 = .ok (.if_icmp .le 9, 3) := by decide +kernel
theorem dX10_goOn_29 : decode cX10_goOn 29 = .ok (.aload_n 0, 1) := by decide +kernel
theorem dX10_goOn_30 : decode cX10_goOn 30 = .ok (.iconst 2, 1) := by decide +kernel
theorem dX10_goOn_31 : decode cX10_goOn 31 = .ok (.invokevirtual 144, 3) := by decide +kernel
theorem dX10_goOn_34 : decode cX10_goOn 34 = .ok (.ireturn, 1) := by decide +kernel
theorem dX10_goOn_35 : decode cX10_goOn 35 = .ok (.aload_n 0, 1) := by decide +kernel
theorem dX10_goOn_36 : decode cX10_goOn 36 = .ok (.dup, 1) := by decide +kernel
theorem dX10_goOn_37 : decode cX10_goOn 37 = .ok (.getfield 141, 3) := by decide +kernel
theorem dX10_goOn_40 : decode cX10_goOn 40 = .ok (.iload_n 1, 1) := by decide +kernel
theorem dX10_goOn_41 : decode cX10_goOn 41 = .ok (.iadd, 1) := by decide +kernel
theorem dX10_goOn_42 : decode cX10_goOn 42 = .ok (.putfield 141, 3) := by decide +kernel
theorem dX10_goOn_45 : decode cX10_goOn 45 = .ok (.aload_n 0, 1) := by decide +kernel
theorem dX10_goOn_46 : decode cX10_goOn 46 = .ok (.aload_n 0, 1) := by decide +kernel
theorem dX10_goOn_47 : decode cX10_goOn 47 = .ok (.getfield 141, 3) := by decide +kernel
theorem dX10_goOn_50 : decode cX10_goOn 50 = .ok (.invokevirtual 148, 3) := by decide +kernel
theorem dX10_goOn_53 : decode cX10_goOn 53 = .ok (.ireturn, 1) := by decide +kernel
theorem dX10_isReady_0 : decode cX10_isReady 0 = .ok (.aload_n 0, 1) := by decide +kernel
theorem dX10_isReady_1 : decode cX10_isReady 1 = .ok (.getfield 31, 3) := by decide +kernel
theorem dX10_isReady_4 : decode cX10_isReady 4 = .ok (.iload_n 1, 1) := by decide +kernel
theorem dX10_isReady_5 : decode cX10_isReady 5 = .ok (.iaload, 1) := by decide +kernel
theorem dX10_isReady_6 : decode cX10_isReady 6 = .ok (.bipush 107, 2) := by decide +kernel
theorem dX10_isReady_8 : decode cX10_isReady 8 = .ok (.if_icmp .eq 25, 3) := by decide +kernel
theorem dX10_isReady_11 : decode cX10_isReady 11 = .ok (.aload_n 0, 1) := by decide +kernel
theorem dX10_isReady_12 : decode cX10_isReady 12 = .ok (.getfield 31, 3) := by decide +kernel
theorem dX10_isReady_15 : decode cX10_isReady 15 = .ok (.iload_n 1, 1) := by decide +kernel
theorem dX10_isReady_16 : decode cX10_isReady 16 = .ok (.iaload, 1) := by decide +kernel
theorem dX10_isReady_17 : decode cX10_isReady 17 = .ok (.bipush 97, 2) := by decide +kernel
theorem dX10_isReady_19 : decode cX10_isReady 19 = .ok (.if_icmp .eq 14, 3) := by decide +kernel
theorem dX10_isReady_22 : decode cX10_isReady 22 = .ok (.aload_n 0, 1) := by decide +kernel
theorem dX10_isReady_23 : decode cX10_isReady 23 = .ok (.getfield 31, 3) := by decide +kernel
theorem dX10_isReady_26 : decode cX10_isReady 26 = .ok (.iload_n 1, 1) := by decide +kernel
theorem dX10_isReady_27 : decode cX10_isReady 27 = .ok (.iaload, 1) := by decide +kernel
theorem dX10_isReady_28 : decode cX10_isReady 28 = .ok (.bipush 104, 2) := by decide +kernel
theorem dX10_isReady_30 : decode cX10_isReady 30 = .ok (.if_icmp .ne 7, 3) := by decide +kernel
theorem dX10_isReady_33 : decode cX10_isReady 33 = .ok (.iconst 1, 1) := by decide +kernel
theorem dX10_isReady_34 : decode cX10_isReady 34 = .ok (.goto 4, 3) := by decide +kernel
theorem dX10_isReady_37 : decode cX10_isReady 37 = .ok (.iconst 0, 1) := by decide +kernel
theorem dX10_isReady_38 : decode cX10_isReady 38 = .ok (.ireturn, 1) := by decide +kernel
theorem dX10_isOld_0 : decode cX10_isOld 0 = .ok (.aload_n 0, 1) := by decide +kernel
theorem dX10_isOld_1 : decode cX10_isOld 1 = .ok (.getfield 141, 3) := by decide +kernel
theorem dX10_isOld_4 : decode cX10_isOld 4 = .ok (.aload_n 0, 1) := by decide +kernel
theorem dX10_isOld_5 : decode cX10_isOld 5 = .ok (.getfield 28, 3) := by decide +kernel
theorem dX10_isOld_8 : decode cX10_isOld 8 = .ok (.iload_n 1, 1) := by decide +kernel
theorem dX10_isOld_9 : decode cX10_isOld 9 = .ok (.iaload, 1) := by decide +kernel
theorem dX10_isOld_10 : decode cX10_isOld 10 = .ok (.isub, 1) := by decide +kernel
theorem dX10_isOld_11 : decode cX10_isOld 11 = .ok (.aload_n 0, 1) := by decide +kernel
theorem dX10_isOld_12 : decode cX10_isOld 12 = .ok (.getfield 25, 3) := by decide +kernel
theorem dX10_isOld_15 : decode cX10_isOld 15 = .ok (.iload_n 1, 1) := by decide +kernel
theorem dX10_isOld_16 : decode cX10_isOld 16 = .ok (.iaload, 1) := by decide +kernel
theorem dX10_isOld_17 : decode cX10_isOld 17 = .ok (.if_icmp .gt 45, 3) := by decide +kernel
theorem dX10_isOld_20 : decode cX10_isOld 20 = .ok (.aload_n 0, 1) := by decide +kernel
theorem dX10_isOld_21 : decode cX10_isOld 21 = .ok (.getfield 16, 3) := by decide +kernel
theorem dX10_isOld_24 : decode cX10_isOld 24 = .ok (.iload_n 1, 1) := by decide +kernel
theorem dX10_isOld_25 : decode cX10_isOld 25 = .ok (.iaload, 1) := by decide +kernel
theorem dX10_isOld_26 : decode cX10_isOld 26 = .ok (.bipush 114, 2) := by decide +kernel
theorem dX10_isOld_28 : decode cX10_isOld 28 = .ok (.if_icmp .ne 38, 3) := by decide +kernel
theorem dX10_isOld_31 : decode cX10_isOld 31 = .ok (.aload_n 0, 1) := by decide +kernel
theorem dX10_isOld_32 : decode cX10_isOld 32 = .ok (.iload_n 1, 1) := by decide +kernel
theorem dX10_isOld_33 : decode cX10_isOld 33 = .ok (.invokevirtual 155, 3) := by decide +kernel
theorem dX10_isOld_36 : decode cX10_isOld 36 = .ok (.ifCond .eq 30, 3) := by decide +kernel
theorem dX10_isOld_39 : decode cX10_isOld 39 = .ok (.aload_n 0, 1) := by decide +kernel
theorem dX10_isOld_40 : decode cX10_isOld 40 = .ok (.getfield 141, 3) := by decide +kernel
theorem dX10_isOld_43 : decode cX10_isOld 43 = .ok (.aload_n 0, 1) := by decide +kernel
theorem dX10_isOld_44 : decode cX10_isOld 44 = .ok (.getfield 88, 3) := by decide +kernel
theorem dX10_isOld_47 : decode cX10_isOld 47 = .ok (.aload_n 0, 1) := by decide +kernel
theorem dX10_isOld_48 : decode cX10_isOld 48 = .ok (.getfield 40, 3) := by decide +kernel
theorem dX10_isOld_51 : decode cX10_isOld 51 = .ok (.iload_n 1, 1) := by decide +kernel
theorem dX10_isOld_52 : decode cX10_isOld 52 = .ok (.iaload, 1) := by decide +kernel
theorem dX10_isOld_53 : decode cX10_isOld 53 = .ok (.iaload, 1) := by decide +kernel
theorem dX10_isOld_54 : decode cX10_isOld 54 = .ok (.isub, 1) := by decide +kernel
theorem dX10_isOld_55 : decode cX10_isOld 55 = .ok (.aload_n 0, 1) := by decide +kernel
theorem dX10_isOld_56 : decode cX10_isOld 56 = .ok (.getfield 124, 3) := by decide +kernel
theorem dX10_isOld_59 : decode cX10_isOld 59 = .ok (.if_icmp .le 7, 3) := by decide +kernel
theorem dX10_isOld_62 : decode cX10_isOld 62 = .ok (.iconst 1, 1) := by decide +kernel
theorem dX10_isOld_63 : decode cX10_isOld 63 = .ok (.goto 4, 3) := by decide +kernel
theorem dX10_isOld_66 : decode cX10_isOld 66 = .ok (.iconst 0, 1) := by decide +kernel
theorem dX10_isOld_67 : decode cX10_isOld 67 = .ok (.ireturn, 1) := by decide +kernel
theorem dX10_hooksUsed_0 : decode cX10_hooksUsed 0 = .ok (.iconst 0, 1) := by decide +kernel
theorem dX10_hooksUsed_1 : decode cX10_hooksUsed 1 = .ok (.istore_n 1, 1) := by decide +kernel
theorem dX10_hooksUsed_2 : decode cX10_hooksUsed 2 = .ok (.iconst 0, 1) := by decide +kernel
theorem dX10_hooksUsed_3 : decode cX10_hooksUsed 3 = .ok (.istore_n 2, 1) := by decide +kernel
theorem dX10_hooksUsed_4 : decode cX10_hooksUsed 4 = .ok (.iload_n 2, 1) := by decide +kernel
theorem dX10_hooksUsed_5 : decode cX10_hooksUsed 5 = .ok (.aload_n 0, 1) := by decide +kernel
theorem dX10_hooksUsed_6 : decode cX10_hooksUsed 6 = .ok (.getfield 138, 3) := by decide +kernel
theorem dX10_hooksUsed_9 : decode cX10_hooksUsed 9 = .ok (.if_icmp .ge 28, 3) := by decide +kernel
theorem dX10_hooksUsed_12 : decode cX10_hooksUsed 12 = .ok (.iload_n 1, 1) := by decide +kernel
theorem dX10_hooksUsed_13 : decode cX10_hooksUsed 13 = .ok (.aload_n 0, 1) := by decide +kernel
theorem dX10_hooksUsed_14 : decode cX10_hooksUsed 14 = .ok (.getfield 31, 3) := by decide +kernel
theorem dX10_hooksUsed_17 : decode cX10_hooksUsed 17 = .ok (.iload_n 2, 1) := by decide +kernel
theorem dX10_hooksUsed_18 : decode cX10_hooksUsed 18 = .ok (.iaload, 1) := by decide +kernel
theorem dX10_hooksUsed_19 : decode cX10_hooksUsed 19 = .ok (.bipush 112, 2) := by decide +kernel
theorem dX10_hooksUsed_21 : decode cX10_hooksUsed 21 = .ok (.if_icmp .ne 7, 3) := by decide +kernel
theorem dX10_hooksUsed_24 : decode cX10_hooksUsed 24 = .ok (.iconst 1, 1) := by decide +kernel
theorem dX10_hooksUsed_25 : decode cX10_hooksUsed 25 = .ok (.goto 4, 3) := by decide +kernel
theorem dX10_hooksUsed_28 : decode cX10_hooksUsed 28 = .ok (.iconst 0, 1) := by decide +kernel
theorem dX10_hooksUsed_29 : decode cX10_hooksUsed 29 = .ok (.iadd, 1) := by decide +kernel
theorem dX10_hooksUsed_30 : decode cX10_hooksUsed 30 = .ok (.istore_n 1, 1) := by decide +kernel
theorem dX10_hooksUsed_31 : decode cX10_hooksUsed 31 = .ok (.iinc 2 1, 3) := by decide +kernel
theorem dX10_hooksUsed_34 : decode cX10_hooksUsed 34 = .ok (.goto (-30), 3) := by decide +kernel
theorem dX10_hooksUsed_37 : decode cX10_hooksUsed 37 = .ok (.iload_n 1, 1) := by decide +kernel
theorem dX10_hooksUsed_38 : decode cX10_hooksUsed 38 = .ok (.ireturn, 1) := by decide +kernel
theorem dX10_isUsed_0 : decode cX10_isUsed 0 = .ok (.iconst 0, 1) := by decide +kernel
theorem dX10_isUsed_1 : decode cX10_isUsed 1 = .ok (.istore_n 2, 1) := by decide +kernel
theorem dX10_isUsed_2 : decode cX10_isUsed 2 = .ok (.iconst 0, 1) := by decide +kernel
theorem dX10_isUsed_3 : decode cX10_isUsed 3 = .ok (.istore_n 3, 1) := by decide +kernel
theorem dX10_isUsed_4 : decode cX10_isUsed 4 = .ok (.iload_n 3, 1) := by decide +kernel
theorem dX10_isUsed_5 : decode cX10_isUsed 5 = .ok (.aload_n 0, 1) := by decide +kernel
theorem dX10_isUsed_6 : decode cX10_isUsed 6 = .ok (.getfield 138, 3) := by decide +kernel
theorem dX10_isUsed_9 : decode cX10_isUsed 9 = .ok (.if_icmp .ge 40, 3) := by decide +kernel
theorem dX10_isUsed_12 : decode cX10_isUsed 12 = .ok (.iload_n 2, 1) := by decide +kernel
theorem dX10_isUsed_13 : decode cX10_isUsed 13 = .ok (.ifCond .ne 24, 3) := by decide +kernel
theorem dX10_isUsed_16 : decode cX10_isUsed 16 = .ok (.aload_n 0, 1) := by decide +kernel
theorem dX10_isUsed_17 : decode cX10_isUsed 17 = .ok (.getfield 31, 3) := by decide +kernel
theorem dX10_isUsed_20 : decode cX10_isUsed 20 = .ok (.iload_n 3, 1) := by decide +kernel
theorem dX10_isUsed_21 : decode cX10_isUsed 21 = .ok (.iaload, 1) := by decide +kernel
theorem dX10_isUsed_22 : decode cX10_isUsed 22 = .ok (.bipush 112, 2) := by decide +kernel
theorem dX10_isUsed_24 : decode cX10_isUsed 24 = .ok (.if_icmp .ne 17, 3) := by decide +kernel
theorem dX10_isUsed_27 : decode cX10_isUsed 27 = .ok (.aload_n 0, 1) := by decide +kernel
theorem dX10_isUsed_28 : decode cX10_isUsed 28 = .ok (.getfield 34, 3) := by decide +kernel
theorem dX10_isUsed_31 : decode cX10_isUsed 31 = .ok (.iload_n 3, 1) := by decide +kernel
theorem dX10_isUsed_32 : decode cX10_isUsed 32 = .ok (.iaload, 1) := by decide +kernel
theorem dX10_isUsed_33 : decode cX10_isUsed 33 = .ok (.iload_n 1, 1) := by decide +kernel
theorem dX10_isUsed_34 : decode cX10_isUsed 34 = .ok (.if_icmp .ne 7, 3) := by decide +kernel
theorem dX10_isUsed_37 : decode cX10_isUsed 37 = .ok (.iconst 1, 1) := by decide +kernel
theorem dX10_isUsed_38 : decode cX10_isUsed 38 = .ok (.goto 4, 3) := by decide +kernel
theorem dX10_isUsed_41 : decode cX10_isUsed 41 = .ok (.iconst 0, 1) := by decide +kernel
theorem dX10_isUsed_42 : decode cX10_isUsed 42 = .ok (.istore_n 2, 1) := by decide +kernel
theorem dX10_isUsed_43 : decode cX10_isUsed 43 = .ok (.iinc 3 1, 3) := by decide +kernel
theorem dX10_isUsed_46 : decode cX10_isUsed 46 = .ok (.goto (-42), 3) := by decide +kernel
theorem dX10_isUsed_49 : decode cX10_isUsed 49 = .ok (.iload_n 2, 1) := by decide +kernel
theorem dX10_isUsed_50 : decode cX10_isUsed 50 = .ok (.ireturn, 1) := by decide +kernel
theorem dX10_hang_0 : decode cX10_hang 0 = .ok (.aload_n 0, 1) := by decide +kernel
theorem dX10_hang_1 : decode cX10_hang 1 = .ok (.iload_n 1, 1) := by decide +kernel
theorem dX10_hang_2 : decode cX10_hang 2 = .ok (.invokevirtual 158, 3) := by decide +kernel
theorem dX10_hang_5 : decode cX10_hang 5 = .ok (.ifCond .ne 9, 3) := by decide +kernel
theorem dX10_hang_8 : decode cX10_hang 8 = .ok (.aload_n 0, 1) := by decide +kernel
theorem dX10_hang_9 : decode cX10_hang 9 = .ok (.iconst 1, 1) := by decide +kernel
theorem dX10_hang_10 : decode cX10_hang 10 = .ok (.invokevirtual 144, 3) := by decide +kernel
theorem dX10_hang_13 : decode cX10_hang 13 = .ok (.ireturn, 1) := by decide +kernel
theorem dX10_hang_14 : decode cX10_hang 14 = .ok (.iload_n 2, 1) := by decide +kernel
theorem dX10_hang_15 : decode cX10_hang 15 = .ok (.iconst 0, 1) := by decide +kernel
theorem dX10_hang_16 : decode cX10_hang 16 = .ok (.iconst 5, 1) := by decide +kernel
theorem dX10_hang_17 : decode cX10_hang 17 = .ok (.invokestatic 134, 3) := by decide +kernel
theorem dX10_hang_20 : decode cX10_hang 20 = .ok (.ifCond .ne 9, 3) := by decide +kernel
theorem dX10_hang_23 : decode cX10_hang 23 = .ok (.aload_n 0, 1) := by decide +kernel
theorem dX10_hang_24 : decode cX10_hang 24 = .ok (.iconst 2, 1) := by decide +kernel
theorem dX10_hang_25 : decode cX10_hang 25 = .ok (.invokevirtual 144, 3) := by decide +kernel
theorem dX10_hang_28 : decode cX10_hang 28 = .ok (.ireturn, 1) := by decide +kernel
theorem dX10_hang_29 : decode cX10_hang 29 = .ok (.aload_n 0, 1) := by decide +kernel
theorem dX10_hang_30 : decode cX10_hang 30 = .ok (.getfield 31, 3) := by decide +kernel
theorem dX10_hang_33 : decode cX10_hang 33 = .ok (.iload_n 1, 1) := by decide +kernel
theorem dX10_hang_34 : decode cX10_hang 34 = .ok (.iaload, 1) := by decide +kernel
theorem dX10_hang_35 : decode cX10_hang 35 = .ok (.bipush 111, 2) := by decide +kernel
theorem dX10_hang_37 : decode cX10_hang 37 = .ok (.if_icmp .eq 9, 3) := by decide +kernel
theorem dX10_hang_40 : decode cX10_hang 40 = .ok (.aload_n 0, 1) := by decide +kernel
theorem dX10_hang_41 : decode cX10_hang 41 = .ok (.iconst 3, 1) := by decide +kernel
theorem dX10_hang_42 : decode cX10_hang 42 = .ok (.invokevirtual 144, 3) := by decide +kernel
theorem dX10_hang_45 : decode cX10_hang 45 = .ok (.ireturn, 1) := by decide +kernel
theorem dX10_hang_46 : decode cX10_hang 46 = .ok (.aload_n 0, 1) := by decide +kernel
theorem dX10_hang_47 : decode cX10_hang 47 = .ok (.iload_n 2, 1) := by decide +kernel
theorem dX10_hang_48 : decode cX10_hang 48 = .ok (.invokevirtual 161, 3) := by decide +kernel
theorem dX10_hang_51 : decode cX10_hang 51 = .ok (.ifCond .eq 9, 3) := by decide +kernel
theorem dX10_hang_54 : decode cX10_hang 54 = .ok (.aload_n 0, 1) := by decide +kernel
theorem dX10_hang_55 : decode cX10_hang 55 = .ok (.iconst 4, 1) := by decide +kernel
theorem dX10_hang_56 : decode cX10_hang 56 = .ok (.invokevirtual 144, 3) := by decide +kernel
theorem dX10_hang_59 : decode cX10_hang 59 = .ok (.ireturn, 1) := by decide +kernel
theorem dX10_hang_60 : decode cX10_hang 60 = .ok (.aload_n 0, 1) := by decide +kernel
theorem dX10_hang_61 : decode cX10_hang 61 = .ok (.getfield 31, 3) := by decide +kernel
theorem dX10_hang_64 : decode cX10_hang 64 = .ok (.iload_n 1, 1) := by decide +kernel
theorem dX10_hang_65 : decode cX10_hang 65 = .ok (.bipush 112, 2) := by decide +kernel
theorem dX10_hang_67 : decode cX10_hang 67 = .ok (.iastore, 1) := by decide +kernel
theorem dX10_hang_68 : decode cX10_hang 68 = .ok (.aload_n 0, 1) := by decide +kernel
theorem dX10_hang_69 : decode cX10_hang 69 = .ok (.getfield 34, 3) := by decide +kernel
theorem dX10_hang_72 : decode cX10_hang 72 = .ok (.iload_n 1, 1) := by decide +kernel
theorem dX10_hang_73 : decode cX10_hang 73 = .ok (.iload_n 2, 1) := by decide +kernel
theorem dX10_hang_74 : decode cX10_hang 74 = .ok (.iastore, 1) := by decide +kernel
theorem dX10_hang_75 : decode cX10_hang 75 = .ok (.aload_n 0, 1) := by decide +kernel
theorem dX10_hang_76 : decode cX10_hang 76 = .ok (.getfield 37, 3) := by decide +kernel
theorem dX10_hang_79 : decode cX10_hang 79 = .ok (.iload_n 1, 1) := by decide +kernel
theorem dX10_hang_80 : decode cX10_hang 80 = .ok (.iconst 0, 1) := by decide +kernel
theorem dX10_hang_81 : decode cX10_hang 81 = .ok (.iastore, 1) := by decide +kernel
theorem dX10_hang_82 : decode cX10_hang 82 = .ok (.aload_n 0, 1) := by decide +kernel
theorem dX10_hang_83 : decode cX10_hang 83 = .ok (.aload_n 0, 1) := by decide +kernel
theorem dX10_hang_84 : decode cX10_hang 84 = .ok (.invokevirtual 164, 3) := by decide +kernel
theorem dX10_hang_87 : decode cX10_hang 87 = .ok (.invokevirtual 148, 3) := by decide +kernel
theorem dX10_hang_90 : decode cX10_hang 90 = .ok (.ireturn, 1) := by decide +kernel
theorem dX10_finishes_0 : decode cX10_finishes 0 = .ok (.aload_n 0, 1) := by decide +kernel
theorem dX10_finishes_1 : decode cX10_finishes 1 = .ok (.getfield 82, 3) := by decide +kernel
theorem dX10_finishes_4 : decode cX10_finishes 4 = .ok (.aload_n 0, 1) := by decide +kernel
theorem dX10_finishes_5 : decode cX10_finishes 5 = .ok (.getfield 168, 3) := by decide +kernel
theorem dX10_finishes_8 : decode cX10_finishes 8 = .ok (.iload_n 1, 1) := by decide +kernel
theorem dX10_finishes_9 : decode cX10_finishes 9 = .ok (.iastore, 1) := by decide +kernel
theorem dX10_finishes_10 : decode cX10_finishes 10 = .ok (.aload_n 0, 1) := by decide +kernel
theorem dX10_finishes_11 : decode cX10_finishes 11 = .ok (.getfield 85, 3) := by decide +kernel
theorem dX10_finishes_14 : decode cX10_finishes 14 = .ok (.aload_n 0, 1) := by decide +kernel
theorem dX10_finishes_15 : decode cX10_finishes 15 = .ok (.getfield 168, 3) := by decide +kernel
theorem dX10_finishes_18 : decode cX10_finishes 18 = .ok (.aload_n 0, 1) := by decide +kernel
theorem dX10_finishes_19 : decode cX10_finishes 19 = .ok (.getfield 34, 3) := by decide +kernel
theorem dX10_finishes_22 : decode cX10_finishes 22 = .ok (.iload_n 1, 1) := by decide +kernel
theorem dX10_finishes_23 : decode cX10_finishes 23 = .ok (.iaload, 1) := by decide +kernel
theorem dX10_finishes_24 : decode cX10_finishes 24 = .ok (.iastore, 1) := by decide +kernel
theorem dX10_finishes_25 : decode cX10_finishes 25 = .ok (.aload_n 0, 1) := by decide +kernel
theorem dX10_finishes_26 : decode cX10_finishes 26 = .ok (.getfield 88, 3) := by decide +kernel
theorem dX10_finishes_29 : decode cX10_finishes 29 = .ok (.aload_n 0, 1) := by decide +kernel
theorem dX10_finishes_30 : decode cX10_finishes 30 = .ok (.getfield 168, 3) := by decide +kernel
theorem dX10_finishes_33 : decode cX10_finishes 33 = .ok (.aload_n 0, 1) := by decide +kernel
theorem dX10_finishes_34 : decode cX10_finishes 34 = .ok (.getfield 141, 3) := by decide +kernel
theorem dX10_finishes_37 : decode cX10_finishes 37 = .ok (.iastore, 1) := by decide +kernel
theorem dX10_finishes_38 : decode cX10_finishes 38 = .ok (.iconst 0, 1) := by decide +kernel
theorem dX10_finishes_39 : decode cX10_finishes 39 = .ok (.istore_n 2, 1) := by decide +kernel
theorem dX10_finishes_40 : decode cX10_finishes 40 = .ok (.iload_n 2, 1) := by decide +kernel
theorem dX10_finishes_41 : decode cX10_finishes 41 = .ok (.iconst 5, 1) := by decide +kernel
theorem dX10_finishes_42 : decode cX10_finishes 42 = .ok (.if_icmp .ge 32, 3) := by decide +kernel
theorem dX10_finishes_45 : decode cX10_finishes 45 = .ok (.aload_n 0, 1) := by decide +kernel
theorem dX10_finishes_46 : decode cX10_finishes 46 = .ok (.getfield 91, 3) := by decide +kernel
theorem dX10_finishes_49 : decode cX10_finishes 49 = .ok (.iconst 5, 1) := by decide +kernel
theorem dX10_finishes_50 : decode cX10_finishes 50 = .ok (.aload_n 0, 1) := by decide +kernel
theorem dX10_finishes_51 : decode cX10_finishes 51 = .ok (.getfield 168, 3) := by decide +kernel
theorem dX10_finishes_54 : decode cX10_finishes 54 = .ok (.imul, 1) := by decide +kernel
theorem dX10_finishes_55 : decode cX10_finishes 55 = .ok (.iload_n 2, 1) := by decide +kernel
theorem dX10_finishes_56 : decode cX10_finishes 56 = .ok (.iadd, 1) := by decide +kernel
theorem dX10_finishes_57 : decode cX10_finishes 57 = .ok (.aload_n 0, 1) := by decide +kernel
theorem dX10_finishes_58 : decode cX10_finishes 58 = .ok (.getfield 79, 3) := by decide +kernel
theorem dX10_finishes_61 : decode cX10_finishes 61 = .ok (.iconst 5, 1) := by decide +kernel
theorem dX10_finishes_62 : decode cX10_finishes 62 = .ok (.iload_n 1, 1) := by decide +kernel
theorem dX10_finishes_63 : decode cX10_finishes 63 = .ok (.imul, 1) := by decide +kernel
theorem dX10_finishes_64 : decode cX10_finishes 64 = .ok (.iload_n 2, 1) := by decide +kernel
theorem dX10_finishes_65 : decode cX10_finishes 65 = .ok (.iadd, 1) := by decide +kernel
theorem dX10_finishes_66 : decode cX10_finishes 66 = .ok (.iaload, 1) := by decide +kernel
theorem dX10_finishes_67 : decode cX10_finishes 67 = .ok (.iastore, 1) := by decide +kernel
theorem dX10_finishes_68 : decode cX10_finishes 68 = .ok (.iinc 2 1, 3) := by decide +kernel
theorem dX10_finishes_71 : decode cX10_finishes 71 = .ok (.goto (-31), 3) := by decide +kernel
theorem dX10_finishes_74 : decode cX10_finishes 74 = .ok (.aload_n 0, 1) := by decide +kernel
theorem dX10_finishes_75 : decode cX10_finishes 75 = .ok (.getfield 40, 3) := by decide +kernel
theorem dX10_finishes_78 : decode cX10_finishes 78 = .ok (.iload_n 1, 1) := by decide +kernel
theorem dX10_finishes_79 : decode cX10_finishes 79 = .ok (.aload_n 0, 1) := by decide +kernel
theorem dX10_finishes_80 : decode cX10_finishes 80 = .ok (.getfield 168, 3) := by decide +kernel
theorem dX10_finishes_83 : decode cX10_finishes 83 = .ok (.iastore, 1) := by decide +kernel
theorem dX10_finishes_84 : decode cX10_finishes 84 = .ok (.aload_n 0, 1) := by decide +kernel
theorem dX10_finishes_85 : decode cX10_finishes 85 = .ok (.getfield 31, 3) := by decide +kernel
theorem dX10_finishes_88 : decode cX10_finishes 88 = .ok (.iload_n 1, 1) := by decide +kernel
theorem dX10_finishes_89 : decode cX10_finishes 89 = .ok (.bipush 107, 2) := by decide +kernel
theorem dX10_finishes_91 : decode cX10_finishes 91 = .ok (.iastore, 1) := by decide +kernel
theorem dX10_finishes_92 : decode cX10_finishes 92 = .ok (.aload_n 0, 1) := by decide +kernel
theorem dX10_finishes_93 : decode cX10_finishes 93 = .ok (.dup, 1) := by decide +kernel
theorem dX10_finishes_94 : decode cX10_finishes 94 = .ok (.getfield 168, 3) := by decide +kernel
theorem dX10_finishes_97 : decode cX10_finishes 97 = .ok (.iconst 1, 1) := by decide +kernel
theorem dX10_finishes_98 : decode cX10_finishes 98 = .ok (.iadd, 1) := by decide +kernel
theorem dX10_finishes_99 : decode cX10_finishes 99 = .ok (.putfield 168, 3) := by decide +kernel
theorem dX10_finishes_102 : decode cX10_finishes 102 = .ok (.return_, 1) := by decide +kernel
theorem dX10_step_0 : decode cX10_step 0 = .ok (.aload_n 0, 1) := by decide +kernel
theorem dX10_step_1 : decode cX10_step 1 = .ok (.iload_n 1, 1) := by decide +kernel
theorem dX10_step_2 : decode cX10_step 2 = .ok (.invokevirtual 158, 3) := by decide +kernel
theorem dX10_step_5 : decode cX10_step 5 = .ok (.ifCond .eq 11, 3) := by decide +kernel
theorem dX10_step_8 : decode cX10_step 8 = .ok (.aload_n 0, 1) := by decide +kernel
theorem dX10_step_9 : decode cX10_step 9 = .ok (.iload_n 2, 1) := by decide +kernel
theorem dX10_step_10 : decode cX10_step 10 = .ok (.invokevirtual 151, 3) := by decide +kernel
theorem dX10_step_13 : decode cX10_step 13 = .ok (.ifCond .ne 9, 3) := by decide +kernel
theorem dX10_step_16 : decode cX10_step 16 = .ok (.aload_n 0, 1) := by decide +kernel
theorem dX10_step_17 : decode cX10_step 17 = .ok (.iconst 1, 1) := by decide +kernel
theorem dX10_step_18 : decode cX10_step 18 = .ok (.invokevirtual 144, 3) := by decide +kernel
theorem dX10_step_21 : decode cX10_step 21 = .ok (.ireturn, 1) := by decide +kernel
theorem dX10_step_22 : decode cX10_step 22 = .ok (.aload_n 0, 1) := by decide +kernel
theorem dX10_step_23 : decode cX10_step 23 = .ok (.getfield 31, 3) := by decide +kernel
theorem dX10_step_26 : decode cX10_step 26 = .ok (.iload_n 1, 1) := by decide +kernel
theorem dX10_step_27 : decode cX10_step 27 = .ok (.iaload, 1) := by decide +kernel
theorem dX10_step_28 : decode cX10_step 28 = .ok (.bipush 112, 2) := by decide +kernel
theorem dX10_step_30 : decode cX10_step 30 = .ok (.if_icmp .eq 9, 3) := by decide +kernel
theorem dX10_step_33 : decode cX10_step 33 = .ok (.aload_n 0, 1) := by decide +kernel
theorem dX10_step_34 : decode cX10_step 34 = .ok (.iconst 2, 1) := by decide +kernel
theorem dX10_step_35 : decode cX10_step 35 = .ok (.invokevirtual 144, 3) := by decide +kernel
theorem dX10_step_38 : decode cX10_step 38 = .ok (.ireturn, 1) := by decide +kernel
theorem dX10_step_39 : decode cX10_step 39 = .ok (.aload_n 0, 1) := by decide +kernel
theorem dX10_step_40 : decode cX10_step 40 = .ok (.iload_n 2, 1) := by decide +kernel
theorem dX10_step_41 : decode cX10_step 41 = .ok (.aload_n 0, 1) := by decide +kernel
theorem dX10_step_42 : decode cX10_step 42 = .ok (.getfield 37, 3) := by decide +kernel
theorem dX10_step_45 : decode cX10_step 45 = .ok (.iload_n 1, 1) := by decide +kernel
theorem dX10_step_46 : decode cX10_step 46 = .ok (.iaload, 1) := by decide +kernel
theorem dX10_step_47 : decode cX10_step 47 = .ok (.invokevirtual 171, 3) := by decide +kernel
theorem dX10_step_50 : decode cX10_step 50 = .ok (.ifCond .eq 27, 3) := by decide +kernel
theorem dX10_step_53 : decode cX10_step 53 = .ok (.aload_n 0, 1) := by decide +kernel
theorem dX10_step_54 : decode cX10_step 54 = .ok (.getfield 37, 3) := by decide +kernel
theorem dX10_step_57 : decode cX10_step 57 = .ok (.iload_n 1, 1) := by decide +kernel
theorem dX10_step_58 : decode cX10_step 58 = .ok (.iaload, 1) := by decide +kernel
theorem dX10_step_59 : decode cX10_step 59 = .ok (.iconst 4, 1) := by decide +kernel
theorem dX10_step_60 : decode cX10_step 60 = .ok (.if_icmp .ne 23, 3) := by decide +kernel
theorem dX10_step_63 : decode cX10_step 63 = .ok (.aload_n 0, 1) := by decide +kernel
theorem dX10_step_64 : decode cX10_step 64 = .ok (.getfield 79, 3) := by decide +kernel
theorem dX10_step_67 : decode cX10_step 67 = .ok (.iconst 5, 1) := by decide +kernel
theorem dX10_step_68 : decode cX10_step 68 = .ok (.iload_n 1, 1) := by decide +kernel
theorem dX10_step_69 : decode cX10_step 69 = .ok (.imul, 1) := by decide +kernel
theorem dX10_step_70 : decode cX10_step 70 = .ok (.iconst 3, 1) := by decide +kernel
theorem dX10_step_71 : decode cX10_step 71 = .ok (.iadd, 1) := by decide +kernel
theorem dX10_step_72 : decode cX10_step 72 = .ok (.iaload, 1) := by decide +kernel
theorem dX10_step_73 : decode cX10_step 73 = .ok (.iload_n 2, 1) := by decide +kernel
theorem dX10_step_74 : decode cX10_step 74 = .ok (.if_icmp .ne 9, 3) := by decide +kernel
theorem dX10_step_77 : decode cX10_step 77 = .ok (.aload_n 0, 1) := by decide +kernel
theorem dX10_step_78 : decode cX10_step 78 = .ok (.iconst 3, 1) := by decide +kernel
theorem dX10_step_79 : decode cX10_step 79 = .ok (.invokevirtual 144, 3) := by decide +kernel
theorem dX10_step_82 : decode cX10_step 82 = .ok (.ireturn, 1) := by decide +kernel
theorem dX10_step_83 : decode cX10_step 83 = .ok (.aload_n 0, 1) := by decide +kernel
theorem dX10_step_84 : decode cX10_step 84 = .ok (.getfield 79, 3) := by decide +kernel
theorem dX10_step_87 : decode cX10_step 87 = .ok (.iconst 5, 1) := by decide +kernel
theorem dX10_step_88 : decode cX10_step 88 = .ok (.iload_n 1, 1) := by decide +kernel
theorem dX10_step_89 : decode cX10_step 89 = .ok (.imul, 1) := by decide +kernel
theorem dX10_step_90 : decode cX10_step 90 = .ok (.aload_n 0, 1) := by decide +kernel
theorem dX10_step_91 : decode cX10_step 91 = .ok (.getfield 37, 3) := by decide +kernel
theorem dX10_step_94 : decode cX10_step 94 = .ok (.iload_n 1, 1) := by decide +kernel
theorem dX10_step_95 : decode cX10_step 95 = .ok (.iaload, 1) := by decide +kernel
theorem dX10_step_96 : decode cX10_step 96 = .ok (.iadd, 1) := by decide +kernel
theorem dX10_step_97 : decode cX10_step 97 = .ok (.iload_n 2, 1) := by decide +kernel
theorem dX10_step_98 : decode cX10_step 98 = .ok (.iastore, 1) := by decide +kernel
theorem dX10_step_99 : decode cX10_step 99 = .ok (.aload_n 0, 1) := by decide +kernel
theorem dX10_step_100 : decode cX10_step 100 = .ok (.getfield 37, 3) := by decide +kernel
theorem dX10_step_103 : decode cX10_step 103 = .ok (.iload_n 1, 1) := by decide +kernel
theorem dX10_step_104 : decode cX10_step 104 = .ok (.dup2, 1) := by decide +kernel
theorem dX10_step_105 : decode cX10_step 105 = .ok (.iaload, 1) := by decide +kernel
theorem dX10_step_106 : decode cX10_step 106 = .ok (.iconst 1, 1) := by decide +kernel
theorem dX10_step_107 : decode cX10_step 107 = .ok (.iadd, 1) := by decide +kernel
theorem dX10_step_108 : decode cX10_step 108 = .ok (.iastore, 1) := by decide +kernel
theorem dX10_step_109 : decode cX10_step 109 = .ok (.aload_n 0, 1) := by decide +kernel
theorem dX10_step_110 : decode cX10_step 110 = .ok (.getfield 37, 3) := by decide +kernel
theorem dX10_step_113 : decode cX10_step 113 = .ok (.iload_n 1, 1) := by decide +kernel
theorem dX10_step_114 : decode cX10_step 114 = .ok (.iaload, 1) := by decide +kernel
theorem dX10_step_115 : decode cX10_step 115 = .ok (.iconst 5, 1) := by decide +kernel
theorem dX10_step_116 : decode cX10_step 116 = .ok (.if_icmp .ne 8, 3) := by decide +kernel
theorem dX10_step_119 : decode cX10_step 119 = .ok (.aload_n 0, 1) := by decide +kernel
theorem dX10_step_120 : decode cX10_step 120 = .ok (.iload_n 1, 1) := by decide +kernel
theorem dX10_step_121 : decode cX10_step 121 = .ok (.invokevirtual 175, 3) := by decide +kernel
theorem dX10_step_124 : decode cX10_step 124 = .ok (.aload_n 0, 1) := by decide +kernel
theorem dX10_step_125 : decode cX10_step 125 = .ok (.aload_n 0, 1) := by decide +kernel
theorem dX10_step_126 : decode cX10_step 126 = .ok (.getfield 37, 3) := by decide +kernel
theorem dX10_step_129 : decode cX10_step 129 = .ok (.iload_n 1, 1) := by decide +kernel
theorem dX10_step_130 : decode cX10_step 130 = .ok (.iaload, 1) := by decide +kernel
theorem dX10_step_131 : decode cX10_step 131 = .ok (.invokevirtual 148, 3) := by decide +kernel
theorem dX10_step_134 : decode cX10_step 134 = .ok (.ireturn, 1) := by decide +kernel
theorem dX10_breakOff_0 : decode cX10_breakOff 0 = .ok (.aload_n 0, 1) := by decide +kernel
theorem dX10_breakOff_1 : decode cX10_breakOff 1 = .ok (.iload_n 1, 1) := by decide +kernel
theorem dX10_breakOff_2 : decode cX10_breakOff 2 = .ok (.invokevirtual 158, 3) := by decide +kernel
theorem dX10_breakOff_5 : decode cX10_breakOff 5 = .ok (.ifCond .ne 9, 3) := by decide +kernel
theorem dX10_breakOff_8 : decode cX10_breakOff 8 = .ok (.aload_n 0, 1) := by decide +kernel
theorem dX10_breakOff_9 : decode cX10_breakOff 9 = .ok (.iconst 1, 1) := by decide +kernel
theorem dX10_breakOff_10 : decode cX10_breakOff 10 = .ok (.invokevirtual 144, 3) := by decide +kernel
theorem dX10_breakOff_13 : decode cX10_breakOff 13 = .ok (.ireturn, 1) := by decide +kernel
theorem dX10_breakOff_14 : decode cX10_breakOff 14 = .ok (.aload_n 0, 1) := by decide +kernel
theorem dX10_breakOff_15 : decode cX10_breakOff 15 = .ok (.getfield 31, 3) := by decide +kernel
theorem dX10_breakOff_18 : decode cX10_breakOff 18 = .ok (.iload_n 1, 1) := by decide +kernel
theorem dX10_breakOff_19 : decode cX10_breakOff 19 = .ok (.iaload, 1) := by decide +kernel
theorem dX10_breakOff_20 : decode cX10_breakOff 20 = .ok (.bipush 112, 2) := by decide +kernel
theorem dX10_breakOff_22 : decode cX10_breakOff 22 = .ok (.if_icmp .eq 9, 3) := by decide +kernel
theorem dX10_breakOff_25 : decode cX10_breakOff 25 = .ok (.aload_n 0, 1) := by decide +kernel
theorem dX10_breakOff_26 : decode cX10_breakOff 26 = .ok (.iconst 2, 1) := by decide +kernel
theorem dX10_breakOff_27 : decode cX10_breakOff 27 = .ok (.invokevirtual 144, 3) := by decide +kernel
theorem dX10_breakOff_30 : decode cX10_breakOff 30 = .ok (.ireturn, 1) := by decide +kernel
theorem dX10_breakOff_31 : decode cX10_breakOff 31 = .ok (.aload_n 0, 1) := by decide +kernel
theorem dX10_breakOff_32 : decode cX10_breakOff 32 = .ok (.getfield 31, 3) := by decide +kernel
theorem dX10_breakOff_35 : decode cX10_breakOff 35 = .ok (.iload_n 1, 1) := by decide +kernel
theorem dX10_breakOff_36 : decode cX10_breakOff 36 = .ok (.bipush 111, 2) := by decide +kernel
theorem dX10_breakOff_38 : decode cX10_breakOff 38 = .ok (.iastore, 1) := by decide +kernel
theorem dX10_breakOff_39 : decode cX10_breakOff 39 = .ok (.aload_n 0, 1) := by decide +kernel
theorem dX10_breakOff_40 : decode cX10_breakOff 40 = .ok (.aload_n 0, 1) := by decide +kernel
theorem dX10_breakOff_41 : decode cX10_breakOff 41 = .ok (.getfield 37, 3) := by decide +kernel
theorem dX10_breakOff_44 : decode cX10_breakOff 44 = .ok (.iload_n 1, 1) := by decide +kernel
theorem dX10_breakOff_45 : decode cX10_breakOff 45 = .ok (.iaload, 1) := by decide +kernel
theorem dX10_breakOff_46 : decode cX10_breakOff 46 = .ok (.invokevirtual 148, 3) := by decide +kernel
theorem dX10_breakOff_49 : decode cX10_breakOff 49 = .ok (.ireturn, 1) := by decide +kernel
theorem dX10_sharesHook_0 : decode cX10_sharesHook 0 = .ok (.iconst 0, 1) := by decide +kernel
theorem dX10_sharesHook_1 : decode cX10_sharesHook 1 = .ok (.istore_n 3, 1) := by decide +kernel
theorem dX10_sharesHook_2 : decode cX10_sharesHook 2 = .ok (.iconst 0, 1) := by decide +kernel
theorem dX10_sharesHook_3 : decode cX10_sharesHook 3 = .ok (.istore 4, 2) := by decide +kernel
theorem dX10_sharesHook_5 : decode cX10_sharesHook 5 = .ok (.iload 4, 2) := by decide +kernel
theorem dX10_sharesHook_7 : decode cX10_sharesHook 7 = .ok (.aload_n 0, 1) := by decide +kernel
theorem dX10_sharesHook_8 : decode cX10_sharesHook 8 = .ok (.getfield 168, 3) := by decide +kernel
theorem dX10_sharesHook_11 : decode cX10_sharesHook 11 = .ok (.if_icmp .ge 51, 3) := by decide +kernel
theorem dX10_sharesHook_14 : decode cX10_sharesHook 14 = .ok (.iload_n 2, 1) := by decide +kernel
theorem dX10_sharesHook_15 : decode cX10_sharesHook 15 = .ok (.iconst (-1), 1) := by decide +kernel
theorem dX10_sharesHook_16 : decode cX10_sharesHook 16 = .ok (.if_icmp .eq 46, 3) := by decide +kernel
theorem dX10_sharesHook_19 : decode cX10_sharesHook 19 = .ok (.iload_n 3, 1) := by decide +kernel
theorem dX10_sharesHook_20 : decode cX10_sharesHook 20 = .ok (.ifCond .ne 30, 3) := by decide +kernel
theorem dX10_sharesHook_23 : decode cX10_sharesHook 23 = .ok (.aload_n 0, 1) := by decide +kernel
theorem dX10_sharesHook_24 : decode cX10_sharesHook 24 = .ok (.getfield 82, 3) := by decide +kernel
theorem dX10_sharesHook_27 : decode cX10_sharesHook 27 = .ok (.iload 4, 2) := by decide +kernel
theorem dX10_sharesHook_29 : decode cX10_sharesHook 29 = .ok (.iaload, 1) := by decide +kernel
theorem dX10_sharesHook_30 : decode cX10_sharesHook 30 = .ok (.iload_n 1, 1) := by decide +kernel
theorem dX10_sharesHook_31 : decode cX10_sharesHook 31 = .ok (.if_icmp .ne 23, 3) := by decide +kernel
theorem dX10_sharesHook_34 : decode cX10_sharesHook 34 = .ok (.aload_n 0, 1) := by decide +kernel
theorem dX10_sharesHook_35 : decode cX10_sharesHook 35 = .ok (.getfield 85, 3) := by decide +kernel
theorem dX10_sharesHook_38 : decode cX10_sharesHook 38 = .ok (.iload 4, 2) := by decide +kernel
theorem dX10_sharesHook_40 : decode cX10_sharesHook 40 = .ok (.iaload, 1) := by decide +kernel
theorem dX10_sharesHook_41 : decode cX10_sharesHook 41 = .ok (.aload_n 0, 1) := by decide +kernel
theorem dX10_sharesHook_42 : decode cX10_sharesHook 42 = .ok (.getfield 85, 3) := by decide +kernel
theorem dX10_sharesHook_45 : decode cX10_sharesHook 45 = .ok (.iload_n 2, 1) := by decide +kernel
theorem dX10_sharesHook_46 : decode cX10_sharesHook 46 = .ok (.iaload, 1) := by decide +kernel
theorem dX10_sharesHook_47 : decode cX10_sharesHook 47 = .ok (.if_icmp .ne 7, 3) := by decide +kernel
theorem dX10_sharesHook_50 : decode cX10_sharesHook 50 = .ok (.iconst 1, 1) := by decide +kernel
theorem dX10_sharesHook_51 : decode cX10_sharesHook 51 = .ok (.goto 4, 3) := by decide +kernel
theorem dX10_sharesHook_54 : decode cX10_sharesHook 54 = .ok (.iconst 0, 1) := by decide +kernel
theorem dX10_sharesHook_55 : decode cX10_sharesHook 55 = .ok (.istore_n 3, 1) := by decide +kernel
theorem dX10_sharesHook_56 : decode cX10_sharesHook 56 = .ok (.iinc 4 1, 3) := by decide +kernel
theorem dX10_sharesHook_59 : decode cX10_sharesHook 59 = .ok (.goto (-54), 3) := by decide +kernel
theorem dX10_sharesHook_62 : decode cX10_sharesHook 62 = .ok (.iload_n 3, 1) := by decide +kernel
theorem dX10_sharesHook_63 : decode cX10_sharesHook 63 = .ok (.ireturn, 1) := by decide +kernel
theorem dX10_sharesRigger_0 : decode cX10_sharesRigger 0 = .ok (.iconst 0, 1) := by decide +kernel
theorem dX10_sharesRigger_1 : decode cX10_sharesRigger 1 = .ok (.istore_n 3, 1) := by decide +kernel
theorem dX10_sharesRigger_2 : decode cX10_sharesRigger 2 = .ok (.iconst 0, 1) := by decide +kernel
theorem dX10_sharesRigger_3 : decode cX10_sharesRigger 3 = .ok (.istore 4, 2) := by decide +kernel
theorem dX10_sharesRigger_5 : decode cX10_sharesRigger 5 = .ok (.iload 4, 2) := by decide +kernel
theorem dX10_sharesRigger_7 : decode cX10_sharesRigger 7 = .ok (.iconst 5, 1) := by decide +kernel
theorem dX10_sharesRigger_8 : decode cX10_sharesRigger 8 = .ok (.aload_n 0, 1) := by decide +kernel
theorem dX10_sharesRigger_9 : decode cX10_sharesRigger 9 = .ok (.getfield 168, 3) := by decide +kernel
theorem dX10_sharesRigger_12 : decode cX10_sharesRigger 12 = .ok (.imul, 1) := by decide +kernel
theorem dX10_sharesRigger_13 : decode cX10_sharesRigger 13 = .ok (.if_icmp .ge 60, 3) := by decide +kernel
theorem dX10_sharesRigger_16 : decode cX10_sharesRigger 16 = .ok (.iload_n 2, 1) := by decide +kernel
theorem dX10_sharesRigger_17 : decode cX10_sharesRigger 17 = .ok (.iconst (-1), 1) := by decide +kernel
theorem dX10_sharesRigger_18 : decode cX10_sharesRigger 18 = .ok (.if_icmp .eq 55, 3) := by decide +kernel
theorem dX10_sharesRigger_21 : decode cX10_sharesRigger 21 = .ok (.iload_n 3, 1) := by decide +kernel
theorem dX10_sharesRigger_22 : decode cX10_sharesRigger 22 = .ok (.ifCond .ne 39, 3) := by decide +kernel
theorem dX10_sharesRigger_25 : decode cX10_sharesRigger 25 = .ok (.aload_n 0, 1) := by decide +kernel
theorem dX10_sharesRigger_26 : decode cX10_sharesRigger 26 = .ok (.getfield 82, 3) := by decide +kernel
theorem dX10_sharesRigger_29 : decode cX10_sharesRigger 29 = .ok (.iload 4, 2) := by decide +kernel
theorem dX10_sharesRigger_31 : decode cX10_sharesRigger 31 = .ok (.iconst 5, 1) := by decide +kernel
theorem dX10_sharesRigger_32 : decode cX10_sharesRigger 32 = .ok (.idiv, 1) := by decide +kernel
theorem dX10_sharesRigger_33 : decode cX10_sharesRigger 33 = .ok (.iaload, 1) := by decide +kernel
theorem dX10_sharesRigger_34 : decode cX10_sharesRigger 34 = .ok (.iload_n 1, 1) := by decide +kernel
theorem dX10_sharesRigger_35 : decode cX10_sharesRigger 35 = .ok (.if_icmp .ne 30, 3) := by decide +kernel
theorem dX10_sharesRigger_38 : decode cX10_sharesRigger 38 = .ok (.aload_n 0, 1) := by decide +kernel
theorem dX10_sharesRigger_39 : decode cX10_sharesRigger 39 = .ok (.getfield 91, 3) := by decide +kernel
theorem dX10_sharesRigger_42 : decode cX10_sharesRigger 42 = .ok (.iload 4, 2) := by decide +kernel
theorem dX10_sharesRigger_44 : decode cX10_sharesRigger 44 = .ok (.iaload, 1) := by decide +kernel
theorem dX10_sharesRigger_45 : decode cX10_sharesRigger 45 = .ok (.aload_n 0, 1) := by decide +kernel
theorem dX10_sharesRigger_46 : decode cX10_sharesRigger 46 = .ok (.getfield 91, 3) := by decide +kernel
theorem dX10_sharesRigger_49 : decode cX10_sharesRigger 49 = .ok (.iconst 5, 1) := by decide +kernel
theorem dX10_sharesRigger_50 : decode cX10_sharesRigger 50 = .ok (.iload_n 2, 1) := by decide +kernel
theorem dX10_sharesRigger_51 : decode cX10_sharesRigger 51 = .ok (.imul, 1) := by decide +kernel
theorem dX10_sharesRigger_52 : decode cX10_sharesRigger 52 = .ok (.iload 4, 2) := by decide +kernel
theorem dX10_sharesRigger_54 : decode cX10_sharesRigger 54 = .ok (.iconst 5, 1) := by decide +kernel
theorem dX10_sharesRigger_55 : decode cX10_sharesRigger 55 = .ok (.irem, 1) := by decide +kernel
theorem dX10_sharesRigger_56 : decode cX10_sharesRigger 56 = .ok (.iadd, 1) := by decide +kernel
theorem dX10_sharesRigger_57 : decode cX10_sharesRigger 57 = .ok (.iaload, 1) := by decide +kernel
theorem dX10_sharesRigger_58 : decode cX10_sharesRigger 58 = .ok (.if_icmp .ne 7, 3) := by decide +kernel
theorem dX10_sharesRigger_61 : decode cX10_sharesRigger 61 = .ok (.iconst 1, 1) := by decide +kernel
theorem dX10_sharesRigger_62 : decode cX10_sharesRigger 62 = .ok (.goto 4, 3) := by decide +kernel
theorem dX10_sharesRigger_65 : decode cX10_sharesRigger 65 = .ok (.iconst 0, 1) := by decide +kernel
theorem dX10_sharesRigger_66 : decode cX10_sharesRigger 66 = .ok (.istore_n 3, 1) := by decide +kernel
theorem dX10_sharesRigger_67 : decode cX10_sharesRigger 67 = .ok (.iinc 4 1, 3) := by decide +kernel
theorem dX10_sharesRigger_70 : decode cX10_sharesRigger 70 = .ok (.goto (-65), 3) := by decide +kernel
theorem dX10_sharesRigger_73 : decode cX10_sharesRigger 73 = .ok (.iload_n 3, 1) := by decide +kernel
theorem dX10_sharesRigger_74 : decode cX10_sharesRigger 74 = .ok (.ireturn, 1) := by decide +kernel
theorem dX10_reaches_0 : decode cX10_reaches 0 = .ok (.aload_n 0, 1) := by decide +kernel
theorem dX10_reaches_1 : decode cX10_reaches 1 = .ok (.getfield 106, 3) := by decide +kernel
theorem dX10_reaches_4 : decode cX10_reaches 4 = .ok (.iload_n 1, 1) := by decide +kernel
theorem dX10_reaches_5 : decode cX10_reaches 5 = .ok (.iaload, 1) := by decide +kernel
theorem dX10_reaches_6 : decode cX10_reaches 6 = .ok (.istore_n 3, 1) := by decide +kernel
theorem dX10_reaches_7 : decode cX10_reaches 7 = .ok (.aload_n 0, 1) := by decide +kernel
theorem dX10_reaches_8 : decode cX10_reaches 8 = .ok (.getfield 121, 3) := by decide +kernel
theorem dX10_reaches_11 : decode cX10_reaches 11 = .ok (.iload_n 1, 1) := by decide +kernel
theorem dX10_reaches_12 : decode cX10_reaches 12 = .ok (.iaload, 1) := by decide +kernel
theorem dX10_reaches_13 : decode cX10_reaches 13 = .ok (.iconst 1, 1) := by decide +kernel
theorem dX10_reaches_14 : decode cX10_reaches 14 = .ok (.if_icmp .ne 5, 3) := by decide +kernel
theorem dX10_reaches_17 : decode cX10_reaches 17 = .ok (.iconst 0, 1) := by decide +kernel
theorem dX10_reaches_18 : decode cX10_reaches 18 = .ok (.ireturn, 1) := by decide +kernel
theorem dX10_reaches_19 : decode cX10_reaches 19 = .ok (.iload_n 3, 1) := by decide +kernel
theorem dX10_reaches_20 : decode cX10_reaches 20 = .ok (.iload_n 2, 1) := by decide +kernel
theorem dX10_reaches_21 : decode cX10_reaches 21 = .ok (.if_icmp .ne 5, 3) := by decide +kernel
theorem dX10_reaches_24 : decode cX10_reaches 24 = .ok (.iconst 1, 1) := by decide +kernel
theorem dX10_reaches_25 : decode cX10_reaches 25 = .ok (.ireturn, 1) := by decide +kernel
theorem dX10_reaches_26 : decode cX10_reaches 26 = .ok (.aload_n 0, 1) := by decide +kernel
theorem dX10_reaches_27 : decode cX10_reaches 27 = .ok (.getfield 22, 3) := by decide +kernel
theorem dX10_reaches_30 : decode cX10_reaches 30 = .ok (.iload_n 2, 1) := by decide +kernel
theorem dX10_reaches_31 : decode cX10_reaches 31 = .ok (.iaload, 1) := by decide +kernel
theorem dX10_reaches_32 : decode cX10_reaches 32 = .ok (.aload_n 0, 1) := by decide +kernel
theorem dX10_reaches_33 : decode cX10_reaches 33 = .ok (.getfield 22, 3) := by decide +kernel
theorem dX10_reaches_36 : decode cX10_reaches 36 = .ok (.iload_n 3, 1) := by decide +kernel
theorem dX10_reaches_37 : decode cX10_reaches 37 = .ok (.iaload, 1) := by decide +kernel
theorem dX10_reaches_38 : decode cX10_reaches 38 = .ok (.if_icmp .ne 7, 3) := by decide +kernel
theorem dX10_reaches_41 : decode cX10_reaches 41 = .ok (.iconst 1, 1) := by decide +kernel
theorem dX10_reaches_42 : decode cX10_reaches 42 = .ok (.goto 4, 3) := by decide +kernel
theorem dX10_reaches_45 : decode cX10_reaches 45 = .ok (.iconst 0, 1) := by decide +kernel
theorem dX10_reaches_46 : decode cX10_reaches 46 = .ok (.istore 4, 2) := by decide +kernel
theorem dX10_reaches_48 : decode cX10_reaches 48 = .ok (.aload_n 0, 1) := by decide +kernel
theorem dX10_reaches_49 : decode cX10_reaches 49 = .ok (.getfield 19, 3) := by decide +kernel
theorem dX10_reaches_52 : decode cX10_reaches 52 = .ok (.iload_n 2, 1) := by decide +kernel
theorem dX10_reaches_53 : decode cX10_reaches 53 = .ok (.iaload, 1) := by decide +kernel
theorem dX10_reaches_54 : decode cX10_reaches 54 = .ok (.aload_n 0, 1) := by decide +kernel
theorem dX10_reaches_55 : decode cX10_reaches 55 = .ok (.getfield 19, 3) := by decide +kernel
theorem dX10_reaches_58 : decode cX10_reaches 58 = .ok (.iload_n 3, 1) := by decide +kernel
theorem dX10_reaches_59 : decode cX10_reaches 59 = .ok (.iaload, 1) := by decide +kernel
theorem dX10_reaches_60 : decode cX10_reaches 60 = .ok (.if_icmp .ne 7, 3) := by decide +kernel
theorem dX10_reaches_63 : decode cX10_reaches 63 = .ok (.iconst 1, 1) := by decide +kernel
theorem dX10_reaches_64 : decode cX10_reaches 64 = .ok (.goto 4, 3) := by decide +kernel
theorem dX10_reaches_67 : decode cX10_reaches 67 = .ok (.iconst 0, 1) := by decide +kernel
theorem dX10_reaches_68 : decode cX10_reaches 68 = .ok (.istore 5, 2) := by decide +kernel
theorem dX10_reaches_70 : decode cX10_reaches 70 = .ok (.aload_n 0, 1) := by decide +kernel
theorem dX10_reaches_71 : decode cX10_reaches 71 = .ok (.getfield 118, 3) := by decide +kernel
theorem dX10_reaches_74 : decode cX10_reaches 74 = .ok (.iload_n 1, 1) := by decide +kernel
theorem dX10_reaches_75 : decode cX10_reaches 75 = .ok (.iaload, 1) := by decide +kernel
theorem dX10_reaches_76 : decode cX10_reaches 76 = .ok (.bipush 45, 2) := by decide +kernel
theorem dX10_reaches_78 : decode cX10_reaches 78 = .ok (.if_icmp .eq 91, 3) := by decide +kernel
theorem dX10_reaches_81 : decode cX10_reaches 81 = .ok (.aload_n 0, 1) := by decide +kernel
theorem dX10_reaches_82 : decode cX10_reaches 82 = .ok (.getfield 118, 3) := by decide +kernel
theorem dX10_reaches_85 : decode cX10_reaches 85 = .ok (.iload_n 1, 1) := by decide +kernel
theorem dX10_reaches_86 : decode cX10_reaches 86 = .ok (.iaload, 1) := by decide +kernel
theorem dX10_reaches_87 : decode cX10_reaches 87 = .ok (.bipush 108, 2) := by decide +kernel
theorem dX10_reaches_89 : decode cX10_reaches 89 = .ok (.if_icmp .ne 8, 3) := by decide +kernel
theorem dX10_reaches_92 : decode cX10_reaches 92 = .ok (.iload 4, 2) := by decide +kernel
theorem dX10_reaches_94 : decode cX10_reaches 94 = .ok (.ifCond .ne 69, 3) := by decide +kernel
theorem dX10_reaches_97 : decode cX10_reaches 97 = .ok (.aload_n 0, 1) := by decide +kernel
theorem dX10_reaches_98 : decode cX10_reaches 98 = .ok (.getfield 118, 3) := by decide +kernel
theorem dX10_reaches_101 : decode cX10_reaches 101 = .ok (.iload_n 1, 1) := by decide +kernel
theorem dX10_reaches_102 : decode cX10_reaches 102 = .ok (.iaload, 1) := by decide +kernel
theorem dX10_reaches_103 : decode cX10_reaches 103 = .ok (.bipush 104, 2) := by decide +kernel
theorem dX10_reaches_105 : decode cX10_reaches 105 = .ok (.if_icmp .ne 17, 3) := by decide +kernel
theorem dX10_reaches_108 : decode cX10_reaches 108 = .ok (.aload_n 0, 1) := by decide +kernel
theorem dX10_reaches_109 : decode cX10_reaches 109 = .ok (.iload_n 2, 1) := by decide +kernel
theorem dX10_reaches_110 : decode cX10_reaches 110 = .ok (.aload_n 0, 1) := by decide +kernel
theorem dX10_reaches_111 : decode cX10_reaches 111 = .ok (.getfield 109, 3) := by decide +kernel
theorem dX10_reaches_114 : decode cX10_reaches 114 = .ok (.iload_n 1, 1) := by decide +kernel
theorem dX10_reaches_115 : decode cX10_reaches 115 = .ok (.iaload, 1) := by decide +kernel
theorem dX10_reaches_116 : decode cX10_reaches 116 = .ok (.invokevirtual 179, 3) := by decide +kernel
theorem dX10_reaches_119 : decode cX10_reaches 119 = .ok (.ifCond .ne 44, 3) := by decide +kernel
theorem dX10_reaches_122 : decode cX10_reaches 122 = .ok (.aload_n 0, 1) := by decide +kernel
theorem dX10_reaches_123 : decode cX10_reaches 123 = .ok (.getfield 118, 3) := by decide +kernel
theorem dX10_reaches_126 : decode cX10_reaches 126 = .ok (.iload_n 1, 1) := by decide +kernel
theorem dX10_reaches_127 : decode cX10_reaches 127 = .ok (.iaload, 1) := by decide +kernel
theorem dX10_reaches_128 : decode cX10_reaches 128 = .ok (.bipush 114, 2) := by decide +kernel
theorem dX10_reaches_130 : decode cX10_reaches 130 = .ok (.if_icmp .ne 17, 3) := by decide +kernel
theorem dX10_reaches_133 : decode cX10_reaches 133 = .ok (.aload_n 0, 1) := by decide +kernel
theorem dX10_reaches_134 : decode cX10_reaches 134 = .ok (.iload_n 2, 1) := by decide +kernel
theorem dX10_reaches_135 : decode cX10_reaches 135 = .ok (.aload_n 0, 1) := by decide +kernel
theorem dX10_reaches_136 : decode cX10_reaches 136 = .ok (.getfield 109, 3) := by decide +kernel
theorem dX10_reaches_139 : decode cX10_reaches 139 = .ok (.iload_n 1, 1) := by decide +kernel
theorem dX10_reaches_140 : decode cX10_reaches 140 = .ok (.iaload, 1) := by decide +kernel
theorem dX10_reaches_141 : decode cX10_reaches 141 = .ok (.invokevirtual 182, 3) := by decide +kernel
theorem dX10_reaches_144 : decode cX10_reaches 144 = .ok (.ifCond .ne 19, 3) := by decide +kernel
theorem dX10_reaches_147 : decode cX10_reaches 147 = .ok (.aload_n 0, 1) := by decide +kernel
theorem dX10_reaches_148 : decode cX10_reaches 148 = .ok (.getfield 118, 3) := by decide +kernel
theorem dX10_reaches_151 : decode cX10_reaches 151 = .ok (.iload_n 1, 1) := by decide +kernel
theorem dX10_reaches_152 : decode cX10_reaches 152 = .ok (.iaload, 1) := by decide +kernel
theorem dX10_reaches_153 : decode cX10_reaches 153 = .ok (.bipush 99, 2) := by decide +kernel
theorem dX10_reaches_155 : decode cX10_reaches 155 = .ok (.if_icmp .ne 12, 3) := by decide +kernel
theorem dX10_reaches_158 : decode cX10_reaches 158 = .ok (.iload 5, 2) := by decide +kernel
theorem dX10_reaches_160 : decode cX10_reaches 160 = .ok (.ifCond .eq 7, 3) := by decide +kernel
theorem dX10_reaches_163 : decode cX10_reaches 163 = .ok (.iconst 1, 1) := by decide +kernel
theorem dX10_reaches_164 : decode cX10_reaches 164 = .ok (.goto 4, 3) := by decide +kernel
theorem dX10_reaches_167 : decode cX10_reaches 167 = .ok (.iconst 0, 1) := by decide +kernel
theorem dX10_reaches_168 : decode cX10_reaches 168 = .ok (.ireturn, 1) := by decide +kernel
theorem dX10_reaches_169 : decode cX10_reaches 169 = .ok (.aload_n 0, 1) := by decide +kernel
theorem dX10_reaches_170 : decode cX10_reaches 170 = .ok (.getfield 115, 3) := by decide +kernel
theorem dX10_reaches_173 : decode cX10_reaches 173 = .ok (.iload_n 1, 1) := by decide +kernel
theorem dX10_reaches_174 : decode cX10_reaches 174 = .ok (.iaload, 1) := by decide +kernel
theorem dX10_reaches_175 : decode cX10_reaches 175 = .ok (.ifCond .le 8, 3) := by decide +kernel
theorem dX10_reaches_178 : decode cX10_reaches 178 = .ok (.iload 4, 2) := by decide +kernel
theorem dX10_reaches_180 : decode cX10_reaches 180 = .ok (.ifCond .ne 66, 3) := by decide +kernel
theorem dX10_reaches_183 : decode cX10_reaches 183 = .ok (.aload_n 0, 1) := by decide +kernel
theorem dX10_reaches_184 : decode cX10_reaches 184 = .ok (.getfield 115, 3) := by decide +kernel
theorem dX10_reaches_187 : decode cX10_reaches 187 = .ok (.iload_n 1, 1) := by decide +kernel
theorem dX10_reaches_188 : decode cX10_reaches 188 = .ok (.iaload, 1) := by decide +kernel
theorem dX10_reaches_189 : decode cX10_reaches 189 = .ok (.iconst 1, 1) := by decide +kernel
theorem dX10_reaches_190 : decode cX10_reaches 190 = .ok (.if_icmp .le 17, 3) := by decide +kernel
theorem dX10_reaches_193 : decode cX10_reaches 193 = .ok (.aload_n 0, 1) := by decide +kernel
theorem dX10_reaches_194 : decode cX10_reaches 194 = .ok (.iload_n 2, 1) := by decide +kernel
theorem dX10_reaches_195 : decode cX10_reaches 195 = .ok (.aload_n 0, 1) := by decide +kernel
theorem dX10_reaches_196 : decode cX10_reaches 196 = .ok (.getfield 109, 3) := by decide +kernel
theorem dX10_reaches_199 : decode cX10_reaches 199 = .ok (.iload_n 1, 1) := by decide +kernel
theorem dX10_reaches_200 : decode cX10_reaches 200 = .ok (.iaload, 1) := by decide +kernel
theorem dX10_reaches_201 : decode cX10_reaches 201 = .ok (.invokevirtual 179, 3) := by decide +kernel
theorem dX10_reaches_204 : decode cX10_reaches 204 = .ok (.ifCond .ne 42, 3) := by decide +kernel
theorem dX10_reaches_207 : decode cX10_reaches 207 = .ok (.aload_n 0, 1) := by decide +kernel
theorem dX10_reaches_208 : decode cX10_reaches 208 = .ok (.getfield 115, 3) := by decide +kernel
theorem dX10_reaches_211 : decode cX10_reaches 211 = .ok (.iload_n 1, 1) := by decide +kernel
theorem dX10_reaches_212 : decode cX10_reaches 212 = .ok (.iaload, 1) := by decide +kernel
theorem dX10_reaches_213 : decode cX10_reaches 213 = .ok (.iconst 2, 1) := by decide +kernel
theorem dX10_reaches_214 : decode cX10_reaches 214 = .ok (.if_icmp .le 17, 3) := by decide +kernel
theorem dX10_reaches_217 : decode cX10_reaches 217 = .ok (.aload_n 0, 1) := by decide +kernel
theorem dX10_reaches_218 : decode cX10_reaches 218 = .ok (.iload_n 2, 1) := by decide +kernel
theorem dX10_reaches_219 : decode cX10_reaches 219 = .ok (.aload_n 0, 1) := by decide +kernel
theorem dX10_reaches_220 : decode cX10_reaches 220 = .ok (.getfield 109, 3) := by decide +kernel
theorem dX10_reaches_223 : decode cX10_reaches 223 = .ok (.iload_n 1, 1) := by decide +kernel
theorem dX10_reaches_224 : decode cX10_reaches 224 = .ok (.iaload, 1) := by decide +kernel
theorem dX10_reaches_225 : decode cX10_reaches 225 = .ok (.invokevirtual 182, 3) := by decide +kernel
theorem dX10_reaches_228 : decode cX10_reaches 228 = .ok (.ifCond .ne 18, 3) := by decide +kernel
theorem dX10_reaches_231 : decode cX10_reaches 231 = .ok (.aload_n 0, 1) := by decide +kernel
theorem dX10_reaches_232 : decode cX10_reaches 232 = .ok (.getfield 115, 3) := by decide +kernel
theorem dX10_reaches_235 : decode cX10_reaches 235 = .ok (.iload_n 1, 1) := by decide +kernel
theorem dX10_reaches_236 : decode cX10_reaches 236 = .ok (.iaload, 1) := by decide +kernel
theorem dX10_reaches_237 : decode cX10_reaches 237 = .ok (.iconst 3, 1) := by decide +kernel
theorem dX10_reaches_238 : decode cX10_reaches 238 = .ok (.if_icmp .le 12, 3) := by decide +kernel
theorem dX10_reaches_241 : decode cX10_reaches 241 = .ok (.iload 5, 2) := by decide +kernel
theorem dX10_reaches_243 : decode cX10_reaches 243 = .ok (.ifCond .eq 7, 3) := by decide +kernel
theorem dX10_reaches_246 : decode cX10_reaches 246 = .ok (.iconst 1, 1) := by decide +kernel
theorem dX10_reaches_247 : decode cX10_reaches 247 = .ok (.goto 4, 3) := by decide +kernel
theorem dX10_reaches_250 : decode cX10_reaches 250 = .ok (.iconst 0, 1) := by decide +kernel
theorem dX10_reaches_251 : decode cX10_reaches 251 = .ok (.ireturn, 1) := by decide +kernel
theorem dX10_isFree_0 : decode cX10_isFree 0 = .ok (.aload_n 0, 1) := by decide +kernel
theorem dX10_isFree_1 : decode cX10_isFree 1 = .ok (.getfield 61, 3) := by decide +kernel
theorem dX10_isFree_4 : decode cX10_isFree 4 = .ok (.iload_n 2, 1) := by decide +kernel
theorem dX10_isFree_5 : decode cX10_isFree 5 = .ok (.iaload, 1) := by decide +kernel
theorem dX10_isFree_6 : decode cX10_isFree 6 = .ok (.iconst 1, 1) := by decide +kernel
theorem dX10_isFree_7 : decode cX10_isFree 7 = .ok (.if_icmp .ne 32, 3) := by decide +kernel
theorem dX10_isFree_10 : decode cX10_isFree 10 = .ok (.aload_n 0, 1) := by decide +kernel
theorem dX10_isFree_11 : decode cX10_isFree 11 = .ok (.getfield 64, 3) := by decide +kernel
theorem dX10_isFree_14 : decode cX10_isFree 14 = .ok (.iload_n 2, 1) := by decide +kernel
theorem dX10_isFree_15 : decode cX10_isFree 15 = .ok (.iaload, 1) := by decide +kernel
theorem dX10_isFree_16 : decode cX10_isFree 16 = .ok (.iconst 1, 1) := by decide +kernel
theorem dX10_isFree_17 : decode cX10_isFree 17 = .ok (.if_icmp .ne 22, 3) := by decide +kernel
theorem dX10_isFree_20 : decode cX10_isFree 20 = .ok (.aload_n 0, 1) := by decide +kernel
theorem dX10_isFree_21 : decode cX10_isFree 21 = .ok (.getfield 55, 3) := by decide +kernel
theorem dX10_isFree_24 : decode cX10_isFree 24 = .ok (.iload_n 2, 1) := by decide +kernel
theorem dX10_isFree_25 : decode cX10_isFree 25 = .ok (.iaload, 1) := by decide +kernel
theorem dX10_isFree_26 : decode cX10_isFree 26 = .ok (.aload_n 0, 1) := by decide +kernel
theorem dX10_isFree_27 : decode cX10_isFree 27 = .ok (.getfield 112, 3) := by decide +kernel
theorem dX10_isFree_30 : decode cX10_isFree 30 = .ok (.iload_n 1, 1) := by decide +kernel
theorem dX10_isFree_31 : decode cX10_isFree 31 = .ok (.iaload, 1) := by decide +kernel
theorem dX10_isFree_32 : decode cX10_isFree 32 = .ok (.if_icmp .le 7, 3) := by decide +kernel
theorem dX10_isFree_35 : decode cX10_isFree 35 = .ok (.iconst 1, 1) := by decide +kernel
theorem dX10_isFree_36 : decode cX10_isFree 36 = .ok (.goto 4, 3) := by decide +kernel
theorem dX10_isFree_39 : decode cX10_isFree 39 = .ok (.iconst 0, 1) := by decide +kernel
theorem dX10_isFree_40 : decode cX10_isFree 40 = .ok (.istore_n 3, 1) := by decide +kernel
theorem dX10_isFree_41 : decode cX10_isFree 41 = .ok (.iload_n 3, 1) := by decide +kernel
theorem dX10_isFree_42 : decode cX10_isFree 42 = .ok (.ifCond .eq 32, 3) := by decide +kernel
theorem dX10_isFree_45 : decode cX10_isFree 45 = .ok (.aload_n 0, 1) := by decide +kernel
theorem dX10_isFree_46 : decode cX10_isFree 46 = .ok (.getfield 106, 3) := by decide +kernel
theorem dX10_isFree_49 : decode cX10_isFree 49 = .ok (.iload_n 1, 1) := by decide +kernel
theorem dX10_isFree_50 : decode cX10_isFree 50 = .ok (.iaload, 1) := by decide +kernel
theorem dX10_isFree_51 : decode cX10_isFree 51 = .ok (.iload_n 2, 1) := by decide +kernel
theorem dX10_isFree_52 : decode cX10_isFree 52 = .ok (.if_icmp .ne 18, 3) := by decide +kernel
theorem dX10_isFree_55 : decode cX10_isFree 55 = .ok (.aload_n 0, 1) := by decide +kernel
theorem dX10_isFree_56 : decode cX10_isFree 56 = .ok (.getfield 67, 3) := by decide +kernel
theorem dX10_isFree_59 : decode cX10_isFree 59 = .ok (.iload_n 2, 1) := by decide +kernel
theorem dX10_isFree_60 : decode cX10_isFree 60 = .ok (.iaload, 1) := by decide +kernel
theorem dX10_isFree_61 : decode cX10_isFree 61 = .ok (.aload_n 0, 1) := by decide +kernel
theorem dX10_isFree_62 : decode cX10_isFree 62 = .ok (.getfield 112, 3) := by decide +kernel
theorem dX10_isFree_65 : decode cX10_isFree 65 = .ok (.iload_n 1, 1) := by decide +kernel
theorem dX10_isFree_66 : decode cX10_isFree 66 = .ok (.iaload, 1) := by decide +kernel
theorem dX10_isFree_67 : decode cX10_isFree 67 = .ok (.if_icmp .le 7, 3) := by decide +kernel
theorem dX10_isFree_70 : decode cX10_isFree 70 = .ok (.iconst 1, 1) := by decide +kernel
theorem dX10_isFree_71 : decode cX10_isFree 71 = .ok (.goto 4, 3) := by decide +kernel
theorem dX10_isFree_74 : decode cX10_isFree 74 = .ok (.iconst 0, 1) := by decide +kernel
theorem dX10_isFree_75 : decode cX10_isFree 75 = .ok (.ireturn, 1) := by decide +kernel
theorem dX10_isHeldDown_0 : decode cX10_isHeldDown 0 = .ok (.iconst 0, 1) := by decide +kernel
theorem dX10_isHeldDown_1 : decode cX10_isHeldDown 1 = .ok (.istore_n 2, 1) := by decide +kernel
theorem dX10_isHeldDown_2 : decode cX10_isHeldDown 2 = .ok (.iconst 0, 1) := by decide +kernel
theorem dX10_isHeldDown_3 : decode cX10_isHeldDown 3 = .ok (.istore_n 3, 1) := by decide +kernel
theorem dX10_isHeldDown_4 : decode cX10_isHeldDown 4 = .ok (.iload_n 3, 1) := by decide +kernel
theorem dX10_isHeldDown_5 : decode cX10_isHeldDown 5 = .ok (.aload_n 0, 1) := by decide +kernel
theorem dX10_isHeldDown_6 : decode cX10_isHeldDown 6 = .ok (.getfield 185, 3) := by decide +kernel
theorem dX10_isHeldDown_9 : decode cX10_isHeldDown 9 = .ok (.if_icmp .ge 37, 3) := by decide +kernel
theorem dX10_isHeldDown_12 : decode cX10_isHeldDown 12 = .ok (.iload_n 2, 1) := by decide +kernel
theorem dX10_isHeldDown_13 : decode cX10_isHeldDown 13 = .ok (.ifCond .ne 21, 3) := by decide +kernel
theorem dX10_isHeldDown_16 : decode cX10_isHeldDown 16 = .ok (.aload_n 0, 1) := by decide +kernel
theorem dX10_isHeldDown_17 : decode cX10_isHeldDown 17 = .ok (.iload_n 3, 1) := by decide +kernel
theorem dX10_isHeldDown_18 : decode cX10_isHeldDown 18 = .ok (.iload_n 1, 1) := by decide +kernel
theorem dX10_isHeldDown_19 : decode cX10_isHeldDown 19 = .ok (.invokevirtual 188, 3) := by decide +kernel
theorem dX10_isHeldDown_22 : decode cX10_isHeldDown 22 = .ok (.ifCond .eq 16, 3) := by decide +kernel
theorem dX10_isHeldDown_25 : decode cX10_isHeldDown 25 = .ok (.aload_n 0, 1) := by decide +kernel
theorem dX10_isHeldDown_26 : decode cX10_isHeldDown 26 = .ok (.iload_n 3, 1) := by decide +kernel
theorem dX10_isHeldDown_27 : decode cX10_isHeldDown 27 = .ok (.iload_n 1, 1) := by decide +kernel
theorem dX10_isHeldDown_28 : decode cX10_isHeldDown 28 = .ok (.invokevirtual 191, 3) := by decide +kernel
theorem dX10_isHeldDown_31 : decode cX10_isHeldDown 31 = .ok (.ifCond .ne 7, 3) := by decide +kernel
theorem dX10_isHeldDown_34 : decode cX10_isHeldDown 34 = .ok (.iconst 1, 1) := by decide +kernel
theorem dX10_isHeldDown_35 : decode cX10_isHeldDown 35 = .ok (.goto 4, 3) := by decide +kernel
theorem dX10_isHeldDown_38 : decode cX10_isHeldDown 38 = .ok (.iconst 0, 1) := by decide +kernel
theorem dX10_isHeldDown_39 : decode cX10_isHeldDown 39 = .ok (.istore_n 2, 1) := by decide +kernel
theorem dX10_isHeldDown_40 : decode cX10_isHeldDown 40 = .ok (.iinc 3 1, 3) := by decide +kernel
theorem dX10_isHeldDown_43 : decode cX10_isHeldDown 43 = .ok (.goto (-39), 3) := by decide +kernel
theorem dX10_isHeldDown_46 : decode cX10_isHeldDown 46 = .ok (.iload_n 2, 1) := by decide +kernel
theorem dX10_isHeldDown_47 : decode cX10_isHeldDown 47 = .ok (.ireturn, 1) := by decide +kernel
theorem dX10_isFit_0 : decode cX10_isFit 0 = .ok (.aload_n 0, 1) := by decide +kernel
theorem dX10_isFit_1 : decode cX10_isFit 1 = .ok (.iload_n 1, 1) := by decide +kernel
theorem dX10_isFit_2 : decode cX10_isFit 2 = .ok (.invokevirtual 194, 3) := by decide +kernel
theorem dX10_isFit_5 : decode cX10_isFit 5 = .ok (.ifCond .ne 15, 3) := by decide +kernel
theorem dX10_isFit_8 : decode cX10_isFit 8 = .ok (.aload_n 0, 1) := by decide +kernel
theorem dX10_isFit_9 : decode cX10_isFit 9 = .ok (.iload_n 1, 1) := by decide +kernel
theorem dX10_isFit_10 : decode cX10_isFit 10 = .ok (.invokevirtual 197, 3) := by decide +kernel
theorem dX10_isFit_13 : decode cX10_isFit 13 = .ok (.ifCond .ne 7, 3) := by decide +kernel
theorem dX10_isFit_16 : decode cX10_isFit 16 = .ok (.iconst 1, 1) := by decide +kernel
theorem dX10_isFit_17 : decode cX10_isFit 17 = .ok (.goto 4, 3) := by decide +kernel
theorem dX10_isFit_20 : decode cX10_isFit 20 = .ok (.iconst 0, 1) := by decide +kernel
theorem dX10_isFit_21 : decode cX10_isFit 21 = .ok (.ireturn, 1) := by decide +kernel
theorem dX10_finds_0 : decode cX10_finds 0 = .ok (.aload_n 0, 1) := by decide +kernel
theorem dX10_finds_1 : decode cX10_finds 1 = .ok (.getfield 106, 3) := by decide +kernel
theorem dX10_finds_4 : decode cX10_finds 4 = .ok (.aload_n 0, 1) := by decide +kernel
theorem dX10_finds_5 : decode cX10_finds 5 = .ok (.getfield 185, 3) := by decide +kernel
theorem dX10_finds_8 : decode cX10_finds 8 = .ok (.iload_n 1, 1) := by decide +kernel
theorem dX10_finds_9 : decode cX10_finds 9 = .ok (.iastore, 1) := by decide +kernel
theorem dX10_finds_10 : decode cX10_finds 10 = .ok (.aload_n 0, 1) := by decide +kernel
theorem dX10_finds_11 : decode cX10_finds 11 = .ok (.getfield 109, 3) := by decide +kernel
theorem dX10_finds_14 : decode cX10_finds 14 = .ok (.aload_n 0, 1) := by decide +kernel
theorem dX10_finds_15 : decode cX10_finds 15 = .ok (.getfield 185, 3) := by decide +kernel
theorem dX10_finds_18 : decode cX10_finds 18 = .ok (.aload_n 0, 1) := by decide +kernel
theorem dX10_finds_19 : decode cX10_finds 19 = .ok (.getfield 40, 3) := by decide +kernel
theorem dX10_finds_22 : decode cX10_finds 22 = .ok (.iload_n 1, 1) := by decide +kernel
theorem dX10_finds_23 : decode cX10_finds 23 = .ok (.iaload, 1) := by decide +kernel
theorem dX10_finds_24 : decode cX10_finds 24 = .ok (.iastore, 1) := by decide +kernel
theorem dX10_finds_25 : decode cX10_finds 25 = .ok (.aload_n 0, 1) := by decide +kernel
theorem dX10_finds_26 : decode cX10_finds 26 = .ok (.getfield 112, 3) := by decide +kernel
theorem dX10_finds_29 : decode cX10_finds 29 = .ok (.aload_n 0, 1) := by decide +kernel
theorem dX10_finds_30 : decode cX10_finds 30 = .ok (.getfield 185, 3) := by decide +kernel
theorem dX10_finds_33 : decode cX10_finds 33 = .ok (.aload_n 0, 1) := by decide +kernel
theorem dX10_finds_34 : decode cX10_finds 34 = .ok (.getfield 200, 3) := by decide +kernel
theorem dX10_finds_37 : decode cX10_finds 37 = .ok (.iastore, 1) := by decide +kernel
theorem dX10_finds_38 : decode cX10_finds 38 = .ok (.aload_n 0, 1) := by decide +kernel
theorem dX10_finds_39 : decode cX10_finds 39 = .ok (.getfield 115, 3) := by decide +kernel
theorem dX10_finds_42 : decode cX10_finds 42 = .ok (.aload_n 0, 1) := by decide +kernel
theorem dX10_finds_43 : decode cX10_finds 43 = .ok (.getfield 185, 3) := by decide +kernel
theorem dX10_finds_46 : decode cX10_finds 46 = .ok (.iconst 0, 1) := by decide +kernel
theorem dX10_finds_47 : decode cX10_finds 47 = .ok (.iastore, 1) := by decide +kernel
theorem dX10_finds_48 : decode cX10_finds 48 = .ok (.aload_n 0, 1) := by decide +kernel
theorem dX10_finds_49 : decode cX10_finds 49 = .ok (.getfield 118, 3) := by decide +kernel
theorem dX10_finds_52 : decode cX10_finds 52 = .ok (.aload_n 0, 1) := by decide +kernel
theorem dX10_finds_53 : decode cX10_finds 53 = .ok (.getfield 185, 3) := by decide +kernel
theorem dX10_finds_56 : decode cX10_finds 56 = .ok (.bipush 45, 2) := by decide +kernel
theorem dX10_finds_58 : decode cX10_finds 58 = .ok (.iastore, 1) := by decide +kernel
theorem dX10_finds_59 : decode cX10_finds 59 = .ok (.aload_n 0, 1) := by decide +kernel
theorem dX10_finds_60 : decode cX10_finds 60 = .ok (.dup, 1) := by decide +kernel
theorem dX10_finds_61 : decode cX10_finds 61 = .ok (.getfield 200, 3) := by decide +kernel
theorem dX10_finds_64 : decode cX10_finds 64 = .ok (.iconst 1, 1) := by decide +kernel
theorem dX10_finds_65 : decode cX10_finds 65 = .ok (.iadd, 1) := by decide +kernel
theorem dX10_finds_66 : decode cX10_finds 66 = .ok (.putfield 200, 3) := by decide +kernel
theorem dX10_finds_69 : decode cX10_finds 69 = .ok (.aload_n 0, 1) := by decide +kernel
theorem dX10_finds_70 : decode cX10_finds 70 = .ok (.dup, 1) := by decide +kernel
theorem dX10_finds_71 : decode cX10_finds 71 = .ok (.getfield 185, 3) := by decide +kernel
theorem dX10_finds_74 : decode cX10_finds 74 = .ok (.iconst 1, 1) := by decide +kernel
theorem dX10_finds_75 : decode cX10_finds 75 = .ok (.iadd, 1) := by decide +kernel
theorem dX10_finds_76 : decode cX10_finds 76 = .ok (.putfield 185, 3) := by decide +kernel
theorem dX10_finds_79 : decode cX10_finds 79 = .ok (.return_, 1) := by decide +kernel
theorem dX10_find_0 : decode cX10_find 0 = .ok (.aload_n 0, 1) := by decide +kernel
theorem dX10_find_1 : decode cX10_find 1 = .ok (.iload_n 1, 1) := by decide +kernel
theorem dX10_find_2 : decode cX10_find 2 = .ok (.invokevirtual 158, 3) := by decide +kernel
theorem dX10_find_5 : decode cX10_find 5 = .ok (.ifCond .ne 9, 3) := by decide +kernel
theorem dX10_find_8 : decode cX10_find 8 = .ok (.aload_n 0, 1) := by decide +kernel
theorem dX10_find_9 : decode cX10_find 9 = .ok (.iconst 1, 1) := by decide +kernel
theorem dX10_find_10 : decode cX10_find 10 = .ok (.invokevirtual 144, 3) := by decide +kernel
theorem dX10_find_13 : decode cX10_find 13 = .ok (.ireturn, 1) := by decide +kernel
theorem dX10_find_14 : decode cX10_find 14 = .ok (.aload_n 0, 1) := by decide +kernel
theorem dX10_find_15 : decode cX10_find 15 = .ok (.getfield 185, 3) := by decide +kernel
theorem dX10_find_18 : decode cX10_find 18 = .ok (.bipush 12, 2) := by decide +kernel
theorem dX10_find_20 : decode cX10_find 20 = .ok (.if_icmp .ne 9, 3) := by decide +kernel
theorem dX10_find_23 : decode cX10_find 23 = .ok (.aload_n 0, 1) := by decide +kernel
theorem dX10_find_24 : decode cX10_find 24 = .ok (.iconst 2, 1) := by decide +kernel
theorem dX10_find_25 : decode cX10_find 25 = .ok (.invokevirtual 144, 3) := by decide +kernel
theorem dX10_find_28 : decode cX10_find 28 = .ok (.ireturn, 1) := by decide +kernel
theorem dX10_find_29 : decode cX10_find 29 = .ok (.aload_n 0, 1) := by decide +kernel
theorem dX10_find_30 : decode cX10_find 30 = .ok (.iload_n 1, 1) := by decide +kernel
theorem dX10_find_31 : decode cX10_find 31 = .ok (.invokevirtual 203, 3) := by decide +kernel
theorem dX10_find_34 : decode cX10_find 34 = .ok (.aload_n 0, 1) := by decide +kernel
theorem dX10_find_35 : decode cX10_find 35 = .ok (.aload_n 0, 1) := by decide +kernel
theorem dX10_find_36 : decode cX10_find 36 = .ok (.getfield 185, 3) := by decide +kernel
theorem dX10_find_39 : decode cX10_find 39 = .ok (.iconst 1, 1) := by decide +kernel
theorem dX10_find_40 : decode cX10_find 40 = .ok (.isub, 1) := by decide +kernel
theorem dX10_find_41 : decode cX10_find 41 = .ok (.invokevirtual 148, 3) := by decide +kernel
theorem dX10_find_44 : decode cX10_find 44 = .ok (.ireturn, 1) := by decide +kernel
theorem dX10_isFinding_0 : decode cX10_isFinding 0 = .ok (.iload_n 1, 1) := by decide +kernel
theorem dX10_isFinding_1 : decode cX10_isFinding 1 = .ok (.iconst 0, 1) := by decide +kernel
theorem dX10_isFinding_2 : decode cX10_isFinding 2 = .ok (.aload_n 0, 1) := by decide +kernel
theorem dX10_isFinding_3 : decode cX10_isFinding 3 = .ok (.getfield 185, 3) := by decide +kernel
theorem dX10_isFinding_6 : decode cX10_isFinding 6 = .ok (.iconst 1, 1) := by decide +kernel
theorem dX10_isFinding_7 : decode cX10_isFinding 7 = .ok (.isub, 1) := by decide +kernel
theorem dX10_isFinding_8 : decode cX10_isFinding 8 = .ok (.invokestatic 134, 3) := by decide +kernel
theorem dX10_isFinding_11 : decode cX10_isFinding 11 = .ok (.ireturn, 1) := by decide +kernel
theorem dX10_widen_0 : decode cX10_widen 0 = .ok (.aload_n 0, 1) := by decide +kernel
theorem dX10_widen_1 : decode cX10_widen 1 = .ok (.iload_n 1, 1) := by decide +kernel
theorem dX10_widen_2 : decode cX10_widen 2 = .ok (.invokevirtual 206, 3) := by decide +kernel
theorem dX10_widen_5 : decode cX10_widen 5 = .ok (.ifCond .ne 9, 3) := by decide +kernel
theorem dX10_widen_8 : decode cX10_widen 8 = .ok (.aload_n 0, 1) := by decide +kernel
theorem dX10_widen_9 : decode cX10_widen 9 = .ok (.iconst 1, 1) := by decide +kernel
theorem dX10_widen_10 : decode cX10_widen 10 = .ok (.invokevirtual 144, 3) := by decide +kernel
theorem dX10_widen_13 : decode cX10_widen 13 = .ok (.ireturn, 1) := by decide +kernel
theorem dX10_widen_14 : decode cX10_widen 14 = .ok (.aload_n 0, 1) := by decide +kernel
theorem dX10_widen_15 : decode cX10_widen 15 = .ok (.getfield 121, 3) := by decide +kernel
theorem dX10_widen_18 : decode cX10_widen 18 = .ok (.iload_n 1, 1) := by decide +kernel
theorem dX10_widen_19 : decode cX10_widen 19 = .ok (.iaload, 1) := by decide +kernel
theorem dX10_widen_20 : decode cX10_widen 20 = .ok (.iconst 1, 1) := by decide +kernel
theorem dX10_widen_21 : decode cX10_widen 21 = .ok (.if_icmp .eq 24, 3) := by decide +kernel
theorem dX10_widen_24 : decode cX10_widen 24 = .ok (.aload_n 0, 1) := by decide +kernel
theorem dX10_widen_25 : decode cX10_widen 25 = .ok (.getfield 118, 3) := by decide +kernel
theorem dX10_widen_28 : decode cX10_widen 28 = .ok (.iload_n 1, 1) := by decide +kernel
theorem dX10_widen_29 : decode cX10_widen 29 = .ok (.iaload, 1) := by decide +kernel
theorem dX10_widen_30 : decode cX10_widen 30 = .ok (.bipush 45, 2) := by decide +kernel
theorem dX10_widen_32 : decode cX10_widen 32 = .ok (.if_icmp .ne 13, 3) := by decide +kernel
theorem dX10_widen_35 : decode cX10_widen 35 = .ok (.aload_n 0, 1) := by decide +kernel
theorem dX10_widen_36 : decode cX10_widen 36 = .ok (.getfield 115, 3) := by decide +kernel
theorem dX10_widen_39 : decode cX10_widen 39 = .ok (.iload_n 1, 1) := by decide +kernel
theorem dX10_widen_40 : decode cX10_widen 40 = .ok (.iaload, 1) := by decide +kernel
theorem dX10_widen_41 : decode cX10_widen 41 = .ok (.iconst 4, 1) := by decide +kernel
theorem dX10_widen_42 : decode cX10_widen 42 = .ok (.if_icmp .ne 9, 3) := by decide +kernel
theorem dX10_widen_45 : decode cX10_widen 45 = .ok (.aload_n 0, 1) := by decide +kernel
theorem dX10_widen_46 : decode cX10_widen 46 = .ok (.iconst 2, 1) := by decide +kernel
theorem dX10_widen_47 : decode cX10_widen 47 = .ok (.invokevirtual 144, 3) := by decide +kernel
theorem dX10_widen_50 : decode cX10_widen 50 = .ok (.ireturn, 1) := by decide +kernel
theorem dX10_widen_51 : decode cX10_widen 51 = .ok (.aload_n 0, 1) := by decide +kernel
theorem dX10_widen_52 : decode cX10_widen 52 = .ok (.getfield 115, 3) := by decide +kernel
theorem dX10_widen_55 : decode cX10_widen 55 = .ok (.iload_n 1, 1) := by decide +kernel
theorem dX10_widen_56 : decode cX10_widen 56 = .ok (.dup2, 1) := by decide +kernel
theorem dX10_widen_57 : decode cX10_widen 57 = .ok (.iaload, 1) := by decide +kernel
theorem dX10_widen_58 : decode cX10_widen 58 = .ok (.iconst 1, 1) := by decide +kernel
theorem dX10_widen_59 : decode cX10_widen 59 = .ok (.iadd, 1) := by decide +kernel
theorem dX10_widen_60 : decode cX10_widen 60 = .ok (.iastore, 1) := by decide +kernel
theorem dX10_widen_61 : decode cX10_widen 61 = .ok (.aload_n 0, 1) := by decide +kernel
theorem dX10_widen_62 : decode cX10_widen 62 = .ok (.aload_n 0, 1) := by decide +kernel
theorem dX10_widen_63 : decode cX10_widen 63 = .ok (.getfield 115, 3) := by decide +kernel
theorem dX10_widen_66 : decode cX10_widen 66 = .ok (.iload_n 1, 1) := by decide +kernel
theorem dX10_widen_67 : decode cX10_widen 67 = .ok (.iaload, 1) := by decide +kernel
theorem dX10_widen_68 : decode cX10_widen 68 = .ok (.invokevirtual 148, 3) := by decide +kernel
theorem dX10_widen_71 : decode cX10_widen 71 = .ok (.ireturn, 1) := by decide +kernel
theorem dX10_tellCause_0 : decode cX10_tellCause 0 = .ok (.aload_n 0, 1) := by decide +kernel
theorem dX10_tellCause_1 : decode cX10_tellCause 1 = .ok (.aload_n 0, 1) := by decide +kernel
theorem dX10_tellCause_2 : decode cX10_tellCause 2 = .ok (.iload_n 1, 1) := by decide +kernel
theorem dX10_tellCause_3 : decode cX10_tellCause 3 = .ok (.invokevirtual 206, 3) := by decide +kernel
theorem dX10_tellCause_6 : decode cX10_tellCause 6 = .ok (.ifCond .ne 7, 3) := by decide +kernel
theorem dX10_tellCause_9 : decode cX10_tellCause 9 = .ok (.iconst 1, 1) := by decide +kernel
theorem dX10_tellCause_10 : decode cX10_tellCause 10 = .ok (.goto 74, 3) := by decide +kernel
theorem dX10_tellCause_13 : decode cX10_tellCause 13 = .ok (.iload_n 2, 1) := by decide +kernel
theorem dX10_tellCause_14 : decode cX10_tellCause 14 = .ok (.bipush 108, 2) := by decide +kernel
theorem dX10_tellCause_16 : decode cX10_tellCause 16 = .ok (.if_icmp .eq 31, 3) := by decide +kernel
theorem dX10_tellCause_19 : decode cX10_tellCause 19 = .ok (.iload_n 2, 1) := by decide +kernel
theorem dX10_tellCause_20 : decode cX10_tellCause 20 = .ok (.bipush 104, 2) := by decide +kernel
theorem dX10_tellCause_22 : decode cX10_tellCause 22 = .ok (.if_icmp .eq 25, 3) := by decide +kernel
theorem dX10_tellCause_25 : decode cX10_tellCause 25 = .ok (.iload_n 2, 1) := by decide +kernel
theorem dX10_tellCause_26 : decode cX10_tellCause 26 = .ok (.bipush 114, 2) := by decide +kernel
theorem dX10_tellCause_28 : decode cX10_tellCause 28 = .ok (.if_icmp .eq 19, 3) := by decide +kernel
theorem dX10_tellCause_31 : decode cX10_tellCause 31 = .ok (.iload_n 2, 1) := by decide +kernel
theorem dX10_tellCause_32 : decode cX10_tellCause 32 = .ok (.bipush 99, 2) := by decide +kernel
theorem dX10_tellCause_34 : decode cX10_tellCause 34 = .ok (.if_icmp .eq 13, 3) := by decide +kernel
theorem dX10_tellCause_37 : decode cX10_tellCause 37 = .ok (.iload_n 2, 1) := by decide +kernel
theorem dX10_tellCause_38 : decode cX10_tellCause 38 = .ok (.bipush 115, 2) := by decide +kernel
theorem dX10_tellCause_40 : decode cX10_tellCause 40 = .ok (.if_icmp .eq 7, 3) := by decide +kernel
theorem dX10_tellCause_43 : decode cX10_tellCause 43 = .ok (.iconst 2, 1) := by decide +kernel
theorem dX10_tellCause_44 : decode cX10_tellCause 44 = .ok (.goto 40, 3) := by decide +kernel
theorem dX10_tellCause_47 : decode cX10_tellCause 47 = .ok (.aload_n 0, 1) := by decide +kernel
theorem dX10_tellCause_48 : decode cX10_tellCause 48 = .ok (.getfield 121, 3) := by decide +kernel
theorem dX10_tellCause_51 : decode cX10_tellCause 51 = .ok (.iload_n 1, 1) := by decide +kernel
theorem dX10_tellCause_52 : decode cX10_tellCause 52 = .ok (.iaload, 1) := by decide +kernel
theorem dX10_tellCause_53 : decode cX10_tellCause 53 = .ok (.iconst 1, 1) := by decide +kernel
theorem dX10_tellCause_54 : decode cX10_tellCause 54 = .ok (.if_icmp .eq 25, 3) := by decide +kernel
theorem dX10_tellCause_57 : decode cX10_tellCause 57 = .ok (.iload_n 2, 1) := by decide +kernel
theorem dX10_tellCause_58 : decode cX10_tellCause 58 = .ok (.bipush 104, 2) := by decide +kernel
theorem dX10_tellCause_60 : decode cX10_tellCause 60 = .ok (.if_icmp .eq 9, 3) := by decide +kernel
theorem dX10_tellCause_63 : decode cX10_tellCause 63 = .ok (.iload_n 2, 1) := by decide +kernel
theorem dX10_tellCause_64 : decode cX10_tellCause 64 = .ok (.bipush 114, 2) := by decide +kernel
theorem dX10_tellCause_66 : decode cX10_tellCause 66 = .ok (.if_icmp .ne 17, 3) := by decide +kernel
theorem dX10_tellCause_69 : decode cX10_tellCause 69 = .ok (.aload_n 0, 1) := by decide +kernel
theorem dX10_tellCause_70 : decode cX10_tellCause 70 = .ok (.getfield 109, 3) := by decide +kernel
theorem dX10_tellCause_73 : decode cX10_tellCause 73 = .ok (.iload_n 1, 1) := by decide +kernel
theorem dX10_tellCause_74 : decode cX10_tellCause 74 = .ok (.iaload, 1) := by decide +kernel
theorem dX10_tellCause_75 : decode cX10_tellCause 75 = .ok (.iconst (-1), 1) := by decide +kernel
theorem dX10_tellCause_76 : decode cX10_tellCause 76 = .ok (.if_icmp .ne 7, 3) := by decide +kernel
theorem dX10_tellCause_79 : decode cX10_tellCause 79 = .ok (.iconst 3, 1) := by decide +kernel
theorem dX10_tellCause_80 : decode cX10_tellCause 80 = .ok (.goto 4, 3) := by decide +kernel
theorem dX10_tellCause_83 : decode cX10_tellCause 83 = .ok (.iconst 0, 1) := by decide +kernel
theorem dX10_tellCause_84 : decode cX10_tellCause 84 = .ok (.putfield 128, 3) := by decide +kernel
theorem dX10_tellCause_87 : decode cX10_tellCause 87 = .ok (.aload_n 0, 1) := by decide +kernel
theorem dX10_tellCause_88 : decode cX10_tellCause 88 = .ok (.getfield 128, 3) := by decide +kernel
theorem dX10_tellCause_91 : decode cX10_tellCause 91 = .ok (.ifCond .le 5, 3) := by decide +kernel
theorem dX10_tellCause_94 : decode cX10_tellCause 94 = .ok (.iconst 0, 1) := by decide +kernel
theorem dX10_tellCause_95 : decode cX10_tellCause 95 = .ok (.ireturn, 1) := by decide +kernel
theorem dX10_tellCause_96 : decode cX10_tellCause 96 = .ok (.aload_n 0, 1) := by decide +kernel
theorem dX10_tellCause_97 : decode cX10_tellCause 97 = .ok (.getfield 118, 3) := by decide +kernel
theorem dX10_tellCause_100 : decode cX10_tellCause 100 = .ok (.iload_n 1, 1) := by decide +kernel
theorem dX10_tellCause_101 : decode cX10_tellCause 101 = .ok (.iaload, 1) := by decide +kernel
theorem dX10_tellCause_102 : decode cX10_tellCause 102 = .ok (.istore_n 3, 1) := by decide +kernel
theorem dX10_tellCause_103 : decode cX10_tellCause 103 = .ok (.aload_n 0, 1) := by decide +kernel
theorem dX10_tellCause_104 : decode cX10_tellCause 104 = .ok (.getfield 118, 3) := by decide +kernel
theorem dX10_tellCause_107 : decode cX10_tellCause 107 = .ok (.iload_n 1, 1) := by decide +kernel
theorem dX10_tellCause_108 : decode cX10_tellCause 108 = .ok (.iload_n 2, 1) := by decide +kernel
theorem dX10_tellCause_109 : decode cX10_tellCause 109 = .ok (.iastore, 1) := by decide +kernel
theorem dX10_tellCause_110 : decode cX10_tellCause 110 = .ok (.iload_n 3, 1) := by decide +kernel
theorem dX10_tellCause_111 : decode cX10_tellCause 111 = .ok (.i2c, 1) := by decide +kernel
theorem dX10_tellCause_112 : decode cX10_tellCause 112 = .ok (.ireturn, 1) := by decide +kernel
theorem dX10_close_0 : decode cX10_close 0 = .ok (.aload_n 0, 1) := by decide +kernel
theorem dX10_close_1 : decode cX10_close 1 = .ok (.iload_n 1, 1) := by decide +kernel
theorem dX10_close_2 : decode cX10_close 2 = .ok (.invokevirtual 206, 3) := by decide +kernel
theorem dX10_close_5 : decode cX10_close 5 = .ok (.ifCond .ne 9, 3) := by decide +kernel
theorem dX10_close_8 : decode cX10_close 8 = .ok (.aload_n 0, 1) := by decide +kernel
theorem dX10_close_9 : decode cX10_close 9 = .ok (.iconst 1, 1) := by decide +kernel
theorem dX10_close_10 : decode cX10_close 10 = .ok (.invokevirtual 209, 3) := by decide +kernel
theorem dX10_close_13 : decode cX10_close 13 = .ok (.ireturn, 1) := by decide +kernel
theorem dX10_close_14 : decode cX10_close 14 = .ok (.aload_n 0, 1) := by decide +kernel
theorem dX10_close_15 : decode cX10_close 15 = .ok (.getfield 121, 3) := by decide +kernel
theorem dX10_close_18 : decode cX10_close 18 = .ok (.iload_n 1, 1) := by decide +kernel
theorem dX10_close_19 : decode cX10_close 19 = .ok (.iaload, 1) := by decide +kernel
theorem dX10_close_20 : decode cX10_close 20 = .ok (.iconst 1, 1) := by decide +kernel
theorem dX10_close_21 : decode cX10_close 21 = .ok (.if_icmp .ne 7, 3) := by decide +kernel
theorem dX10_close_24 : decode cX10_close 24 = .ok (.iconst 1, 1) := by decide +kernel
theorem dX10_close_25 : decode cX10_close 25 = .ok (.goto 4, 3) := by decide +kernel
theorem dX10_close_28 : decode cX10_close 28 = .ok (.iconst 0, 1) := by decide +kernel
theorem dX10_close_29 : decode cX10_close 29 = .ok (.istore_n 2, 1) := by decide +kernel
theorem dX10_close_30 : decode cX10_close 30 = .ok (.aload_n 0, 1) := by decide +kernel
theorem dX10_close_31 : decode cX10_close 31 = .ok (.getfield 121, 3) := by decide +kernel
theorem dX10_close_34 : decode cX10_close 34 = .ok (.iload_n 1, 1) := by decide +kernel
theorem dX10_close_35 : decode cX10_close 35 = .ok (.iconst 1, 1) := by decide +kernel
theorem dX10_close_36 : decode cX10_close 36 = .ok (.iastore, 1) := by decide +kernel
theorem dX10_close_37 : decode cX10_close 37 = .ok (.aload_n 0, 1) := by decide +kernel
theorem dX10_close_38 : decode cX10_close 38 = .ok (.iload_n 2, 1) := by decide +kernel
theorem dX10_close_39 : decode cX10_close 39 = .ok (.ifCond .ne 7, 3) := by decide +kernel
theorem dX10_close_42 : decode cX10_close 42 = .ok (.iconst 1, 1) := by decide +kernel
theorem dX10_close_43 : decode cX10_close 43 = .ok (.goto 4, 3) := by decide +kernel
theorem dX10_close_46 : decode cX10_close 46 = .ok (.iconst 0, 1) := by decide +kernel
theorem dX10_close_47 : decode cX10_close 47 = .ok (.invokevirtual 212, 3) := by decide +kernel
theorem dX10_close_50 : decode cX10_close 50 = .ok (.ireturn, 1) := by decide +kernel
theorem dX10_grounds_0 : decode cX10_grounds 0 = .ok (.aload_n 0, 1) := by decide +kernel
theorem dX10_grounds_1 : decode cX10_grounds 1 = .ok (.iload_n 1, 1) := by decide +kernel
theorem dX10_grounds_2 : decode cX10_grounds 2 = .ok (.invokevirtual 206, 3) := by decide +kernel
theorem dX10_grounds_5 : decode cX10_grounds 5 = .ok (.ifCond .ne 9, 3) := by decide +kernel
theorem dX10_grounds_8 : decode cX10_grounds 8 = .ok (.aload_n 0, 1) := by decide +kernel
theorem dX10_grounds_9 : decode cX10_grounds 9 = .ok (.iconst 1, 1) := by decide +kernel
theorem dX10_grounds_10 : decode cX10_grounds 10 = .ok (.invokevirtual 144, 3) := by decide +kernel
theorem dX10_grounds_13 : decode cX10_grounds 13 = .ok (.ireturn, 1) := by decide +kernel
theorem dX10_grounds_14 : decode cX10_grounds 14 = .ok (.iconst 0, 1) := by decide +kernel
theorem dX10_grounds_15 : decode cX10_grounds 15 = .ok (.istore_n 2, 1) := by decide +kernel
theorem dX10_grounds_16 : decode cX10_grounds 16 = .ok (.iconst 0, 1) := by decide +kernel
theorem dX10_grounds_17 : decode cX10_grounds 17 = .ok (.istore_n 3, 1) := by decide +kernel
theorem dX10_grounds_18 : decode cX10_grounds 18 = .ok (.iload_n 3, 1) := by decide +kernel
theorem dX10_grounds_19 : decode cX10_grounds 19 = .ok (.aload_n 0, 1) := by decide +kernel
theorem dX10_grounds_20 : decode cX10_grounds 20 = .ok (.getfield 138, 3) := by decide +kernel
theorem dX10_grounds_23 : decode cX10_grounds 23 = .ok (.if_icmp .ge 35, 3) := by decide +kernel
theorem dX10_grounds_26 : decode cX10_grounds 26 = .ok (.iload_n 2, 1) := by decide +kernel
theorem dX10_grounds_27 : decode cX10_grounds 27 = .ok (.aload_n 0, 1) := by decide +kernel
theorem dX10_grounds_28 : decode cX10_grounds 28 = .ok (.iload_n 1, 1) := by decide +kernel
theorem dX10_grounds_29 : decode cX10_grounds 29 = .ok (.iload_n 3, 1) := by decide +kernel
theorem dX10_grounds_30 : decode cX10_grounds 30 = .ok (.invokevirtual 188, 3) := by decide +kernel
theorem dX10_grounds_33 : decode cX10_grounds 33 = .ok (.ifCond .eq 16, 3) := by decide +kernel
theorem dX10_grounds_36 : decode cX10_grounds 36 = .ok (.aload_n 0, 1) := by decide +kernel
theorem dX10_grounds_37 : decode cX10_grounds 37 = .ok (.iload_n 1, 1) := by decide +kernel
theorem dX10_grounds_38 : decode cX10_grounds 38 = .ok (.iload_n 3, 1) := by decide +kernel
theorem dX10_grounds_39 : decode cX10_grounds 39 = .ok (.invokevirtual 191, 3) := by decide +kernel
theorem dX10_grounds_42 : decode cX10_grounds 42 = .ok (.ifCond .ne 7, 3) := by decide +kernel
theorem dX10_grounds_45 : decode cX10_grounds 45 = .ok (.iconst 1, 1) := by decide +kernel
theorem dX10_grounds_46 : decode cX10_grounds 46 = .ok (.goto 4, 3) := by decide +kernel
theorem dX10_grounds_49 : decode cX10_grounds 49 = .ok (.iconst 0, 1) := by decide +kernel
theorem dX10_grounds_50 : decode cX10_grounds 50 = .ok (.iadd, 1) := by decide +kernel
theorem dX10_grounds_51 : decode cX10_grounds 51 = .ok (.istore_n 2, 1) := by decide +kernel
theorem dX10_grounds_52 : decode cX10_grounds 52 = .ok (.iinc 3 1, 3) := by decide +kernel
theorem dX10_grounds_55 : decode cX10_grounds 55 = .ok (.goto (-37), 3) := by decide +kernel
theorem dX10_grounds_58 : decode cX10_grounds 58 = .ok (.aload_n 0, 1) := by decide +kernel
theorem dX10_grounds_59 : decode cX10_grounds 59 = .ok (.iload_n 2, 1) := by decide +kernel
theorem dX10_grounds_60 : decode cX10_grounds 60 = .ok (.invokevirtual 148, 3) := by decide +kernel
theorem dX10_grounds_63 : decode cX10_grounds 63 = .ok (.ireturn, 1) := by decide +kernel
theorem dX10_repair_0 : decode cX10_repair 0 = .ok (.aload_n 0, 1) := by decide +kernel
theorem dX10_repair_1 : decode cX10_repair 1 = .ok (.iload_n 1, 1) := by decide +kernel
theorem dX10_repair_2 : decode cX10_repair 2 = .ok (.invokevirtual 158, 3) := by decide +kernel
theorem dX10_repair_5 : decode cX10_repair 5 = .ok (.ifCond .eq 11, 3) := by decide +kernel
theorem dX10_repair_8 : decode cX10_repair 8 = .ok (.aload_n 0, 1) := by decide +kernel
theorem dX10_repair_9 : decode cX10_repair 9 = .ok (.iload_n 2, 1) := by decide +kernel
theorem dX10_repair_10 : decode cX10_repair 10 = .ok (.invokevirtual 151, 3) := by decide +kernel
theorem dX10_repair_13 : decode cX10_repair 13 = .ok (.ifCond .ne 9, 3) := by decide +kernel
theorem dX10_repair_16 : decode cX10_repair 16 = .ok (.aload_n 0, 1) := by decide +kernel
theorem dX10_repair_17 : decode cX10_repair 17 = .ok (.iconst 1, 1) := by decide +kernel
theorem dX10_repair_18 : decode cX10_repair 18 = .ok (.invokevirtual 144, 3) := by decide +kernel
theorem dX10_repair_21 : decode cX10_repair 21 = .ok (.ireturn, 1) := by decide +kernel
theorem dX10_repair_22 : decode cX10_repair 22 = .ok (.aload_n 0, 1) := by decide +kernel
theorem dX10_repair_23 : decode cX10_repair 23 = .ok (.getfield 31, 3) := by decide +kernel
theorem dX10_repair_26 : decode cX10_repair 26 = .ok (.iload_n 1, 1) := by decide +kernel
theorem dX10_repair_27 : decode cX10_repair 27 = .ok (.iaload, 1) := by decide +kernel
theorem dX10_repair_28 : decode cX10_repair 28 = .ok (.bipush 111, 2) := by decide +kernel
theorem dX10_repair_30 : decode cX10_repair 30 = .ok (.if_icmp .eq 9, 3) := by decide +kernel
theorem dX10_repair_33 : decode cX10_repair 33 = .ok (.aload_n 0, 1) := by decide +kernel
theorem dX10_repair_34 : decode cX10_repair 34 = .ok (.iconst 2, 1) := by decide +kernel
theorem dX10_repair_35 : decode cX10_repair 35 = .ok (.invokevirtual 144, 3) := by decide +kernel
theorem dX10_repair_38 : decode cX10_repair 38 = .ok (.ireturn, 1) := by decide +kernel
theorem dX10_repair_39 : decode cX10_repair 39 = .ok (.aload_n 0, 1) := by decide +kernel
theorem dX10_repair_40 : decode cX10_repair 40 = .ok (.iload_n 2, 1) := by decide +kernel
theorem dX10_repair_41 : decode cX10_repair 41 = .ok (.iconst 5, 1) := by decide +kernel
theorem dX10_repair_42 : decode cX10_repair 42 = .ok (.invokevirtual 171, 3) := by decide +kernel
theorem dX10_repair_45 : decode cX10_repair 45 = .ok (.ifCond .ne 9, 3) := by decide +kernel
theorem dX10_repair_48 : decode cX10_repair 48 = .ok (.aload_n 0, 1) := by decide +kernel
theorem dX10_repair_49 : decode cX10_repair 49 = .ok (.iconst 3, 1) := by decide +kernel
theorem dX10_repair_50 : decode cX10_repair 50 = .ok (.invokevirtual 144, 3) := by decide +kernel
theorem dX10_repair_53 : decode cX10_repair 53 = .ok (.ireturn, 1) := by decide +kernel
theorem dX10_repair_54 : decode cX10_repair 54 = .ok (.aload_n 0, 1) := by decide +kernel
theorem dX10_repair_55 : decode cX10_repair 55 = .ok (.getfield 52, 3) := by decide +kernel
theorem dX10_repair_58 : decode cX10_repair 58 = .ok (.iload_n 1, 1) := by decide +kernel
theorem dX10_repair_59 : decode cX10_repair 59 = .ok (.aload_n 0, 1) := by decide +kernel
theorem dX10_repair_60 : decode cX10_repair 60 = .ok (.getfield 200, 3) := by decide +kernel
theorem dX10_repair_63 : decode cX10_repair 63 = .ok (.iastore, 1) := by decide +kernel
theorem dX10_repair_64 : decode cX10_repair 64 = .ok (.aload_n 0, 1) := by decide +kernel
theorem dX10_repair_65 : decode cX10_repair 65 = .ok (.dup, 1) := by decide +kernel
theorem dX10_repair_66 : decode cX10_repair 66 = .ok (.getfield 200, 3) := by decide +kernel
theorem dX10_repair_69 : decode cX10_repair 69 = .ok (.iconst 1, 1) := by decide +kernel
theorem dX10_repair_70 : decode cX10_repair 70 = .ok (.iadd, 1) := by decide +kernel
theorem dX10_repair_71 : decode cX10_repair 71 = .ok (.putfield 200, 3) := by decide +kernel
theorem dX10_repair_74 : decode cX10_repair 74 = .ok (.aload_n 0, 1) := by decide +kernel
theorem dX10_repair_75 : decode cX10_repair 75 = .ok (.getfield 49, 3) := by decide +kernel
theorem dX10_repair_78 : decode cX10_repair 78 = .ok (.iload_n 1, 1) := by decide +kernel
theorem dX10_repair_79 : decode cX10_repair 79 = .ok (.dup2, 1) := by decide +kernel
theorem dX10_repair_80 : decode cX10_repair 80 = .ok (.iaload, 1) := by decide +kernel
theorem dX10_repair_81 : decode cX10_repair 81 = .ok (.iconst 1, 1) := by decide +kernel
theorem dX10_repair_82 : decode cX10_repair 82 = .ok (.iadd, 1) := by decide +kernel
theorem dX10_repair_83 : decode cX10_repair 83 = .ok (.iastore, 1) := by decide +kernel
theorem dX10_repair_84 : decode cX10_repair 84 = .ok (.aload_n 0, 1) := by decide +kernel
theorem dX10_repair_85 : decode cX10_repair 85 = .ok (.aload_n 0, 1) := by decide +kernel
theorem dX10_repair_86 : decode cX10_repair 86 = .ok (.getfield 49, 3) := by decide +kernel
theorem dX10_repair_89 : decode cX10_repair 89 = .ok (.iload_n 1, 1) := by decide +kernel
theorem dX10_repair_90 : decode cX10_repair 90 = .ok (.iaload, 1) := by decide +kernel
theorem dX10_repair_91 : decode cX10_repair 91 = .ok (.invokevirtual 148, 3) := by decide +kernel
theorem dX10_repair_94 : decode cX10_repair 94 = .ok (.ireturn, 1) := by decide +kernel
theorem dX10_drop_0 : decode cX10_drop 0 = .ok (.aload_n 0, 1) := by decide +kernel
theorem dX10_drop_1 : decode cX10_drop 1 = .ok (.iload_n 1, 1) := by decide +kernel
theorem dX10_drop_2 : decode cX10_drop 2 = .ok (.invokevirtual 158, 3) := by decide +kernel
theorem dX10_drop_5 : decode cX10_drop 5 = .ok (.ifCond .ne 9, 3) := by decide +kernel
theorem dX10_drop_8 : decode cX10_drop 8 = .ok (.aload_n 0, 1) := by decide +kernel
theorem dX10_drop_9 : decode cX10_drop 9 = .ok (.iconst 1, 1) := by decide +kernel
theorem dX10_drop_10 : decode cX10_drop 10 = .ok (.invokevirtual 144, 3) := by decide +kernel
theorem dX10_drop_13 : decode cX10_drop 13 = .ok (.ireturn, 1) := by decide +kernel
theorem dX10_drop_14 : decode cX10_drop 14 = .ok (.aload_n 0, 1) := by decide +kernel
theorem dX10_drop_15 : decode cX10_drop 15 = .ok (.getfield 31, 3) := by decide +kernel
theorem dX10_drop_18 : decode cX10_drop 18 = .ok (.iload_n 1, 1) := by decide +kernel
theorem dX10_drop_19 : decode cX10_drop 19 = .ok (.iaload, 1) := by decide +kernel
theorem dX10_drop_20 : decode cX10_drop 20 = .ok (.bipush 107, 2) := by decide +kernel
theorem dX10_drop_22 : decode cX10_drop 22 = .ok (.if_icmp .eq 9, 3) := by decide +kernel
theorem dX10_drop_25 : decode cX10_drop 25 = .ok (.aload_n 0, 1) := by decide +kernel
theorem dX10_drop_26 : decode cX10_drop 26 = .ok (.iconst 2, 1) := by decide +kernel
theorem dX10_drop_27 : decode cX10_drop 27 = .ok (.invokevirtual 144, 3) := by decide +kernel
theorem dX10_drop_30 : decode cX10_drop 30 = .ok (.ireturn, 1) := by decide +kernel
theorem dX10_drop_31 : decode cX10_drop 31 = .ok (.aload_n 0, 1) := by decide +kernel
theorem dX10_drop_32 : decode cX10_drop 32 = .ok (.getfield 55, 3) := by decide +kernel
theorem dX10_drop_35 : decode cX10_drop 35 = .ok (.iload_n 1, 1) := by decide +kernel
theorem dX10_drop_36 : decode cX10_drop 36 = .ok (.aload_n 0, 1) := by decide +kernel
theorem dX10_drop_37 : decode cX10_drop 37 = .ok (.getfield 58, 3) := by decide +kernel
theorem dX10_drop_40 : decode cX10_drop 40 = .ok (.iload_n 1, 1) := by decide +kernel
theorem dX10_drop_41 : decode cX10_drop 41 = .ok (.iaload, 1) := by decide +kernel
theorem dX10_drop_42 : decode cX10_drop 42 = .ok (.iastore, 1) := by decide +kernel
theorem dX10_drop_43 : decode cX10_drop 43 = .ok (.aload_n 0, 1) := by decide +kernel
theorem dX10_drop_44 : decode cX10_drop 44 = .ok (.getfield 61, 3) := by decide +kernel
theorem dX10_drop_47 : decode cX10_drop 47 = .ok (.iload_n 1, 1) := by decide +kernel
theorem dX10_drop_48 : decode cX10_drop 48 = .ok (.aload_n 0, 1) := by decide +kernel
theorem dX10_drop_49 : decode cX10_drop 49 = .ok (.getfield 64, 3) := by decide +kernel
theorem dX10_drop_52 : decode cX10_drop 52 = .ok (.iload_n 1, 1) := by decide +kernel
theorem dX10_drop_53 : decode cX10_drop 53 = .ok (.iaload, 1) := by decide +kernel
theorem dX10_drop_54 : decode cX10_drop 54 = .ok (.iastore, 1) := by decide +kernel
theorem dX10_drop_55 : decode cX10_drop 55 = .ok (.aload_n 0, 1) := by decide +kernel
theorem dX10_drop_56 : decode cX10_drop 56 = .ok (.getfield 67, 3) := by decide +kernel
theorem dX10_drop_59 : decode cX10_drop 59 = .ok (.iload_n 1, 1) := by decide +kernel
theorem dX10_drop_60 : decode cX10_drop 60 = .ok (.aload_n 0, 1) := by decide +kernel
theorem dX10_drop_61 : decode cX10_drop 61 = .ok (.getfield 70, 3) := by decide +kernel
theorem dX10_drop_64 : decode cX10_drop 64 = .ok (.iload_n 1, 1) := by decide +kernel
theorem dX10_drop_65 : decode cX10_drop 65 = .ok (.iaload, 1) := by decide +kernel
theorem dX10_drop_66 : decode cX10_drop 66 = .ok (.iastore, 1) := by decide +kernel
theorem dX10_drop_67 : decode cX10_drop 67 = .ok (.aload_n 0, 1) := by decide +kernel
theorem dX10_drop_68 : decode cX10_drop 68 = .ok (.getfield 58, 3) := by decide +kernel
theorem dX10_drop_71 : decode cX10_drop 71 = .ok (.iload_n 1, 1) := by decide +kernel
theorem dX10_drop_72 : decode cX10_drop 72 = .ok (.aload_n 0, 1) := by decide +kernel
theorem dX10_drop_73 : decode cX10_drop 73 = .ok (.getfield 200, 3) := by decide +kernel
theorem dX10_drop_76 : decode cX10_drop 76 = .ok (.iastore, 1) := by decide +kernel
theorem dX10_drop_77 : decode cX10_drop 77 = .ok (.aload_n 0, 1) := by decide +kernel
theorem dX10_drop_78 : decode cX10_drop 78 = .ok (.getfield 64, 3) := by decide +kernel
theorem dX10_drop_81 : decode cX10_drop 81 = .ok (.iload_n 1, 1) := by decide +kernel
theorem dX10_drop_82 : decode cX10_drop 82 = .ok (.iload_n 2, 1) := by decide +kernel
theorem dX10_drop_83 : decode cX10_drop 83 = .ok (.ifCond .eq 7, 3) := by decide +kernel
theorem dX10_drop_86 : decode cX10_drop 86 = .ok (.iconst 1, 1) := by decide +kernel
theorem dX10_drop_87 : decode cX10_drop 87 = .ok (.goto 4, 3) := by decide +kernel
theorem dX10_drop_90 : decode cX10_drop 90 = .ok (.iconst 0, 1) := by decide +kernel
theorem dX10_drop_91 : decode cX10_drop 91 = .ok (.iastore, 1) := by decide +kernel
theorem dX10_drop_92 : decode cX10_drop 92 = .ok (.aload_n 0, 1) := by decide +kernel
theorem dX10_drop_93 : decode cX10_drop 93 = .ok (.getfield 70, 3) := by decide +kernel
theorem dX10_drop_96 : decode cX10_drop 96 = .ok (.iload_n 1, 1) := by decide +kernel
theorem dX10_drop_97 : decode cX10_drop 97 = .ok (.aload_n 0, 1) := by decide +kernel
theorem dX10_drop_98 : decode cX10_drop 98 = .ok (.getfield 52, 3) := by decide +kernel
theorem dX10_drop_101 : decode cX10_drop 101 = .ok (.iload_n 1, 1) := by decide +kernel
theorem dX10_drop_102 : decode cX10_drop 102 = .ok (.iaload, 1) := by decide +kernel
theorem dX10_drop_103 : decode cX10_drop 103 = .ok (.iastore, 1) := by decide +kernel
theorem dX10_drop_104 : decode cX10_drop 104 = .ok (.aload_n 0, 1) := by decide +kernel
theorem dX10_drop_105 : decode cX10_drop 105 = .ok (.dup, 1) := by decide +kernel
theorem dX10_drop_106 : decode cX10_drop 106 = .ok (.getfield 200, 3) := by decide +kernel
theorem dX10_drop_109 : decode cX10_drop 109 = .ok (.iconst 1, 1) := by decide +kernel
theorem dX10_drop_110 : decode cX10_drop 110 = .ok (.iadd, 1) := by decide +kernel
theorem dX10_drop_111 : decode cX10_drop 111 = .ok (.putfield 200, 3) := by decide +kernel
theorem dX10_drop_114 : decode cX10_drop 114 = .ok (.aload_n 0, 1) := by decide +kernel
theorem dX10_drop_115 : decode cX10_drop 115 = .ok (.getfield 31, 3) := by decide +kernel
theorem dX10_drop_118 : decode cX10_drop 118 = .ok (.iload_n 1, 1) := by decide +kernel
theorem dX10_drop_119 : decode cX10_drop 119 = .ok (.bipush 111, 2) := by decide +kernel
theorem dX10_drop_121 : decode cX10_drop 121 = .ok (.iastore, 1) := by decide +kernel
theorem dX10_drop_122 : decode cX10_drop 122 = .ok (.aload_n 0, 1) := by decide +kernel
theorem dX10_drop_123 : decode cX10_drop 123 = .ok (.getfield 46, 3) := by decide +kernel
theorem dX10_drop_126 : decode cX10_drop 126 = .ok (.iload_n 1, 1) := by decide +kernel
theorem dX10_drop_127 : decode cX10_drop 127 = .ok (.iload_n 2, 1) := by decide +kernel
theorem dX10_drop_128 : decode cX10_drop 128 = .ok (.ifCond .eq 14, 3) := by decide +kernel
theorem dX10_drop_131 : decode cX10_drop 131 = .ok (.aload_n 0, 1) := by decide +kernel
theorem dX10_drop_132 : decode cX10_drop 132 = .ok (.getfield 46, 3) := by decide +kernel
theorem dX10_drop_135 : decode cX10_drop 135 = .ok (.iload_n 1, 1) := by decide +kernel
theorem dX10_drop_136 : decode cX10_drop 136 = .ok (.iaload, 1) := by decide +kernel
theorem dX10_drop_137 : decode cX10_drop 137 = .ok (.iconst 1, 1) := by decide +kernel
theorem dX10_drop_138 : decode cX10_drop 138 = .ok (.iadd, 1) := by decide +kernel
theorem dX10_drop_139 : decode cX10_drop 139 = .ok (.goto 4, 3) := by decide +kernel
theorem dX10_drop_142 : decode cX10_drop 142 = .ok (.iconst 0, 1) := by decide +kernel
theorem dX10_drop_143 : decode cX10_drop 143 = .ok (.iastore, 1) := by decide +kernel
theorem dX10_drop_144 : decode cX10_drop 144 = .ok (.iload_n 2, 1) := by decide +kernel
theorem dX10_drop_145 : decode cX10_drop 145 = .ok (.ifCond .ne 17, 3) := by decide +kernel
theorem dX10_drop_148 : decode cX10_drop 148 = .ok (.aload_n 0, 1) := by decide +kernel
theorem dX10_drop_149 : decode cX10_drop 149 = .ok (.getfield 185, 3) := by decide +kernel
theorem dX10_drop_152 : decode cX10_drop 152 = .ok (.bipush 12, 2) := by decide +kernel
theorem dX10_drop_154 : decode cX10_drop 154 = .ok (.if_icmp .ge 8, 3) := by decide +kernel
theorem dX10_drop_157 : decode cX10_drop 157 = .ok (.aload_n 0, 1) := by decide +kernel
theorem dX10_drop_158 : decode cX10_drop 158 = .ok (.iload_n 1, 1) := by decide +kernel
theorem dX10_drop_159 : decode cX10_drop 159 = .ok (.invokevirtual 203, 3) := by decide +kernel
theorem dX10_drop_162 : decode cX10_drop 162 = .ok (.aload_n 0, 1) := by decide +kernel
theorem dX10_drop_163 : decode cX10_drop 163 = .ok (.aload_n 0, 1) := by decide +kernel
theorem dX10_drop_164 : decode cX10_drop 164 = .ok (.getfield 46, 3) := by decide +kernel
theorem dX10_drop_167 : decode cX10_drop 167 = .ok (.iload_n 1, 1) := by decide +kernel
theorem dX10_drop_168 : decode cX10_drop 168 = .ok (.iaload, 1) := by decide +kernel
theorem dX10_drop_169 : decode cX10_drop 169 = .ok (.invokevirtual 148, 3) := by decide +kernel
theorem dX10_drop_172 : decode cX10_drop 172 = .ok (.ireturn, 1) := by decide +kernel
theorem dX10_isLoad_0 : decode cX10_isLoad 0 = .ok (.iload_n 1, 1) := by decide +kernel
theorem dX10_isLoad_1 : decode cX10_isLoad 1 = .ok (.iconst 0, 1) := by decide +kernel
theorem dX10_isLoad_2 : decode cX10_isLoad 2 = .ok (.aload_n 0, 1) := by decide +kernel
theorem dX10_isLoad_3 : decode cX10_isLoad 3 = .ok (.getfield 216, 3) := by decide +kernel
theorem dX10_isLoad_6 : decode cX10_isLoad 6 = .ok (.iconst 1, 1) := by decide +kernel
theorem dX10_isLoad_7 : decode cX10_isLoad 7 = .ok (.isub, 1) := by decide +kernel
theorem dX10_isLoad_8 : decode cX10_isLoad 8 = .ok (.invokestatic 134, 3) := by decide +kernel
theorem dX10_isLoad_11 : decode cX10_isLoad 11 = .ok (.ireturn, 1) := by decide +kernel
theorem dX10_load_0 : decode cX10_load 0 = .ok (.aload_n 0, 1) := by decide +kernel
theorem dX10_load_1 : decode cX10_load 1 = .ok (.getfield 216, 3) := by decide +kernel
theorem dX10_load_4 : decode cX10_load 4 = .ok (.bipush 30, 2) := by decide +kernel
theorem dX10_load_6 : decode cX10_load 6 = .ok (.if_icmp .ne 9, 3) := by decide +kernel
theorem dX10_load_9 : decode cX10_load 9 = .ok (.aload_n 0, 1) := by decide +kernel
theorem dX10_load_10 : decode cX10_load 10 = .ok (.iconst 1, 1) := by decide +kernel
theorem dX10_load_11 : decode cX10_load 11 = .ok (.invokevirtual 144, 3) := by decide +kernel
theorem dX10_load_14 : decode cX10_load 14 = .ok (.ireturn, 1) := by decide +kernel
theorem dX10_load_15 : decode cX10_load 15 = .ok (.aload_n 0, 1) := by decide +kernel
theorem dX10_load_16 : decode cX10_load 16 = .ok (.dup, 1) := by decide +kernel
theorem dX10_load_17 : decode cX10_load 17 = .ok (.getfield 216, 3) := by decide +kernel
theorem dX10_load_20 : decode cX10_load 20 = .ok (.iconst 1, 1) := by decide +kernel
theorem dX10_load_21 : decode cX10_load 21 = .ok (.iadd, 1) := by decide +kernel
theorem dX10_load_22 : decode cX10_load 22 = .ok (.putfield 216, 3) := by decide +kernel
theorem dX10_load_25 : decode cX10_load 25 = .ok (.aload_n 0, 1) := by decide +kernel
theorem dX10_load_26 : decode cX10_load 26 = .ok (.aload_n 0, 1) := by decide +kernel
theorem dX10_load_27 : decode cX10_load 27 = .ok (.getfield 216, 3) := by decide +kernel
theorem dX10_load_30 : decode cX10_load 30 = .ok (.iconst 1, 1) := by decide +kernel
theorem dX10_load_31 : decode cX10_load 31 = .ok (.isub, 1) := by decide +kernel
theorem dX10_load_32 : decode cX10_load 32 = .ok (.invokevirtual 148, 3) := by decide +kernel
theorem dX10_load_35 : decode cX10_load 35 = .ok (.ireturn, 1) := by decide +kernel
theorem dX10_board_0 : decode cX10_board 0 = .ok (.aload_n 0, 1) := by decide +kernel
theorem dX10_board_1 : decode cX10_board 1 = .ok (.iload_n 1, 1) := by decide +kernel
theorem dX10_board_2 : decode cX10_board 2 = .ok (.invokevirtual 219, 3) := by decide +kernel
theorem dX10_board_5 : decode cX10_board 5 = .ok (.ifCond .eq 19, 3) := by decide +kernel
theorem dX10_board_8 : decode cX10_board 8 = .ok (.aload_n 0, 1) := by decide +kernel
theorem dX10_board_9 : decode cX10_board 9 = .ok (.iload_n 2, 1) := by decide +kernel
theorem dX10_board_10 : decode cX10_board 10 = .ok (.invokevirtual 158, 3) := by decide +kernel
theorem dX10_board_13 : decode cX10_board 13 = .ok (.ifCond .eq 11, 3) := by decide +kernel
theorem dX10_board_16 : decode cX10_board 16 = .ok (.aload_n 0, 1) := by decide +kernel
theorem dX10_board_17 : decode cX10_board 17 = .ok (.iload_n 3, 1) := by decide +kernel
theorem dX10_board_18 : decode cX10_board 18 = .ok (.invokevirtual 158, 3) := by decide +kernel
theorem dX10_board_21 : decode cX10_board 21 = .ok (.ifCond .ne 9, 3) := by decide +kernel
theorem dX10_board_24 : decode cX10_board 24 = .ok (.aload_n 0, 1) := by decide +kernel
theorem dX10_board_25 : decode cX10_board 25 = .ok (.iconst 1, 1) := by decide +kernel
theorem dX10_board_26 : decode cX10_board 26 = .ok (.invokevirtual 144, 3) := by decide +kernel
theorem dX10_board_29 : decode cX10_board 29 = .ok (.ireturn, 1) := by decide +kernel
theorem dX10_board_30 : decode cX10_board 30 = .ok (.aload_n 0, 1) := by decide +kernel
theorem dX10_board_31 : decode cX10_board 31 = .ok (.getfield 16, 3) := by decide +kernel
theorem dX10_board_34 : decode cX10_board 34 = .ok (.iload_n 2, 1) := by decide +kernel
theorem dX10_board_35 : decode cX10_board 35 = .ok (.iaload, 1) := by decide +kernel
theorem dX10_board_36 : decode cX10_board 36 = .ok (.bipush 109, 2) := by decide +kernel
theorem dX10_board_38 : decode cX10_board 38 = .ok (.if_icmp .ne 14, 3) := by decide +kernel
theorem dX10_board_41 : decode cX10_board 41 = .ok (.aload_n 0, 1) := by decide +kernel
theorem dX10_board_42 : decode cX10_board 42 = .ok (.getfield 16, 3) := by decide +kernel
theorem dX10_board_45 : decode cX10_board 45 = .ok (.iload_n 3, 1) := by decide +kernel
theorem dX10_board_46 : decode cX10_board 46 = .ok (.iaload, 1) := by decide +kernel
theorem dX10_board_47 : decode cX10_board 47 = .ok (.bipush 114, 2) := by decide +kernel
theorem dX10_board_49 : decode cX10_board 49 = .ok (.if_icmp .eq 9, 3) := by decide +kernel
theorem dX10_board_52 : decode cX10_board 52 = .ok (.aload_n 0, 1) := by decide +kernel
theorem dX10_board_53 : decode cX10_board 53 = .ok (.iconst 2, 1) := by decide +kernel
theorem dX10_board_54 : decode cX10_board 54 = .ok (.invokevirtual 144, 3) := by decide +kernel
theorem dX10_board_57 : decode cX10_board 57 = .ok (.ireturn, 1) := by decide +kernel
theorem dX10_board_58 : decode cX10_board 58 = .ok (.aload_n 0, 1) := by decide +kernel
theorem dX10_board_59 : decode cX10_board 59 = .ok (.getfield 31, 3) := by decide +kernel
theorem dX10_board_62 : decode cX10_board 62 = .ok (.iload_n 2, 1) := by decide +kernel
theorem dX10_board_63 : decode cX10_board 63 = .ok (.iaload, 1) := by decide +kernel
theorem dX10_board_64 : decode cX10_board 64 = .ok (.bipush 107, 2) := by decide +kernel
theorem dX10_board_66 : decode cX10_board 66 = .ok (.if_icmp .ne 40, 3) := by decide +kernel
theorem dX10_board_69 : decode cX10_board 69 = .ok (.aload_n 0, 1) := by decide +kernel
theorem dX10_board_70 : decode cX10_board 70 = .ok (.getfield 31, 3) := by decide +kernel
theorem dX10_board_73 : decode cX10_board 73 = .ok (.iload_n 3, 1) := by decide +kernel
theorem dX10_board_74 : decode cX10_board 74 = .ok (.iaload, 1) := by decide +kernel
theorem dX10_board_75 : decode cX10_board 75 = .ok (.bipush 107, 2) := by decide +kernel
theorem dX10_board_77 : decode cX10_board 77 = .ok (.if_icmp .ne 29, 3) := by decide +kernel
theorem dX10_board_80 : decode cX10_board 80 = .ok (.aload_n 0, 1) := by decide +kernel
theorem dX10_board_81 : decode cX10_board 81 = .ok (.iload_n 2, 1) := by decide +kernel
theorem dX10_board_82 : decode cX10_board 82 = .ok (.invokevirtual 222, 3) := by decide +kernel
theorem dX10_board_85 : decode cX10_board 85 = .ok (.ifCond .eq 21, 3) := by decide +kernel
theorem dX10_board_88 : decode cX10_board 88 = .ok (.aload_n 0, 1) := by decide +kernel
theorem dX10_board_89 : decode cX10_board 89 = .ok (.iload_n 3, 1) := by decide +kernel
theorem dX10_board_90 : decode cX10_board 90 = .ok (.invokevirtual 222, 3) := by decide +kernel
theorem dX10_board_93 : decode cX10_board 93 = .ok (.ifCond .eq 13, 3) := by decide +kernel
theorem dX10_board_96 : decode cX10_board 96 = .ok (.aload_n 0, 1) := by decide +kernel
theorem dX10_board_97 : decode cX10_board 97 = .ok (.getfield 97, 3) := by decide +kernel
theorem dX10_board_100 : decode cX10_board 100 = .ok (.iload_n 1, 1) := by decide +kernel
theorem dX10_board_101 : decode cX10_board 101 = .ok (.iaload, 1) := by decide +kernel
theorem dX10_board_102 : decode cX10_board 102 = .ok (.iconst 1, 1) := by decide +kernel
theorem dX10_board_103 : decode cX10_board 103 = .ok (.if_icmp .ne 9, 3) := by decide +kernel
theorem dX10_board_106 : decode cX10_board 106 = .ok (.aload_n 0, 1) := by decide +kernel
theorem dX10_board_107 : decode cX10_board 107 = .ok (.iconst 3, 1) := by decide +kernel
theorem dX10_board_108 : decode cX10_board 108 = .ok (.invokevirtual 144, 3) := by decide +kernel
theorem dX10_board_111 : decode cX10_board 111 = .ok (.ireturn, 1) := by decide +kernel
theorem dX10_board_112 : decode cX10_board 112 = .ok (.aload_n 0, 1) := by decide +kernel
theorem dX10_board_113 : decode cX10_board 113 = .ok (.getfield 94, 3) := by decide +kernel
theorem dX10_board_116 : decode cX10_board 116 = .ok (.iload_n 1, 1) := by decide +kernel
theorem dX10_board_117 : decode cX10_board 117 = .ok (.iaload, 1) := by decide +kernel
theorem dX10_board_118 : decode cX10_board 118 = .ok (.bipush 6, 2) := by decide +kernel
theorem dX10_board_120 : decode cX10_board 120 = .ok (.if_icmp .ne 9, 3) := by decide +kernel
theorem dX10_board_123 : decode cX10_board 123 = .ok (.aload_n 0, 1) := by decide +kernel
theorem dX10_board_124 : decode cX10_board 124 = .ok (.iconst 4, 1) := by decide +kernel
theorem dX10_board_125 : decode cX10_board 125 = .ok (.invokevirtual 144, 3) := by decide +kernel
theorem dX10_board_128 : decode cX10_board 128 = .ok (.ireturn, 1) := by decide +kernel
theorem dX10_board_129 : decode cX10_board 129 = .ok (.aload_n 0, 1) := by decide +kernel
theorem dX10_board_130 : decode cX10_board 130 = .ok (.getfield 100, 3) := by decide +kernel
theorem dX10_board_133 : decode cX10_board 133 = .ok (.bipush 6, 2) := by decide +kernel
theorem dX10_board_135 : decode cX10_board 135 = .ok (.iload_n 1, 1) := by decide +kernel
theorem dX10_board_136 : decode cX10_board 136 = .ok (.imul, 1) := by decide +kernel
theorem dX10_board_137 : decode cX10_board 137 = .ok (.aload_n 0, 1) := by decide +kernel
theorem dX10_board_138 : decode cX10_board 138 = .ok (.getfield 94, 3) := by decide +kernel
theorem dX10_board_141 : decode cX10_board 141 = .ok (.iload_n 1, 1) := by decide +kernel
theorem dX10_board_142 : decode cX10_board 142 = .ok (.iaload, 1) := by decide +kernel
theorem dX10_board_143 : decode cX10_board 143 = .ok (.iadd, 1) := by decide +kernel
theorem dX10_board_144 : decode cX10_board 144 = .ok (.iload_n 2, 1) := by decide +kernel
theorem dX10_board_145 : decode cX10_board 145 = .ok (.iastore, 1) := by decide +kernel
theorem dX10_board_146 : decode cX10_board 146 = .ok (.aload_n 0, 1) := by decide +kernel
theorem dX10_board_147 : decode cX10_board 147 = .ok (.getfield 103, 3) := by decide +kernel
theorem dX10_board_150 : decode cX10_board 150 = .ok (.bipush 6, 2) := by decide +kernel
theorem dX10_board_152 : decode cX10_board 152 = .ok (.iload_n 1, 1) := by decide +kernel
theorem dX10_board_153 : decode cX10_board 153 = .ok (.imul, 1) := by decide +kernel
theorem dX10_board_154 : decode cX10_board 154 = .ok (.aload_n 0, 1) := by decide +kernel
theorem dX10_board_155 : decode cX10_board 155 = .ok (.getfield 94, 3) := by decide +kernel
theorem dX10_board_158 : decode cX10_board 158 = .ok (.iload_n 1, 1) := by decide +kernel
theorem dX10_board_159 : decode cX10_board 159 = .ok (.iaload, 1) := by decide +kernel
theorem dX10_board_160 : decode cX10_board 160 = .ok (.iadd, 1) := by decide +kernel
theorem dX10_board_161 : decode cX10_board 161 = .ok (.iload_n 3, 1) := by decide +kernel
theorem dX10_board_162 : decode cX10_board 162 = .ok (.iastore, 1) := by decide +kernel
theorem dX10_board_163 : decode cX10_board 163 = .ok (.aload_n 0, 1) := by decide +kernel
theorem dX10_board_164 : decode cX10_board 164 = .ok (.getfield 31, 3) := by decide +kernel
theorem dX10_board_167 : decode cX10_board 167 = .ok (.iload_n 2, 1) := by decide +kernel
theorem dX10_board_168 : decode cX10_board 168 = .ok (.bipush 97, 2) := by decide +kernel
theorem dX10_board_170 : decode cX10_board 170 = .ok (.iastore, 1) := by decide +kernel
theorem dX10_board_171 : decode cX10_board 171 = .ok (.aload_n 0, 1) := by decide +kernel
theorem dX10_board_172 : decode cX10_board 172 = .ok (.getfield 31, 3) := by decide +kernel
theorem dX10_board_175 : decode cX10_board 175 = .ok (.iload_n 3, 1) := by decide +kernel
theorem dX10_board_176 : decode cX10_board 176 = .ok (.bipush 97, 2) := by decide +kernel
theorem dX10_board_178 : decode cX10_board 178 = .ok (.iastore, 1) := by decide +kernel
theorem dX10_board_179 : decode cX10_board 179 = .ok (.aload_n 0, 1) := by decide +kernel
theorem dX10_board_180 : decode cX10_board 180 = .ok (.getfield 94, 3) := by decide +kernel
theorem dX10_board_183 : decode cX10_board 183 = .ok (.iload_n 1, 1) := by decide +kernel
theorem dX10_board_184 : decode cX10_board 184 = .ok (.dup2, 1) := by decide +kernel
theorem dX10_board_185 : decode cX10_board 185 = .ok (.iaload, 1) := by decide +kernel
theorem dX10_board_186 : decode cX10_board 186 = .ok (.iconst 1, 1) := by decide +kernel
theorem dX10_board_187 : decode cX10_board 187 = .ok (.iadd, 1) := by decide +kernel
theorem dX10_board_188 : decode cX10_board 188 = .ok (.iastore, 1) := by decide +kernel
theorem dX10_board_189 : decode cX10_board 189 = .ok (.aload_n 0, 1) := by decide +kernel
theorem dX10_board_190 : decode cX10_board 190 = .ok (.aload_n 0, 1) := by decide +kernel
theorem dX10_board_191 : decode cX10_board 191 = .ok (.getfield 94, 3) := by decide +kernel
theorem dX10_board_194 : decode cX10_board 194 = .ok (.iload_n 1, 1) := by decide +kernel
theorem dX10_board_195 : decode cX10_board 195 = .ok (.iaload, 1) := by decide +kernel
theorem dX10_board_196 : decode cX10_board 196 = .ok (.invokevirtual 148, 3) := by decide +kernel
theorem dX10_board_199 : decode cX10_board 199 = .ok (.ireturn, 1) := by decide +kernel
theorem dX10_leave_0 : decode cX10_leave 0 = .ok (.aload_n 0, 1) := by decide +kernel
theorem dX10_leave_1 : decode cX10_leave 1 = .ok (.iload_n 1, 1) := by decide +kernel
theorem dX10_leave_2 : decode cX10_leave 2 = .ok (.invokevirtual 219, 3) := by decide +kernel
theorem dX10_leave_5 : decode cX10_leave 5 = .ok (.ifCond .ne 9, 3) := by decide +kernel
theorem dX10_leave_8 : decode cX10_leave 8 = .ok (.aload_n 0, 1) := by decide +kernel
theorem dX10_leave_9 : decode cX10_leave 9 = .ok (.iconst 1, 1) := by decide +kernel
theorem dX10_leave_10 : decode cX10_leave 10 = .ok (.invokevirtual 144, 3) := by decide +kernel
theorem dX10_leave_13 : decode cX10_leave 13 = .ok (.ireturn, 1) := by decide +kernel
theorem dX10_leave_14 : decode cX10_leave 14 = .ok (.aload_n 0, 1) := by decide +kernel
theorem dX10_leave_15 : decode cX10_leave 15 = .ok (.getfield 94, 3) := by decide +kernel
theorem dX10_leave_18 : decode cX10_leave 18 = .ok (.iload_n 1, 1) := by decide +kernel
theorem dX10_leave_19 : decode cX10_leave 19 = .ok (.iaload, 1) := by decide +kernel
theorem dX10_leave_20 : decode cX10_leave 20 = .ok (.ifCond .eq 13, 3) := by decide +kernel
theorem dX10_leave_23 : decode cX10_leave 23 = .ok (.aload_n 0, 1) := by decide +kernel
theorem dX10_leave_24 : decode cX10_leave 24 = .ok (.getfield 97, 3) := by decide +kernel
theorem dX10_leave_27 : decode cX10_leave 27 = .ok (.iload_n 1, 1) := by decide +kernel
theorem dX10_leave_28 : decode cX10_leave 28 = .ok (.iaload, 1) := by decide +kernel
theorem dX10_leave_29 : decode cX10_leave 29 = .ok (.iconst 1, 1) := by decide +kernel
theorem dX10_leave_30 : decode cX10_leave 30 = .ok (.if_icmp .ne 9, 3) := by decide +kernel
theorem dX10_leave_33 : decode cX10_leave 33 = .ok (.aload_n 0, 1) := by decide +kernel
theorem dX10_leave_34 : decode cX10_leave 34 = .ok (.iconst 2, 1) := by decide +kernel
theorem dX10_leave_35 : decode cX10_leave 35 = .ok (.invokevirtual 144, 3) := by decide +kernel
theorem dX10_leave_38 : decode cX10_leave 38 = .ok (.ireturn, 1) := by decide +kernel
theorem dX10_leave_39 : decode cX10_leave 39 = .ok (.aload_n 0, 1) := by decide +kernel
theorem dX10_leave_40 : decode cX10_leave 40 = .ok (.getfield 94, 3) := by decide +kernel
theorem dX10_leave_43 : decode cX10_leave 43 = .ok (.iload_n 1, 1) := by decide +kernel
theorem dX10_leave_44 : decode cX10_leave 44 = .ok (.dup2, 1) := by decide +kernel
theorem dX10_leave_45 : decode cX10_leave 45 = .ok (.iaload, 1) := by decide +kernel
theorem dX10_leave_46 : decode cX10_leave 46 = .ok (.iconst 1, 1) := by decide +kernel
theorem dX10_leave_47 : decode cX10_leave 47 = .ok (.isub, 1) := by decide +kernel
theorem dX10_leave_48 : decode cX10_leave 48 = .ok (.iastore, 1) := by decide +kernel
theorem dX10_leave_49 : decode cX10_leave 49 = .ok (.aload_n 0, 1) := by decide +kernel
theorem dX10_leave_50 : decode cX10_leave 50 = .ok (.getfield 31, 3) := by decide +kernel
theorem dX10_leave_53 : decode cX10_leave 53 = .ok (.aload_n 0, 1) := by decide +kernel
theorem dX10_leave_54 : decode cX10_leave 54 = .ok (.getfield 100, 3) := by decide +kernel
theorem dX10_leave_57 : decode cX10_leave 57 = .ok (.bipush 6, 2) := by decide +kernel
theorem dX10_leave_59 : decode cX10_leave 59 = .ok (.iload_n 1, 1) := by decide +kernel
theorem dX10_leave_60 : decode cX10_leave 60 = .ok (.imul, 1) := by decide +kernel
theorem dX10_leave_61 : decode cX10_leave 61 = .ok (.aload_n 0, 1) := by decide +kernel
theorem dX10_leave_62 : decode cX10_leave 62 = .ok (.getfield 94, 3) := by decide +kernel
theorem dX10_leave_65 : decode cX10_leave 65 = .ok (.iload_n 1, 1) := by decide +kernel
theorem dX10_leave_66 : decode cX10_leave 66 = .ok (.iaload, 1) := by decide +kernel
theorem dX10_leave_67 : decode cX10_leave 67 = .ok (.iadd, 1) := by decide +kernel
theorem dX10_leave_68 : decode cX10_leave 68 = .ok (.iaload, 1) := by decide +kernel
theorem dX10_leave_69 : decode cX10_leave 69 = .ok (.bipush 107, 2) := by decide +kernel
theorem dX10_leave_71 : decode cX10_leave 71 = .ok (.iastore, 1) := by decide +kernel
theorem dX10_leave_72 : decode cX10_leave 72 = .ok (.aload_n 0, 1) := by decide +kernel
theorem dX10_leave_73 : decode cX10_leave 73 = .ok (.getfield 31, 3) := by decide +kernel
theorem dX10_leave_76 : decode cX10_leave 76 = .ok (.aload_n 0, 1) := by decide +kernel
theorem dX10_leave_77 : decode cX10_leave 77 = .ok (.getfield 103, 3) := by decide +kernel
theorem dX10_leave_80 : decode cX10_leave 80 = .ok (.bipush 6, 2) := by decide +kernel
theorem dX10_leave_82 : decode cX10_leave 82 = .ok (.iload_n 1, 1) := by decide +kernel
theorem dX10_leave_83 : decode cX10_leave 83 = .ok (.imul, 1) := by decide +kernel
theorem dX10_leave_84 : decode cX10_leave 84 = .ok (.aload_n 0, 1) := by decide +kernel
theorem dX10_leave_85 : decode cX10_leave 85 = .ok (.getfield 94, 3) := by decide +kernel
theorem dX10_leave_88 : decode cX10_leave 88 = .ok (.iload_n 1, 1) := by decide +kernel
theorem dX10_leave_89 : decode cX10_leave 89 = .ok (.iaload, 1) := by decide +kernel
theorem dX10_leave_90 : decode cX10_leave 90 = .ok (.iadd, 1) := by decide +kernel
theorem dX10_leave_91 : decode cX10_leave 91 = .ok (.iaload, 1) := by decide +kernel
theorem dX10_leave_92 : decode cX10_leave 92 = .ok (.bipush 107, 2) := by decide +kernel
theorem dX10_leave_94 : decode cX10_leave 94 = .ok (.iastore, 1) := by decide +kernel
theorem dX10_leave_95 : decode cX10_leave 95 = .ok (.aload_n 0, 1) := by decide +kernel
theorem dX10_leave_96 : decode cX10_leave 96 = .ok (.aload_n 0, 1) := by decide +kernel
theorem dX10_leave_97 : decode cX10_leave 97 = .ok (.getfield 94, 3) := by decide +kernel
theorem dX10_leave_100 : decode cX10_leave 100 = .ok (.iload_n 1, 1) := by decide +kernel
theorem dX10_leave_101 : decode cX10_leave 101 = .ok (.iaload, 1) := by decide +kernel
theorem dX10_leave_102 : decode cX10_leave 102 = .ok (.invokevirtual 148, 3) := by decide +kernel
theorem dX10_leave_105 : decode cX10_leave 105 = .ok (.ireturn, 1) := by decide +kernel
theorem dX10_areFit_0 : decode cX10_areFit 0 = .ok (.iconst 1, 1) := by decide +kernel
theorem dX10_areFit_1 : decode cX10_areFit 1 = .ok (.istore_n 2, 1) := by decide +kernel
theorem dX10_areFit_2 : decode cX10_areFit 2 = .ok (.iconst 0, 1) := by decide +kernel
theorem dX10_areFit_3 : decode cX10_areFit 3 = .ok (.istore_n 3, 1) := by decide +kernel
theorem dX10_areFit_4 : decode cX10_areFit 4 = .ok (.iload_n 3, 1) := by decide +kernel
theorem dX10_areFit_5 : decode cX10_areFit 5 = .ok (.aload_n 0, 1) := by decide +kernel
theorem dX10_areFit_6 : decode cX10_areFit 6 = .ok (.getfield 94, 3) := by decide +kernel
theorem dX10_areFit_9 : decode cX10_areFit 9 = .ok (.iload_n 1, 1) := by decide +kernel
theorem dX10_areFit_10 : decode cX10_areFit 10 = .ok (.iaload, 1) := by decide +kernel
theorem dX10_areFit_11 : decode cX10_areFit 11 = .ok (.if_icmp .ge 55, 3) := by decide +kernel
theorem dX10_areFit_14 : decode cX10_areFit 14 = .ok (.iload_n 2, 1) := by decide +kernel
theorem dX10_areFit_15 : decode cX10_areFit 15 = .ok (.ifCond .eq 43, 3) := by decide +kernel
theorem dX10_areFit_18 : decode cX10_areFit 18 = .ok (.aload_n 0, 1) := by decide +kernel
theorem dX10_areFit_19 : decode cX10_areFit 19 = .ok (.aload_n 0, 1) := by decide +kernel
theorem dX10_areFit_20 : decode cX10_areFit 20 = .ok (.getfield 100, 3) := by decide +kernel
theorem dX10_areFit_23 : decode cX10_areFit 23 = .ok (.bipush 6, 2) := by decide +kernel
theorem dX10_areFit_25 : decode cX10_areFit 25 = .ok (.iload_n 1, 1) := by decide +kernel
theorem dX10_areFit_26 : decode cX10_areFit 26 = .ok (.imul, 1) := by decide +kernel
theorem dX10_areFit_27 : decode cX10_areFit 27 = .ok (.iload_n 3, 1) := by decide +kernel
theorem dX10_areFit_28 : decode cX10_areFit 28 = .ok (.iadd, 1) := by decide +kernel
theorem dX10_areFit_29 : decode cX10_areFit 29 = .ok (.iaload, 1) := by decide +kernel
theorem dX10_areFit_30 : decode cX10_areFit 30 = .ok (.invokevirtual 222, 3) := by decide +kernel
theorem dX10_areFit_33 : decode cX10_areFit 33 = .ok (.ifCond .eq 25, 3) := by decide +kernel
theorem dX10_areFit_36 : decode cX10_areFit 36 = .ok (.aload_n 0, 1) := by decide +kernel
theorem dX10_areFit_37 : decode cX10_areFit 37 = .ok (.aload_n 0, 1) := by decide +kernel
theorem dX10_areFit_38 : decode cX10_areFit 38 = .ok (.getfield 103, 3) := by decide +kernel
theorem dX10_areFit_41 : decode cX10_areFit 41 = .ok (.bipush 6, 2) := by decide +kernel
theorem dX10_areFit_43 : decode cX10_areFit 43 = .ok (.iload_n 1, 1) := by decide +kernel
theorem dX10_areFit_44 : decode cX10_areFit 44 = .ok (.imul, 1) := by decide +kernel
theorem dX10_areFit_45 : decode cX10_areFit 45 = .ok (.iload_n 3, 1) := by decide +kernel
theorem dX10_areFit_46 : decode cX10_areFit 46 = .ok (.iadd, 1) := by decide +kernel
theorem dX10_areFit_47 : decode cX10_areFit 47 = .ok (.iaload, 1) := by decide +kernel
theorem dX10_areFit_48 : decode cX10_areFit 48 = .ok (.invokevirtual 222, 3) := by decide +kernel
theorem dX10_areFit_51 : decode cX10_areFit 51 = .ok (.ifCond .eq 7, 3) := by decide +kernel
theorem dX10_areFit_54 : decode cX10_areFit 54 = .ok (.iconst 1, 1) := by decide +kernel
theorem dX10_areFit_55 : decode cX10_areFit 55 = .ok (.goto 4, 3) := by decide +kernel
theorem dX10_areFit_58 : decode cX10_areFit 58 = .ok (.iconst 0, 1) := by decide +kernel
theorem dX10_areFit_59 : decode cX10_areFit 59 = .ok (.istore_n 2, 1) := by decide +kernel
theorem dX10_areFit_60 : decode cX10_areFit 60 = .ok (.iinc 3 1, 3) := by decide +kernel
theorem dX10_areFit_63 : decode cX10_areFit 63 = .ok (.goto (-59), 3) := by decide +kernel
theorem dX10_areFit_66 : decode cX10_areFit 66 = .ok (.iload_n 2, 1) := by decide +kernel
theorem dX10_areFit_67 : decode cX10_areFit 67 = .ok (.ireturn, 1) := by decide +kernel
theorem dX10_jump_0 : decode cX10_jump 0 = .ok (.aload_n 0, 1) := by decide +kernel
theorem dX10_jump_1 : decode cX10_jump 1 = .ok (.iload_n 1, 1) := by decide +kernel
theorem dX10_jump_2 : decode cX10_jump 2 = .ok (.invokevirtual 219, 3) := by decide +kernel
theorem dX10_jump_5 : decode cX10_jump 5 = .ok (.ifCond .ne 9, 3) := by decide +kernel
theorem dX10_jump_8 : decode cX10_jump 8 = .ok (.aload_n 0, 1) := by decide +kernel
theorem dX10_jump_9 : decode cX10_jump 9 = .ok (.iconst 1, 1) := by decide +kernel
theorem dX10_jump_10 : decode cX10_jump 10 = .ok (.invokevirtual 144, 3) := by decide +kernel
theorem dX10_jump_13 : decode cX10_jump 13 = .ok (.ireturn, 1) := by decide +kernel
theorem dX10_jump_14 : decode cX10_jump 14 = .ok (.aload_n 0, 1) := by decide +kernel
theorem dX10_jump_15 : decode cX10_jump 15 = .ok (.getfield 94, 3) := by decide +kernel
theorem dX10_jump_18 : decode cX10_jump 18 = .ok (.iload_n 1, 1) := by decide +kernel
theorem dX10_jump_19 : decode cX10_jump 19 = .ok (.iaload, 1) := by decide +kernel
theorem dX10_jump_20 : decode cX10_jump 20 = .ok (.ifCond .eq 21, 3) := by decide +kernel
theorem dX10_jump_23 : decode cX10_jump 23 = .ok (.aload_n 0, 1) := by decide +kernel
theorem dX10_jump_24 : decode cX10_jump 24 = .ok (.getfield 97, 3) := by decide +kernel
theorem dX10_jump_27 : decode cX10_jump 27 = .ok (.iload_n 1, 1) := by decide +kernel
theorem dX10_jump_28 : decode cX10_jump 28 = .ok (.iaload, 1) := by decide +kernel
theorem dX10_jump_29 : decode cX10_jump 29 = .ok (.iconst 1, 1) := by decide +kernel
theorem dX10_jump_30 : decode cX10_jump 30 = .ok (.if_icmp .eq 11, 3) := by decide +kernel
theorem dX10_jump_33 : decode cX10_jump 33 = .ok (.aload_n 0, 1) := by decide +kernel
theorem dX10_jump_34 : decode cX10_jump 34 = .ok (.iload_n 1, 1) := by decide +kernel
theorem dX10_jump_35 : decode cX10_jump 35 = .ok (.invokevirtual 225, 3) := by decide +kernel
theorem dX10_jump_38 : decode cX10_jump 38 = .ok (.ifCond .ne 9, 3) := by decide +kernel
theorem dX10_jump_41 : decode cX10_jump 41 = .ok (.aload_n 0, 1) := by decide +kernel
theorem dX10_jump_42 : decode cX10_jump 42 = .ok (.iconst 2, 1) := by decide +kernel
theorem dX10_jump_43 : decode cX10_jump 43 = .ok (.invokevirtual 144, 3) := by decide +kernel
theorem dX10_jump_46 : decode cX10_jump 46 = .ok (.ireturn, 1) := by decide +kernel
theorem dX10_jump_47 : decode cX10_jump 47 = .ok (.aload_n 0, 1) := by decide +kernel
theorem dX10_jump_48 : decode cX10_jump 48 = .ok (.getfield 97, 3) := by decide +kernel
theorem dX10_jump_51 : decode cX10_jump 51 = .ok (.iload_n 1, 1) := by decide +kernel
theorem dX10_jump_52 : decode cX10_jump 52 = .ok (.iconst 1, 1) := by decide +kernel
theorem dX10_jump_53 : decode cX10_jump 53 = .ok (.iastore, 1) := by decide +kernel
theorem dX10_jump_54 : decode cX10_jump 54 = .ok (.iconst 0, 1) := by decide +kernel
theorem dX10_jump_55 : decode cX10_jump 55 = .ok (.istore_n 3, 1) := by decide +kernel
theorem dX10_jump_56 : decode cX10_jump 56 = .ok (.iload_n 3, 1) := by decide +kernel
theorem dX10_jump_57 : decode cX10_jump 57 = .ok (.aload_n 0, 1) := by decide +kernel
theorem dX10_jump_58 : decode cX10_jump 58 = .ok (.getfield 94, 3) := by decide +kernel
theorem dX10_jump_61 : decode cX10_jump 61 = .ok (.iload_n 1, 1) := by decide +kernel
theorem dX10_jump_62 : decode cX10_jump 62 = .ok (.iaload, 1) := by decide +kernel
theorem dX10_jump_63 : decode cX10_jump 63 = .ok (.if_icmp .ge 110, 3) := by decide +kernel
theorem dX10_jump_66 : decode cX10_jump 66 = .ok (.aload_n 0, 1) := by decide +kernel
theorem dX10_jump_67 : decode cX10_jump 67 = .ok (.getfield 100, 3) := by decide +kernel
theorem dX10_jump_70 : decode cX10_jump 70 = .ok (.bipush 6, 2) := by decide +kernel
theorem dX10_jump_72 : decode cX10_jump 72 = .ok (.iload_n 1, 1) := by decide +kernel
theorem dX10_jump_73 : decode cX10_jump 73 = .ok (.imul, 1) := by decide +kernel
theorem dX10_jump_74 : decode cX10_jump 74 = .ok (.iload_n 3, 1) := by decide +kernel
theorem dX10_jump_75 : decode cX10_jump 75 = .ok (.iadd, 1) := by decide +kernel
theorem dX10_jump_76 : decode cX10_jump 76 = .ok (.iaload, 1) := by decide +kernel
theorem dX10_jump_77 : decode cX10_jump 77 = .ok (.istore 4, 2) := by decide +kernel
theorem dX10_jump_79 : decode cX10_jump 79 = .ok (.aload_n 0, 1) := by decide +kernel
theorem dX10_jump_80 : decode cX10_jump 80 = .ok (.getfield 103, 3) := by decide +kernel
theorem dX10_jump_83 : decode cX10_jump 83 = .ok (.bipush 6, 2) := by decide +kernel
theorem dX10_jump_85 : decode cX10_jump 85 = .ok (.iload_n 1, 1) := by decide +kernel
theorem dX10_jump_86 : decode cX10_jump 86 = .ok (.imul, 1) := by decide +kernel
theorem dX10_jump_87 : decode cX10_jump 87 = .ok (.iload_n 3, 1) := by decide +kernel
theorem dX10_jump_88 : decode cX10_jump 88 = .ok (.iadd, 1) := by decide +kernel
theorem dX10_jump_89 : decode cX10_jump 89 = .ok (.iaload, 1) := by decide +kernel
theorem dX10_jump_90 : decode cX10_jump 90 = .ok (.istore 5, 2) := by decide +kernel
theorem dX10_jump_92 : decode cX10_jump 92 = .ok (.iload_n 2, 1) := by decide +kernel
theorem dX10_jump_93 : decode cX10_jump 93 = .ok (.iload_n 3, 1) := by decide +kernel
theorem dX10_jump_94 : decode cX10_jump 94 = .ok (.ishr, 1) := by decide +kernel
theorem dX10_jump_95 : decode cX10_jump 95 = .ok (.iconst 1, 1) := by decide +kernel
theorem dX10_jump_96 : decode cX10_jump 96 = .ok (.iand, 1) := by decide +kernel
theorem dX10_jump_97 : decode cX10_jump 97 = .ok (.iconst 1, 1) := by decide +kernel
theorem dX10_jump_98 : decode cX10_jump 98 = .ok (.if_icmp .ne 7, 3) := by decide +kernel
theorem dX10_jump_101 : decode cX10_jump 101 = .ok (.iconst 1, 1) := by decide +kernel
theorem dX10_jump_102 : decode cX10_jump 102 = .ok (.goto 4, 3) := by decide +kernel
theorem dX10_jump_105 : decode cX10_jump 105 = .ok (.iconst 0, 1) := by decide +kernel
theorem dX10_jump_106 : decode cX10_jump 106 = .ok (.istore 6, 2) := by decide +kernel
theorem dX10_jump_108 : decode cX10_jump 108 = .ok (.aload_n 0, 1) := by decide +kernel
theorem dX10_jump_109 : decode cX10_jump 109 = .ok (.getfield 31, 3) := by decide +kernel
theorem dX10_jump_112 : decode cX10_jump 112 = .ok (.iload 4, 2) := by decide +kernel
theorem dX10_jump_114 : decode cX10_jump 114 = .ok (.bipush 111, 2) := by decide +kernel
theorem dX10_jump_116 : decode cX10_jump 116 = .ok (.iastore, 1) := by decide +kernel
theorem dX10_jump_117 : decode cX10_jump 117 = .ok (.aload_n 0, 1) := by decide +kernel
theorem dX10_jump_118 : decode cX10_jump 118 = .ok (.getfield 43, 3) := by decide +kernel
theorem dX10_jump_121 : decode cX10_jump 121 = .ok (.iload 4, 2) := by decide +kernel
theorem dX10_jump_123 : decode cX10_jump 123 = .ok (.dup2, 1) := by decide +kernel
theorem dX10_jump_124 : decode cX10_jump 124 = .ok (.iaload, 1) := by decide +kernel
theorem dX10_jump_125 : decode cX10_jump 125 = .ok (.iconst 1, 1) := by decide +kernel
theorem dX10_jump_126 : decode cX10_jump 126 = .ok (.iadd, 1) := by decide +kernel
theorem dX10_jump_127 : decode cX10_jump 127 = .ok (.iastore, 1) := by decide +kernel
theorem dX10_jump_128 : decode cX10_jump 128 = .ok (.aload_n 0, 1) := by decide +kernel
theorem dX10_jump_129 : decode cX10_jump 129 = .ok (.getfield 31, 3) := by decide +kernel
theorem dX10_jump_132 : decode cX10_jump 132 = .ok (.iload 5, 2) := by decide +kernel
theorem dX10_jump_134 : decode cX10_jump 134 = .ok (.iload 6, 2) := by decide +kernel
theorem dX10_jump_136 : decode cX10_jump 136 = .ok (.ifCond .eq 8, 3) := by decide +kernel
theorem dX10_jump_139 : decode cX10_jump 139 = .ok (.bipush 111, 2) := by decide +kernel
theorem dX10_jump_141 : decode cX10_jump 141 = .ok (.goto 5, 3) := by decide +kernel
theorem dX10_jump_144 : decode cX10_jump 144 = .ok (.bipush 107, 2) := by decide +kernel
theorem dX10_jump_146 : decode cX10_jump 146 = .ok (.iastore, 1) := by decide +kernel
theorem dX10_jump_147 : decode cX10_jump 147 = .ok (.aload_n 0, 1) := by decide +kernel
theorem dX10_jump_148 : decode cX10_jump 148 = .ok (.getfield 43, 3) := by decide +kernel
theorem dX10_jump_151 : decode cX10_jump 151 = .ok (.iload 5, 2) := by decide +kernel
theorem dX10_jump_153 : decode cX10_jump 153 = .ok (.dup2, 1) := by decide +kernel
theorem dX10_jump_154 : decode cX10_jump 154 = .ok (.iaload, 1) := by decide +kernel
theorem dX10_jump_155 : decode cX10_jump 155 = .ok (.iload 6, 2) := by decide +kernel
theorem dX10_jump_157 : decode cX10_jump 157 = .ok (.ifCond .eq 7, 3) := by decide +kernel
theorem dX10_jump_160 : decode cX10_jump 160 = .ok (.iconst 1, 1) := by decide +kernel
theorem dX10_jump_161 : decode cX10_jump 161 = .ok (.goto 4, 3) := by decide +kernel
theorem dX10_jump_164 : decode cX10_jump 164 = .ok (.iconst 0, 1) := by decide +kernel
theorem dX10_jump_165 : decode cX10_jump 165 = .ok (.iadd, 1) := by decide +kernel
theorem dX10_jump_166 : decode cX10_jump 166 = .ok (.iastore, 1) := by decide +kernel
theorem dX10_jump_167 : decode cX10_jump 167 = .ok (.iinc 3 1, 3) := by decide +kernel
theorem dX10_jump_170 : decode cX10_jump 170 = .ok (.goto (-114), 3) := by decide +kernel
theorem dX10_jump_173 : decode cX10_jump 173 = .ok (.aload_n 0, 1) := by decide +kernel
theorem dX10_jump_174 : decode cX10_jump 174 = .ok (.aload_n 0, 1) := by decide +kernel
theorem dX10_jump_175 : decode cX10_jump 175 = .ok (.getfield 94, 3) := by decide +kernel
theorem dX10_jump_178 : decode cX10_jump 178 = .ok (.iload_n 1, 1) := by decide +kernel
theorem dX10_jump_179 : decode cX10_jump 179 = .ok (.iaload, 1) := by decide +kernel
theorem dX10_jump_180 : decode cX10_jump 180 = .ok (.invokevirtual 148, 3) := by decide +kernel
theorem dX10_jump_183 : decode cX10_jump 183 = .ok (.ireturn, 1) := by decide +kernel
theorem dX10_hire_0 : decode cX10_hire 0 = .ok (.aload_n 0, 1) := by decide +kernel
theorem dX10_hire_1 : decode cX10_hire 1 = .ok (.iload_n 1, 1) := by decide +kernel
theorem dX10_hire_2 : decode cX10_hire 2 = .ok (.invokevirtual 158, 3) := by decide +kernel
theorem dX10_hire_5 : decode cX10_hire 5 = .ok (.ifCond .ne 9, 3) := by decide +kernel
theorem dX10_hire_8 : decode cX10_hire 8 = .ok (.aload_n 0, 1) := by decide +kernel
theorem dX10_hire_9 : decode cX10_hire 9 = .ok (.iconst 1, 1) := by decide +kernel
theorem dX10_hire_10 : decode cX10_hire 10 = .ok (.invokevirtual 144, 3) := by decide +kernel
theorem dX10_hire_13 : decode cX10_hire 13 = .ok (.ireturn, 1) := by decide +kernel
theorem dX10_hire_14 : decode cX10_hire 14 = .ok (.iload_n 2, 1) := by decide +kernel
theorem dX10_hire_15 : decode cX10_hire 15 = .ok (.iconst 1, 1) := by decide +kernel
theorem dX10_hire_16 : decode cX10_hire 16 = .ok (.bipush 30, 2) := by decide +kernel
theorem dX10_hire_18 : decode cX10_hire 18 = .ok (.invokestatic 134, 3) := by decide +kernel
theorem dX10_hire_21 : decode cX10_hire 21 = .ok (.ifCond .eq 14, 3) := by decide +kernel
theorem dX10_hire_24 : decode cX10_hire 24 = .ok (.iload_n 3, 1) := by decide +kernel
theorem dX10_hire_25 : decode cX10_hire 25 = .ok (.iconst 0, 1) := by decide +kernel
theorem dX10_hire_26 : decode cX10_hire 26 = .ok (.sipush 999, 3) := by decide +kernel
theorem dX10_hire_29 : decode cX10_hire 29 = .ok (.invokestatic 134, 3) := by decide +kernel
theorem dX10_hire_32 : decode cX10_hire 32 = .ok (.ifCond .ne 9, 3) := by decide +kernel
theorem dX10_hire_35 : decode cX10_hire 35 = .ok (.aload_n 0, 1) := by decide +kernel
theorem dX10_hire_36 : decode cX10_hire 36 = .ok (.iconst 2, 1) := by decide +kernel
theorem dX10_hire_37 : decode cX10_hire 37 = .ok (.invokevirtual 144, 3) := by decide +kernel
theorem dX10_hire_40 : decode cX10_hire 40 = .ok (.ireturn, 1) := by decide +kernel
theorem dX10_hire_41 : decode cX10_hire 41 = .ok (.aload_n 0, 1) := by decide +kernel
theorem dX10_hire_42 : decode cX10_hire 42 = .ok (.getfield 31, 3) := by decide +kernel
theorem dX10_hire_45 : decode cX10_hire 45 = .ok (.iload_n 1, 1) := by decide +kernel
theorem dX10_hire_46 : decode cX10_hire 46 = .ok (.iaload, 1) := by decide +kernel
theorem dX10_hire_47 : decode cX10_hire 47 = .ok (.bipush 107, 2) := by decide +kernel
theorem dX10_hire_49 : decode cX10_hire 49 = .ok (.if_icmp .ne 11, 3) := by decide +kernel
theorem dX10_hire_52 : decode cX10_hire 52 = .ok (.aload_n 0, 1) := by decide +kernel
theorem dX10_hire_53 : decode cX10_hire 53 = .ok (.iload_n 1, 1) := by decide +kernel
theorem dX10_hire_54 : decode cX10_hire 54 = .ok (.invokevirtual 222, 3) := by decide +kernel
theorem dX10_hire_57 : decode cX10_hire 57 = .ok (.ifCond .ne 9, 3) := by decide +kernel
theorem dX10_hire_60 : decode cX10_hire 60 = .ok (.aload_n 0, 1) := by decide +kernel
theorem dX10_hire_61 : decode cX10_hire 61 = .ok (.iconst 3, 1) := by decide +kernel
theorem dX10_hire_62 : decode cX10_hire 62 = .ok (.invokevirtual 144, 3) := by decide +kernel
theorem dX10_hire_65 : decode cX10_hire 65 = .ok (.ireturn, 1) := by decide +kernel
theorem dX10_hire_66 : decode cX10_hire 66 = .ok (.aload_n 0, 1) := by decide +kernel
theorem dX10_hire_67 : decode cX10_hire 67 = .ok (.getfield 31, 3) := by decide +kernel
theorem dX10_hire_70 : decode cX10_hire 70 = .ok (.iload_n 1, 1) := by decide +kernel
theorem dX10_hire_71 : decode cX10_hire 71 = .ok (.bipush 104, 2) := by decide +kernel
theorem dX10_hire_73 : decode cX10_hire 73 = .ok (.iastore, 1) := by decide +kernel
theorem dX10_hire_74 : decode cX10_hire 74 = .ok (.aload_n 0, 1) := by decide +kernel
theorem dX10_hire_75 : decode cX10_hire 75 = .ok (.getfield 73, 3) := by decide +kernel
theorem dX10_hire_78 : decode cX10_hire 78 = .ok (.iload_n 1, 1) := by decide +kernel
theorem dX10_hire_79 : decode cX10_hire 79 = .ok (.aload_n 0, 1) := by decide +kernel
theorem dX10_hire_80 : decode cX10_hire 80 = .ok (.getfield 141, 3) := by decide +kernel
theorem dX10_hire_83 : decode cX10_hire 83 = .ok (.iload_n 2, 1) := by decide +kernel
theorem dX10_hire_84 : decode cX10_hire 84 = .ok (.iadd, 1) := by decide +kernel
theorem dX10_hire_85 : decode cX10_hire 85 = .ok (.iastore, 1) := by decide +kernel
theorem dX10_hire_86 : decode cX10_hire 86 = .ok (.aload_n 0, 1) := by decide +kernel
theorem dX10_hire_87 : decode cX10_hire 87 = .ok (.getfield 76, 3) := by decide +kernel
theorem dX10_hire_90 : decode cX10_hire 90 = .ok (.iload_n 1, 1) := by decide +kernel
theorem dX10_hire_91 : decode cX10_hire 91 = .ok (.iload_n 3, 1) := by decide +kernel
theorem dX10_hire_92 : decode cX10_hire 92 = .ok (.iastore, 1) := by decide +kernel
theorem dX10_hire_93 : decode cX10_hire 93 = .ok (.aload_n 0, 1) := by decide +kernel
theorem dX10_hire_94 : decode cX10_hire 94 = .ok (.aload_n 0, 1) := by decide +kernel
theorem dX10_hire_95 : decode cX10_hire 95 = .ok (.getfield 73, 3) := by decide +kernel
theorem dX10_hire_98 : decode cX10_hire 98 = .ok (.iload_n 1, 1) := by decide +kernel
theorem dX10_hire_99 : decode cX10_hire 99 = .ok (.iaload, 1) := by decide +kernel
theorem dX10_hire_100 : decode cX10_hire 100 = .ok (.invokevirtual 148, 3) := by decide +kernel
theorem dX10_hire_103 : decode cX10_hire 103 = .ok (.ireturn, 1) := by decide +kernel
theorem dX10_back_0 : decode cX10_back 0 = .ok (.aload_n 0, 1) := by decide +kernel
theorem dX10_back_1 : decode cX10_back 1 = .ok (.iload_n 1, 1) := by decide +kernel
theorem dX10_back_2 : decode cX10_back 2 = .ok (.invokevirtual 158, 3) := by decide +kernel
theorem dX10_back_5 : decode cX10_back 5 = .ok (.ifCond .ne 9, 3) := by decide +kernel
theorem dX10_back_8 : decode cX10_back 8 = .ok (.aload_n 0, 1) := by decide +kernel
theorem dX10_back_9 : decode cX10_back 9 = .ok (.iconst 1, 1) := by decide +kernel
theorem dX10_back_10 : decode cX10_back 10 = .ok (.invokevirtual 144, 3) := by decide +kernel
theorem dX10_back_13 : decode cX10_back 13 = .ok (.ireturn, 1) := by decide +kernel
theorem dX10_back_14 : decode cX10_back 14 = .ok (.aload_n 0, 1) := by decide +kernel
theorem dX10_back_15 : decode cX10_back 15 = .ok (.getfield 31, 3) := by decide +kernel
theorem dX10_back_18 : decode cX10_back 18 = .ok (.iload_n 1, 1) := by decide +kernel
theorem dX10_back_19 : decode cX10_back 19 = .ok (.iaload, 1) := by decide +kernel
theorem dX10_back_20 : decode cX10_back 20 = .ok (.bipush 104, 2) := by decide +kernel
theorem dX10_back_22 : decode cX10_back 22 = .ok (.if_icmp .eq 9, 3) := by decide +kernel
theorem dX10_back_25 : decode cX10_back 25 = .ok (.aload_n 0, 1) := by decide +kernel
theorem dX10_back_26 : decode cX10_back 26 = .ok (.iconst 2, 1) := by decide +kernel
theorem dX10_back_27 : decode cX10_back 27 = .ok (.invokevirtual 144, 3) := by decide +kernel
theorem dX10_back_30 : decode cX10_back 30 = .ok (.ireturn, 1) := by decide +kernel
theorem dX10_back_31 : decode cX10_back 31 = .ok (.iconst 5, 1) := by decide +kernel
theorem dX10_back_32 : decode cX10_back 32 = .ok (.iconst 0, 1) := by decide +kernel
theorem dX10_back_33 : decode cX10_back 33 = .ok (.aload_n 0, 1) := by decide +kernel
theorem dX10_back_34 : decode cX10_back 34 = .ok (.getfield 141, 3) := by decide +kernel
theorem dX10_back_37 : decode cX10_back 37 = .ok (.aload_n 0, 1) := by decide +kernel
theorem dX10_back_38 : decode cX10_back 38 = .ok (.getfield 73, 3) := by decide +kernel
theorem dX10_back_41 : decode cX10_back 41 = .ok (.iload_n 1, 1) := by decide +kernel
theorem dX10_back_42 : decode cX10_back 42 = .ok (.iaload, 1) := by decide +kernel
theorem dX10_back_43 : decode cX10_back 43 = .ok (.isub, 1) := by decide +kernel
theorem dX10_back_44 : decode cX10_back 44 = .ok (.invokestatic 228, 3) := by decide +kernel
theorem dX10_back_47 : decode cX10_back 47 = .ok (.imul, 1) := by decide +kernel
theorem dX10_back_48 : decode cX10_back 48 = .ok (.iload_n 3, 1) := by decide +kernel
theorem dX10_back_49 : decode cX10_back 49 = .ok (.ifCond .eq 8, 3) := by decide +kernel
theorem dX10_back_52 : decode cX10_back 52 = .ok (.bipush 50, 2) := by decide +kernel
theorem dX10_back_54 : decode cX10_back 54 = .ok (.goto 4, 3) := by decide +kernel
theorem dX10_back_57 : decode cX10_back 57 = .ok (.iconst 0, 1) := by decide +kernel
theorem dX10_back_58 : decode cX10_back 58 = .ok (.iadd, 1) := by decide +kernel
theorem dX10_back_59 : decode cX10_back 59 = .ok (.istore 4, 2) := by decide +kernel
theorem dX10_back_61 : decode cX10_back 61 = .ok (.iconst 0, 1) := by decide +kernel
theorem dX10_back_62 : decode cX10_back 62 = .ok (.aload_n 0, 1) := by decide +kernel
theorem dX10_back_63 : decode cX10_back 63 = .ok (.getfield 76, 3) := by decide +kernel
theorem dX10_back_66 : decode cX10_back 66 = .ok (.iload_n 1, 1) := by decide +kernel
theorem dX10_back_67 : decode cX10_back 67 = .ok (.iaload, 1) := by decide +kernel
theorem dX10_back_68 : decode cX10_back 68 = .ok (.iload 4, 2) := by decide +kernel
theorem dX10_back_70 : decode cX10_back 70 = .ok (.isub, 1) := by decide +kernel
theorem dX10_back_71 : decode cX10_back 71 = .ok (.invokestatic 228, 3) := by decide +kernel
theorem dX10_back_74 : decode cX10_back 74 = .ok (.istore 5, 2) := by decide +kernel
theorem dX10_back_76 : decode cX10_back 76 = .ok (.aload_n 0, 1) := by decide +kernel
theorem dX10_back_77 : decode cX10_back 77 = .ok (.dup, 1) := by decide +kernel
theorem dX10_back_78 : decode cX10_back 78 = .ok (.getfield 234, 3) := by decide +kernel
theorem dX10_back_81 : decode cX10_back 81 = .ok (.aload_n 0, 1) := by decide +kernel
theorem dX10_back_82 : decode cX10_back 82 = .ok (.getfield 76, 3) := by decide +kernel
theorem dX10_back_85 : decode cX10_back 85 = .ok (.iload_n 1, 1) := by decide +kernel
theorem dX10_back_86 : decode cX10_back 86 = .ok (.iaload, 1) := by decide +kernel
theorem dX10_back_87 : decode cX10_back 87 = .ok (.iload 5, 2) := by decide +kernel
theorem dX10_back_89 : decode cX10_back 89 = .ok (.isub, 1) := by decide +kernel
theorem dX10_back_90 : decode cX10_back 90 = .ok (.i2l, 1) := by decide +kernel
theorem dX10_back_91 : decode cX10_back 91 = .ok (.ladd, 1) := by decide +kernel
theorem dX10_back_92 : decode cX10_back 92 = .ok (.putfield 234, 3) := by decide +kernel
theorem dX10_back_95 : decode cX10_back 95 = .ok (.aload_n 0, 1) := by decide +kernel
theorem dX10_back_96 : decode cX10_back 96 = .ok (.getfield 31, 3) := by decide +kernel
theorem dX10_back_99 : decode cX10_back 99 = .ok (.iload_n 1, 1) := by decide +kernel
theorem dX10_back_100 : decode cX10_back 100 = .ok (.iload_n 2, 1) := by decide +kernel
theorem dX10_back_101 : decode cX10_back 101 = .ok (.ifCond .eq 8, 3) := by decide +kernel
theorem dX10_back_104 : decode cX10_back 104 = .ok (.bipush 111, 2) := by decide +kernel
theorem dX10_back_106 : decode cX10_back 106 = .ok (.goto 5, 3) := by decide +kernel
theorem dX10_back_109 : decode cX10_back 109 = .ok (.bipush 107, 2) := by decide +kernel
theorem dX10_back_111 : decode cX10_back 111 = .ok (.iastore, 1) := by decide +kernel
theorem dX10_back_112 : decode cX10_back 112 = .ok (.iload_n 3, 1) := by decide +kernel
theorem dX10_back_113 : decode cX10_back 113 = .ok (.ifCond .eq 17, 3) := by decide +kernel
theorem dX10_back_116 : decode cX10_back 116 = .ok (.aload_n 0, 1) := by decide +kernel
theorem dX10_back_117 : decode cX10_back 117 = .ok (.getfield 185, 3) := by decide +kernel
theorem dX10_back_120 : decode cX10_back 120 = .ok (.bipush 12, 2) := by decide +kernel
theorem dX10_back_122 : decode cX10_back 122 = .ok (.if_icmp .ge 8, 3) := by decide +kernel
theorem dX10_back_125 : decode cX10_back 125 = .ok (.aload_n 0, 1) := by decide +kernel
theorem dX10_back_126 : decode cX10_back 126 = .ok (.iload_n 1, 1) := by decide +kernel
theorem dX10_back_127 : decode cX10_back 127 = .ok (.invokevirtual 203, 3) := by decide +kernel
theorem dX10_back_130 : decode cX10_back 130 = .ok (.aload_n 0, 1) := by decide +kernel
theorem dX10_back_131 : decode cX10_back 131 = .ok (.iload 5, 2) := by decide +kernel
theorem dX10_back_133 : decode cX10_back 133 = .ok (.invokevirtual 148, 3) := by decide +kernel
theorem dX10_back_136 : decode cX10_back 136 = .ok (.ireturn, 1) := by decide +kernel
theorem dX10_stateOf_0 : decode cX10_stateOf 0 = .ok (.aload_n 0, 1) := by decide +kernel
theorem dX10_stateOf_1 : decode cX10_stateOf 1 = .ok (.aload_n 0, 1) := by decide +kernel
theorem dX10_stateOf_2 : decode cX10_stateOf 2 = .ok (.iload_n 1, 1) := by decide +kernel
theorem dX10_stateOf_3 : decode cX10_stateOf 3 = .ok (.invokevirtual 158, 3) := by decide +kernel
theorem dX10_stateOf_6 : decode cX10_stateOf 6 = .ok (.ifCond .eq 7, 3) := by decide +kernel
theorem dX10_stateOf_9 : decode cX10_stateOf 9 = .ok (.iconst 0, 1) := by decide +kernel
theorem dX10_stateOf_10 : decode cX10_stateOf 10 = .ok (.goto 4, 3) := by decide +kernel
theorem dX10_stateOf_13 : decode cX10_stateOf 13 = .ok (.iconst 1, 1) := by decide +kernel
theorem dX10_stateOf_14 : decode cX10_stateOf 14 = .ok (.putfield 128, 3) := by decide +kernel
theorem dX10_stateOf_17 : decode cX10_stateOf 17 = .ok (.aload_n 0, 1) := by decide +kernel
theorem dX10_stateOf_18 : decode cX10_stateOf 18 = .ok (.getfield 128, 3) := by decide +kernel
theorem dX10_stateOf_21 : decode cX10_stateOf 21 = .ok (.ifCond .ne 13, 3) := by decide +kernel
theorem dX10_stateOf_24 : decode cX10_stateOf 24 = .ok (.aload_n 0, 1) := by decide +kernel
theorem dX10_stateOf_25 : decode cX10_stateOf 25 = .ok (.getfield 31, 3) := by decide +kernel
theorem dX10_stateOf_28 : decode cX10_stateOf 28 = .ok (.iload_n 1, 1) := by decide +kernel
theorem dX10_stateOf_29 : decode cX10_stateOf 29 = .ok (.iaload, 1) := by decide +kernel
theorem dX10_stateOf_30 : decode cX10_stateOf 30 = .ok (.i2c, 1) := by decide +kernel
theorem dX10_stateOf_31 : decode cX10_stateOf 31 = .ok (.goto 4, 3) := by decide +kernel
theorem dX10_stateOf_34 : decode cX10_stateOf 34 = .ok (.iconst 0, 1) := by decide +kernel
theorem dX10_stateOf_35 : decode cX10_stateOf 35 = .ok (.ireturn, 1) := by decide +kernel
theorem dX10_isGrounded_0 : decode cX10_isGrounded 0 = .ok (.aload_n 0, 1) := by decide +kernel
theorem dX10_isGrounded_1 : decode cX10_isGrounded 1 = .ok (.iload_n 1, 1) := by decide +kernel
theorem dX10_isGrounded_2 : decode cX10_isGrounded 2 = .ok (.invokevirtual 158, 3) := by decide +kernel
theorem dX10_isGrounded_5 : decode cX10_isGrounded 5 = .ok (.ifCond .eq 15, 3) := by decide +kernel
theorem dX10_isGrounded_8 : decode cX10_isGrounded 8 = .ok (.aload_n 0, 1) := by decide +kernel
theorem dX10_isGrounded_9 : decode cX10_isGrounded 9 = .ok (.aload_n 0, 1) := by decide +kernel
theorem dX10_isGrounded_10 : decode cX10_isGrounded 10 = .ok (.iload_n 1, 1) := by decide +kernel
theorem dX10_isGrounded_11 : decode cX10_isGrounded 11 = .ok (.invokevirtual 194, 3) := by decide +kernel
theorem dX10_isGrounded_14 : decode cX10_isGrounded 14 = .ok (.invokevirtual 212, 3) := by decide +kernel
theorem dX10_isGrounded_17 : decode cX10_isGrounded 17 = .ok (.goto 8, 3) := by decide +kernel
theorem dX10_isGrounded_20 : decode cX10_isGrounded 20 = .ok (.aload_n 0, 1) := by decide +kernel
theorem dX10_isGrounded_21 : decode cX10_isGrounded 21 = .ok (.iconst 1, 1) := by decide +kernel
theorem dX10_isGrounded_22 : decode cX10_isGrounded 22 = .ok (.invokevirtual 209, 3) := by decide +kernel
theorem dX10_isGrounded_25 : decode cX10_isGrounded 25 = .ok (.ireturn, 1) := by decide +kernel
theorem dX10_isOut_0 : decode cX10_isOut 0 = .ok (.aload_n 0, 1) := by decide +kernel
theorem dX10_isOut_1 : decode cX10_isOut 1 = .ok (.iload_n 1, 1) := by decide +kernel
theorem dX10_isOut_2 : decode cX10_isOut 2 = .ok (.invokevirtual 158, 3) := by decide +kernel
theorem dX10_isOut_5 : decode cX10_isOut 5 = .ok (.ifCond .eq 15, 3) := by decide +kernel
theorem dX10_isOut_8 : decode cX10_isOut 8 = .ok (.aload_n 0, 1) := by decide +kernel
theorem dX10_isOut_9 : decode cX10_isOut 9 = .ok (.aload_n 0, 1) := by decide +kernel
theorem dX10_isOut_10 : decode cX10_isOut 10 = .ok (.iload_n 1, 1) := by decide +kernel
theorem dX10_isOut_11 : decode cX10_isOut 11 = .ok (.invokevirtual 197, 3) := by decide +kernel
theorem dX10_isOut_14 : decode cX10_isOut 14 = .ok (.invokevirtual 212, 3) := by decide +kernel
theorem dX10_isOut_17 : decode cX10_isOut 17 = .ok (.goto 8, 3) := by decide +kernel
theorem dX10_isOut_20 : decode cX10_isOut 20 = .ok (.aload_n 0, 1) := by decide +kernel
theorem dX10_isOut_21 : decode cX10_isOut 21 = .ok (.iconst 1, 1) := by decide +kernel
theorem dX10_isOut_22 : decode cX10_isOut 22 = .ok (.invokevirtual 209, 3) := by decide +kernel
theorem dX10_isOut_25 : decode cX10_isOut 25 = .ok (.ireturn, 1) := by decide +kernel
theorem dX10_packsOf_0 : decode cX10_packsOf 0 = .ok (.iconst 0, 1) := by decide +kernel
theorem dX10_packsOf_1 : decode cX10_packsOf 1 = .ok (.istore_n 2, 1) := by decide +kernel
theorem dX10_packsOf_2 : decode cX10_packsOf 2 = .ok (.iconst 0, 1) := by decide +kernel
theorem dX10_packsOf_3 : decode cX10_packsOf 3 = .ok (.istore_n 3, 1) := by decide +kernel
theorem dX10_packsOf_4 : decode cX10_packsOf 4 = .ok (.iload_n 3, 1) := by decide +kernel
theorem dX10_packsOf_5 : decode cX10_packsOf 5 = .ok (.aload_n 0, 1) := by decide +kernel
theorem dX10_packsOf_6 : decode cX10_packsOf 6 = .ok (.getfield 168, 3) := by decide +kernel
theorem dX10_packsOf_9 : decode cX10_packsOf 9 = .ok (.if_icmp .ge 27, 3) := by decide +kernel
theorem dX10_packsOf_12 : decode cX10_packsOf 12 = .ok (.iload_n 2, 1) := by decide +kernel
theorem dX10_packsOf_13 : decode cX10_packsOf 13 = .ok (.aload_n 0, 1) := by decide +kernel
theorem dX10_packsOf_14 : decode cX10_packsOf 14 = .ok (.getfield 82, 3) := by decide +kernel
theorem dX10_packsOf_17 : decode cX10_packsOf 17 = .ok (.iload_n 3, 1) := by decide +kernel
theorem dX10_packsOf_18 : decode cX10_packsOf 18 = .ok (.iaload, 1) := by decide +kernel
theorem dX10_packsOf_19 : decode cX10_packsOf 19 = .ok (.iload_n 1, 1) := by decide +kernel
theorem dX10_packsOf_20 : decode cX10_packsOf 20 = .ok (.if_icmp .ne 7, 3) := by decide +kernel
theorem dX10_packsOf_23 : decode cX10_packsOf 23 = .ok (.iconst 1, 1) := by decide +kernel
theorem dX10_packsOf_24 : decode cX10_packsOf 24 = .ok (.goto 4, 3) := by decide +kernel
theorem dX10_packsOf_27 : decode cX10_packsOf 27 = .ok (.iconst 0, 1) := by decide +kernel
theorem dX10_packsOf_28 : decode cX10_packsOf 28 = .ok (.iadd, 1) := by decide +kernel
theorem dX10_packsOf_29 : decode cX10_packsOf 29 = .ok (.istore_n 2, 1) := by decide +kernel
theorem dX10_packsOf_30 : decode cX10_packsOf 30 = .ok (.iinc 3 1, 3) := by decide +kernel
theorem dX10_packsOf_33 : decode cX10_packsOf 33 = .ok (.goto (-29), 3) := by decide +kernel
theorem dX10_packsOf_36 : decode cX10_packsOf 36 = .ok (.iload_n 2, 1) := by decide +kernel
theorem dX10_packsOf_37 : decode cX10_packsOf 37 = .ok (.ireturn, 1) := by decide +kernel
theorem dX10_packings_0 : decode cX10_packings 0 = .ok (.aload_n 0, 1) := by decide +kernel
theorem dX10_packings_1 : decode cX10_packings 1 = .ok (.iload_n 1, 1) := by decide +kernel
theorem dX10_packings_2 : decode cX10_packings 2 = .ok (.invokevirtual 158, 3) := by decide +kernel
theorem dX10_packings_5 : decode cX10_packings 5 = .ok (.ifCond .eq 15, 3) := by decide +kernel
theorem dX10_packings_8 : decode cX10_packings 8 = .ok (.aload_n 0, 1) := by decide +kernel
theorem dX10_packings_9 : decode cX10_packings 9 = .ok (.aload_n 0, 1) := by decide +kernel
theorem dX10_packings_10 : decode cX10_packings 10 = .ok (.iload_n 1, 1) := by decide +kernel
theorem dX10_packings_11 : decode cX10_packings 11 = .ok (.invokevirtual 238, 3) := by decide +kernel
theorem dX10_packings_14 : decode cX10_packings 14 = .ok (.invokevirtual 148, 3) := by decide +kernel
theorem dX10_packings_17 : decode cX10_packings 17 = .ok (.goto 8, 3) := by decide +kernel
theorem dX10_packings_20 : decode cX10_packings 20 = .ok (.aload_n 0, 1) := by decide +kernel
theorem dX10_packings_21 : decode cX10_packings 21 = .ok (.iconst 1, 1) := by decide +kernel
theorem dX10_packings_22 : decode cX10_packings 22 = .ok (.invokevirtual 144, 3) := by decide +kernel
theorem dX10_packings_25 : decode cX10_packings 25 = .ok (.ireturn, 1) := by decide +kernel
theorem dX10_packingOf_0 : decode cX10_packingOf 0 = .ok (.aload_n 0, 1) := by decide +kernel
theorem dX10_packingOf_1 : decode cX10_packingOf 1 = .ok (.iload_n 1, 1) := by decide +kernel
theorem dX10_packingOf_2 : decode cX10_packingOf 2 = .ok (.invokevirtual 158, 3) := by decide +kernel
theorem dX10_packingOf_5 : decode cX10_packingOf 5 = .ok (.ifCond .eq 18, 3) := by decide +kernel
theorem dX10_packingOf_8 : decode cX10_packingOf 8 = .ok (.iload_n 2, 1) := by decide +kernel
theorem dX10_packingOf_9 : decode cX10_packingOf 9 = .ok (.iconst 0, 1) := by decide +kernel
theorem dX10_packingOf_10 : decode cX10_packingOf 10 = .ok (.aload_n 0, 1) := by decide +kernel
theorem dX10_packingOf_11 : decode cX10_packingOf 11 = .ok (.iload_n 1, 1) := by decide +kernel
theorem dX10_packingOf_12 : decode cX10_packingOf 12 = .ok (.invokevirtual 238, 3) := by decide +kernel
theorem dX10_packingOf_15 : decode cX10_packingOf 15 = .ok (.iconst 1, 1) := by decide +kernel
theorem dX10_packingOf_16 : decode cX10_packingOf 16 = .ok (.isub, 1) := by decide +kernel
theorem dX10_packingOf_17 : decode cX10_packingOf 17 = .ok (.invokestatic 134, 3) := by decide +kernel
theorem dX10_packingOf_20 : decode cX10_packingOf 20 = .ok (.ifCond .ne 9, 3) := by decide +kernel
theorem dX10_packingOf_23 : decode cX10_packingOf 23 = .ok (.aload_n 0, 1) := by decide +kernel
theorem dX10_packingOf_24 : decode cX10_packingOf 24 = .ok (.iconst 1, 1) := by decide +kernel
theorem dX10_packingOf_25 : decode cX10_packingOf 25 = .ok (.invokevirtual 144, 3) := by decide +kernel
theorem dX10_packingOf_28 : decode cX10_packingOf 28 = .ok (.ireturn, 1) := by decide +kernel
theorem dX10_packingOf_29 : decode cX10_packingOf 29 = .ok (.iconst 0, 1) := by decide +kernel
theorem dX10_packingOf_30 : decode cX10_packingOf 30 = .ok (.istore 4, 2) := by decide +kernel
theorem dX10_packingOf_32 : decode cX10_packingOf 32 = .ok (.iload_n 2, 1) := by decide +kernel
theorem dX10_packingOf_33 : decode cX10_packingOf 33 = .ok (.istore 5, 2) := by decide +kernel
theorem dX10_packingOf_35 : decode cX10_packingOf 35 = .ok (.aload_n 0, 1) := by decide +kernel
theorem dX10_packingOf_36 : decode cX10_packingOf 36 = .ok (.getfield 82, 3) := by decide +kernel
theorem dX10_packingOf_39 : decode cX10_packingOf 39 = .ok (.iload 4, 2) := by decide +kernel
theorem dX10_packingOf_41 : decode cX10_packingOf 41 = .ok (.iaload, 1) := by decide +kernel
theorem dX10_packingOf_42 : decode cX10_packingOf 42 = .ok (.iload_n 1, 1) := by decide +kernel
theorem dX10_packingOf_43 : decode cX10_packingOf 43 = .ok (.if_icmp .ne 8, 3) := by decide +kernel
theorem dX10_packingOf_46 : decode cX10_packingOf 46 = .ok (.iload 5, 2) := by decide +kernel
theorem dX10_packingOf_48 : decode cX10_packingOf 48 = .ok (.ifCond .le 30, 3) := by decide +kernel
theorem dX10_packingOf_51 : decode cX10_packingOf 51 = .ok (.iload 5, 2) := by decide +kernel
theorem dX10_packingOf_53 : decode cX10_packingOf 53 = .ok (.aload_n 0, 1) := by decide +kernel
theorem dX10_packingOf_54 : decode cX10_packingOf 54 = .ok (.getfield 82, 3) := by decide +kernel
theorem dX10_packingOf_57 : decode cX10_packingOf 57 = .ok (.iload 4, 2) := by decide +kernel
theorem dX10_packingOf_59 : decode cX10_packingOf 59 = .ok (.iaload, 1) := by decide +kernel
theorem dX10_packingOf_60 : decode cX10_packingOf 60 = .ok (.iload_n 1, 1) := by decide +kernel
theorem dX10_packingOf_61 : decode cX10_packingOf 61 = .ok (.if_icmp .ne 7, 3) := by decide +kernel
theorem dX10_packingOf_64 : decode cX10_packingOf 64 = .ok (.iconst 1, 1) := by decide +kernel
theorem dX10_packingOf_65 : decode cX10_packingOf 65 = .ok (.goto 4, 3) := by decide +kernel
theorem dX10_packingOf_68 : decode cX10_packingOf 68 = .ok (.iconst 0, 1) := by decide +kernel
theorem dX10_packingOf_69 : decode cX10_packingOf 69 = .ok (.isub, 1) := by decide +kernel
theorem dX10_packingOf_70 : decode cX10_packingOf 70 = .ok (.istore 5, 2) := by decide +kernel
theorem dX10_packingOf_72 : decode cX10_packingOf 72 = .ok (.iinc 4 1, 3) := by decide +kernel
theorem dX10_packingOf_75 : decode cX10_packingOf 75 = .ok (.goto (-40), 3) := by decide +kernel
theorem dX10_packingOf_78 : decode cX10_packingOf 78 = .ok (.iload_n 3, 1) := by decide +kernel
theorem dX10_packingOf_79 : decode cX10_packingOf 79 = .ok (.bipush 104, 2) := by decide +kernel
theorem dX10_packingOf_81 : decode cX10_packingOf 81 = .ok (.if_icmp .ne 15, 3) := by decide +kernel
theorem dX10_packingOf_84 : decode cX10_packingOf 84 = .ok (.aload_n 0, 1) := by decide +kernel
theorem dX10_packingOf_85 : decode cX10_packingOf 85 = .ok (.aload_n 0, 1) := by decide +kernel
theorem dX10_packingOf_86 : decode cX10_packingOf 86 = .ok (.getfield 85, 3) := by decide +kernel
theorem dX10_packingOf_89 : decode cX10_packingOf 89 = .ok (.iload 4, 2) := by decide +kernel
theorem dX10_packingOf_91 : decode cX10_packingOf 91 = .ok (.iaload, 1) := by decide +kernel
theorem dX10_packingOf_92 : decode cX10_packingOf 92 = .ok (.invokevirtual 148, 3) := by decide +kernel
theorem dX10_packingOf_95 : decode cX10_packingOf 95 = .ok (.ireturn, 1) := by decide +kernel
theorem dX10_packingOf_96 : decode cX10_packingOf 96 = .ok (.iload_n 3, 1) := by decide +kernel
theorem dX10_packingOf_97 : decode cX10_packingOf 97 = .ok (.bipush 100, 2) := by decide +kernel
theorem dX10_packingOf_99 : decode cX10_packingOf 99 = .ok (.if_icmp .ne 15, 3) := by decide +kernel
theorem dX10_packingOf_102 : decode cX10_packingOf 102 = .ok (.aload_n 0, 1) := by decide +kernel
theorem dX10_packingOf_103 : decode cX10_packingOf 103 = .ok (.aload_n 0, 1) := by decide +kernel
theorem dX10_packingOf_104 : decode cX10_packingOf 104 = .ok (.getfield 88, 3) := by decide +kernel
theorem dX10_packingOf_107 : decode cX10_packingOf 107 = .ok (.iload 4, 2) := by decide +kernel
theorem dX10_packingOf_109 : decode cX10_packingOf 109 = .ok (.iaload, 1) := by decide +kernel
theorem dX10_packingOf_110 : decode cX10_packingOf 110 = .ok (.invokevirtual 148, 3) := by decide +kernel
theorem dX10_packingOf_113 : decode cX10_packingOf 113 = .ok (.ireturn, 1) := by decide +kernel
theorem dX10_packingOf_114 : decode cX10_packingOf 114 = .ok (.iload_n 3, 1) := by decide +kernel
theorem dX10_packingOf_115 : decode cX10_packingOf 115 = .ok (.bipush 48, 2) := by decide +kernel
theorem dX10_packingOf_117 : decode cX10_packingOf 117 = .ok (.bipush 52, 2) := by decide +kernel
theorem dX10_packingOf_119 : decode cX10_packingOf 119 = .ok (.invokestatic 134, 3) := by decide +kernel
theorem dX10_packingOf_122 : decode cX10_packingOf 122 = .ok (.ifCond .eq 24, 3) := by decide +kernel
theorem dX10_packingOf_125 : decode cX10_packingOf 125 = .ok (.aload_n 0, 1) := by decide +kernel
theorem dX10_packingOf_126 : decode cX10_packingOf 126 = .ok (.aload_n 0, 1) := by decide +kernel
theorem dX10_packingOf_127 : decode cX10_packingOf 127 = .ok (.getfield 91, 3) := by decide +kernel
theorem dX10_packingOf_130 : decode cX10_packingOf 130 = .ok (.iconst 5, 1) := by decide +kernel
theorem dX10_packingOf_131 : decode cX10_packingOf 131 = .ok (.iload 4, 2) := by decide +kernel
theorem dX10_packingOf_133 : decode cX10_packingOf 133 = .ok (.imul, 1) := by decide +kernel
theorem dX10_packingOf_134 : decode cX10_packingOf 134 = .ok (.iload_n 3, 1) := by decide +kernel
theorem dX10_packingOf_135 : decode cX10_packingOf 135 = .ok (.iadd, 1) := by decide +kernel
theorem dX10_packingOf_136 : decode cX10_packingOf 136 = .ok (.bipush 48, 2) := by decide +kernel
theorem dX10_packingOf_138 : decode cX10_packingOf 138 = .ok (.isub, 1) := by decide +kernel
theorem dX10_packingOf_139 : decode cX10_packingOf 139 = .ok (.iaload, 1) := by decide +kernel
theorem dX10_packingOf_140 : decode cX10_packingOf 140 = .ok (.invokevirtual 148, 3) := by decide +kernel
theorem dX10_packingOf_143 : decode cX10_packingOf 143 = .ok (.goto 8, 3) := by decide +kernel
theorem dX10_packingOf_146 : decode cX10_packingOf 146 = .ok (.aload_n 0, 1) := by decide +kernel
theorem dX10_packingOf_147 : decode cX10_packingOf 147 = .ok (.iconst 2, 1) := by decide +kernel
theorem dX10_packingOf_148 : decode cX10_packingOf 148 = .ok (.invokevirtual 144, 3) := by decide +kernel
theorem dX10_packingOf_151 : decode cX10_packingOf 151 = .ok (.ireturn, 1) := by decide +kernel
theorem dX10_jumps_0 : decode cX10_jumps 0 = .ok (.aload_n 0, 1) := by decide +kernel
theorem dX10_jumps_1 : decode cX10_jumps 1 = .ok (.iload_n 1, 1) := by decide +kernel
theorem dX10_jumps_2 : decode cX10_jumps 2 = .ok (.invokevirtual 158, 3) := by decide +kernel
theorem dX10_jumps_5 : decode cX10_jumps 5 = .ok (.ifCond .eq 16, 3) := by decide +kernel
theorem dX10_jumps_8 : decode cX10_jumps 8 = .ok (.aload_n 0, 1) := by decide +kernel
theorem dX10_jumps_9 : decode cX10_jumps 9 = .ok (.aload_n 0, 1) := by decide +kernel
theorem dX10_jumps_10 : decode cX10_jumps 10 = .ok (.getfield 43, 3) := by decide +kernel
theorem dX10_jumps_13 : decode cX10_jumps 13 = .ok (.iload_n 1, 1) := by decide +kernel
theorem dX10_jumps_14 : decode cX10_jumps 14 = .ok (.iaload, 1) := by decide +kernel
theorem dX10_jumps_15 : decode cX10_jumps 15 = .ok (.invokevirtual 148, 3) := by decide +kernel
theorem dX10_jumps_18 : decode cX10_jumps 18 = .ok (.goto 8, 3) := by decide +kernel
theorem dX10_jumps_21 : decode cX10_jumps 21 = .ok (.aload_n 0, 1) := by decide +kernel
theorem dX10_jumps_22 : decode cX10_jumps 22 = .ok (.iconst 1, 1) := by decide +kernel
theorem dX10_jumps_23 : decode cX10_jumps 23 = .ok (.invokevirtual 144, 3) := by decide +kernel
theorem dX10_jumps_26 : decode cX10_jumps 26 = .ok (.ireturn, 1) := by decide +kernel
theorem dX10_sharers_0 : decode cX10_sharers 0 = .ok (.aload_n 0, 1) := by decide +kernel
theorem dX10_sharers_1 : decode cX10_sharers 1 = .ok (.iload_n 1, 1) := by decide +kernel
theorem dX10_sharers_2 : decode cX10_sharers 2 = .ok (.invokevirtual 158, 3) := by decide +kernel
theorem dX10_sharers_5 : decode cX10_sharers 5 = .ok (.ifCond .ne 9, 3) := by decide +kernel
theorem dX10_sharers_8 : decode cX10_sharers 8 = .ok (.aload_n 0, 1) := by decide +kernel
theorem dX10_sharers_9 : decode cX10_sharers 9 = .ok (.iconst 1, 1) := by decide +kernel
theorem dX10_sharers_10 : decode cX10_sharers 10 = .ok (.invokevirtual 144, 3) := by decide +kernel
theorem dX10_sharers_13 : decode cX10_sharers 13 = .ok (.ireturn, 1) := by decide +kernel
theorem dX10_sharers_14 : decode cX10_sharers 14 = .ok (.iconst 0, 1) := by decide +kernel
theorem dX10_sharers_15 : decode cX10_sharers 15 = .ok (.istore_n 2, 1) := by decide +kernel
theorem dX10_sharers_16 : decode cX10_sharers 16 = .ok (.iconst 0, 1) := by decide +kernel
theorem dX10_sharers_17 : decode cX10_sharers 17 = .ok (.istore_n 3, 1) := by decide +kernel
theorem dX10_sharers_18 : decode cX10_sharers 18 = .ok (.iload_n 3, 1) := by decide +kernel
theorem dX10_sharers_19 : decode cX10_sharers 19 = .ok (.aload_n 0, 1) := by decide +kernel
theorem dX10_sharers_20 : decode cX10_sharers 20 = .ok (.getfield 138, 3) := by decide +kernel
theorem dX10_sharers_23 : decode cX10_sharers 23 = .ok (.if_icmp .ge 81, 3) := by decide +kernel
theorem dX10_sharers_26 : decode cX10_sharers 26 = .ok (.iconst 0, 1) := by decide +kernel
theorem dX10_sharers_27 : decode cX10_sharers 27 = .ok (.istore 4, 2) := by decide +kernel
theorem dX10_sharers_29 : decode cX10_sharers 29 = .ok (.iconst 0, 1) := by decide +kernel
theorem dX10_sharers_30 : decode cX10_sharers 30 = .ok (.istore 5, 2) := by decide +kernel
theorem dX10_sharers_32 : decode cX10_sharers 32 = .ok (.iload 5, 2) := by decide +kernel
theorem dX10_sharers_34 : decode cX10_sharers 34 = .ok (.aload_n 0, 1) := by decide +kernel
theorem dX10_sharers_35 : decode cX10_sharers 35 = .ok (.getfield 168, 3) := by decide +kernel
theorem dX10_sharers_38 : decode cX10_sharers 38 = .ok (.if_icmp .ge 47, 3) := by decide +kernel
theorem dX10_sharers_41 : decode cX10_sharers 41 = .ok (.iload_n 3, 1) := by decide +kernel
theorem dX10_sharers_42 : decode cX10_sharers 42 = .ok (.iload_n 1, 1) := by decide +kernel
theorem dX10_sharers_43 : decode cX10_sharers 43 = .ok (.if_icmp .eq 42, 3) := by decide +kernel
theorem dX10_sharers_46 : decode cX10_sharers 46 = .ok (.iload 4, 2) := by decide +kernel
theorem dX10_sharers_48 : decode cX10_sharers 48 = .ok (.ifCond .ne 24, 3) := by decide +kernel
theorem dX10_sharers_51 : decode cX10_sharers 51 = .ok (.aload_n 0, 1) := by decide +kernel
theorem dX10_sharers_52 : decode cX10_sharers 52 = .ok (.getfield 82, 3) := by decide +kernel
theorem dX10_sharers_55 : decode cX10_sharers 55 = .ok (.iload 5, 2) := by decide +kernel
theorem dX10_sharers_57 : decode cX10_sharers 57 = .ok (.iaload, 1) := by decide +kernel
theorem dX10_sharers_58 : decode cX10_sharers 58 = .ok (.iload_n 1, 1) := by decide +kernel
theorem dX10_sharers_59 : decode cX10_sharers 59 = .ok (.if_icmp .ne 17, 3) := by decide +kernel
theorem dX10_sharers_62 : decode cX10_sharers 62 = .ok (.aload_n 0, 1) := by decide +kernel
theorem dX10_sharers_63 : decode cX10_sharers 63 = .ok (.iload_n 3, 1) := by decide +kernel
theorem dX10_sharers_64 : decode cX10_sharers 64 = .ok (.iload 5, 2) := by decide +kernel
theorem dX10_sharers_66 : decode cX10_sharers 66 = .ok (.invokevirtual 179, 3) := by decide +kernel
theorem dX10_sharers_69 : decode cX10_sharers 69 = .ok (.ifCond .eq 7, 3) := by decide +kernel
theorem dX10_sharers_72 : decode cX10_sharers 72 = .ok (.iconst 1, 1) := by decide +kernel
theorem dX10_sharers_73 : decode cX10_sharers 73 = .ok (.goto 4, 3) := by decide +kernel
theorem dX10_sharers_76 : decode cX10_sharers 76 = .ok (.iconst 0, 1) := by decide +kernel
theorem dX10_sharers_77 : decode cX10_sharers 77 = .ok (.istore 4, 2) := by decide +kernel
theorem dX10_sharers_79 : decode cX10_sharers 79 = .ok (.iinc 5 1, 3) := by decide +kernel
theorem dX10_sharers_82 : decode cX10_sharers 82 = .ok (.goto (-50), 3) := by decide +kernel
theorem dX10_sharers_85 : decode cX10_sharers 85 = .ok (.iload_n 2, 1) := by decide +kernel
theorem dX10_sharers_86 : decode cX10_sharers 86 = .ok (.iload 4, 2) := by decide +kernel
theorem dX10_sharers_88 : decode cX10_sharers 88 = .ok (.ifCond .eq 7, 3) := by decide +kernel
theorem dX10_sharers_91 : decode cX10_sharers 91 = .ok (.iconst 1, 1) := by decide +kernel
theorem dX10_sharers_92 : decode cX10_sharers 92 = .ok (.goto 4, 3) := by decide +kernel
theorem dX10_sharers_95 : decode cX10_sharers 95 = .ok (.iconst 0, 1) := by decide +kernel
theorem dX10_sharers_96 : decode cX10_sharers 96 = .ok (.iadd, 1) := by decide +kernel
theorem dX10_sharers_97 : decode cX10_sharers 97 = .ok (.istore_n 2, 1) := by decide +kernel
theorem dX10_sharers_98 : decode cX10_sharers 98 = .ok (.iinc 3 1, 3) := by decide +kernel
theorem dX10_sharers_101 : decode cX10_sharers 101 = .ok (.goto (-83), 3) := by decide +kernel
theorem dX10_sharers_104 : decode cX10_sharers 104 = .ok (.aload_n 0, 1) := by decide +kernel
theorem dX10_sharers_105 : decode cX10_sharers 105 = .ok (.iload_n 2, 1) := by decide +kernel
theorem dX10_sharers_106 : decode cX10_sharers 106 = .ok (.invokevirtual 148, 3) := by decide +kernel
theorem dX10_sharers_109 : decode cX10_sharers 109 = .ok (.ireturn, 1) := by decide +kernel
theorem dX10_next_0 : decode cX10_next 0 = .ok (.iconst (-1), 1) := by decide +kernel
theorem dX10_next_1 : decode cX10_next 1 = .ok (.istore_n 1, 1) := by decide +kernel
theorem dX10_next_2 : decode cX10_next 2 = .ok (.iconst 0, 1) := by decide +kernel
theorem dX10_next_3 : decode cX10_next 3 = .ok (.istore_n 2, 1) := by decide +kernel
theorem dX10_next_4 : decode cX10_next 4 = .ok (.iload_n 2, 1) := by decide +kernel
theorem dX10_next_5 : decode cX10_next 5 = .ok (.aload_n 0, 1) := by decide +kernel
theorem dX10_next_6 : decode cX10_next 6 = .ok (.getfield 138, 3) := by decide +kernel
theorem dX10_next_9 : decode cX10_next 9 = .ok (.if_icmp .ge 74, 3) := by decide +kernel
theorem dX10_next_12 : decode cX10_next 12 = .ok (.aload_n 0, 1) := by decide +kernel
theorem dX10_next_13 : decode cX10_next 13 = .ok (.getfield 16, 3) := by decide +kernel
theorem dX10_next_16 : decode cX10_next 16 = .ok (.iload_n 2, 1) := by decide +kernel
theorem dX10_next_17 : decode cX10_next 17 = .ok (.iaload, 1) := by decide +kernel
theorem dX10_next_18 : decode cX10_next 18 = .ok (.bipush 114, 2) := by decide +kernel
theorem dX10_next_20 : decode cX10_next 20 = .ok (.if_icmp .ne 57, 3) := by decide +kernel
theorem dX10_next_23 : decode cX10_next 23 = .ok (.aload_n 0, 1) := by decide +kernel
theorem dX10_next_24 : decode cX10_next 24 = .ok (.getfield 31, 3) := by decide +kernel
theorem dX10_next_27 : decode cX10_next 27 = .ok (.iload_n 2, 1) := by decide +kernel
theorem dX10_next_28 : decode cX10_next 28 = .ok (.iaload, 1) := by decide +kernel
theorem dX10_next_29 : decode cX10_next 29 = .ok (.bipush 107, 2) := by decide +kernel
theorem dX10_next_31 : decode cX10_next 31 = .ok (.if_icmp .ne 46, 3) := by decide +kernel
theorem dX10_next_34 : decode cX10_next 34 = .ok (.aload_n 0, 1) := by decide +kernel
theorem dX10_next_35 : decode cX10_next 35 = .ok (.iload_n 2, 1) := by decide +kernel
theorem dX10_next_36 : decode cX10_next 36 = .ok (.invokevirtual 197, 3) := by decide +kernel
theorem dX10_next_39 : decode cX10_next 39 = .ok (.ifCond .eq 6, 3) := by decide +kernel
theorem dX10_next_42 : decode cX10_next 42 = .ok (.goto 35, 3) := by decide +kernel
theorem dX10_next_45 : decode cX10_next 45 = .ok (.iload_n 1, 1) := by decide +kernel
theorem dX10_next_46 : decode cX10_next 46 = .ok (.iconst (-1), 1) := by decide +kernel
theorem dX10_next_47 : decode cX10_next 47 = .ok (.if_icmp .eq 28, 3) := by decide +kernel
theorem dX10_next_50 : decode cX10_next 50 = .ok (.aload_n 0, 1) := by decide +kernel
theorem dX10_next_51 : decode cX10_next 51 = .ok (.getfield 88, 3) := by decide +kernel
theorem dX10_next_54 : decode cX10_next 54 = .ok (.aload_n 0, 1) := by decide +kernel
theorem dX10_next_55 : decode cX10_next 55 = .ok (.getfield 40, 3) := by decide +kernel
theorem dX10_next_58 : decode cX10_next 58 = .ok (.iload_n 2, 1) := by decide +kernel
theorem dX10_next_59 : decode cX10_next 59 = .ok (.iaload, 1) := by decide +kernel
theorem dX10_next_60 : decode cX10_next 60 = .ok (.iaload, 1) := by decide +kernel
theorem dX10_next_61 : decode cX10_next 61 = .ok (.aload_n 0, 1) := by decide +kernel
theorem dX10_next_62 : decode cX10_next 62 = .ok (.getfield 88, 3) := by decide +kernel
theorem dX10_next_65 : decode cX10_next 65 = .ok (.aload_n 0, 1) := by decide +kernel
theorem dX10_next_66 : decode cX10_next 66 = .ok (.getfield 40, 3) := by decide +kernel
theorem dX10_next_69 : decode cX10_next 69 = .ok (.iload_n 1, 1) := by decide +kernel
theorem dX10_next_70 : decode cX10_next 70 = .ok (.iaload, 1) := by decide +kernel
theorem dX10_next_71 : decode cX10_next 71 = .ok (.iaload, 1) := by decide +kernel
theorem dX10_next_72 : decode cX10_next 72 = .ok (.if_icmp .ge 5, 3) := by decide +kernel
theorem dX10_next_75 : decode cX10_next 75 = .ok (.iload_n 2, 1) := by decide +kernel
theorem dX10_next_76 : decode cX10_next 76 = .ok (.istore_n 1, 1) := by decide +kernel
theorem dX10_next_77 : decode cX10_next 77 = .ok (.iinc 2 1, 3) := by decide +kernel
theorem dX10_next_80 : decode cX10_next 80 = .ok (.goto (-76), 3) := by decide +kernel
theorem dX10_next_83 : decode cX10_next 83 = .ok (.iload_n 1, 1) := by decide +kernel
theorem dX10_next_84 : decode cX10_next 84 = .ok (.iconst (-1), 1) := by decide +kernel
theorem dX10_next_85 : decode cX10_next 85 = .ok (.if_icmp .ne 11, 3) := by decide +kernel
theorem dX10_next_88 : decode cX10_next 88 = .ok (.aload_n 0, 1) := by decide +kernel
theorem dX10_next_89 : decode cX10_next 89 = .ok (.iconst 1, 1) := by decide +kernel
theorem dX10_next_90 : decode cX10_next 90 = .ok (.invokevirtual 144, 3) := by decide +kernel
theorem dX10_next_93 : decode cX10_next 93 = .ok (.goto 8, 3) := by decide +kernel
theorem dX10_next_96 : decode cX10_next 96 = .ok (.aload_n 0, 1) := by decide +kernel
theorem dX10_next_97 : decode cX10_next 97 = .ok (.iload_n 1, 1) := by decide +kernel
theorem dX10_next_98 : decode cX10_next 98 = .ok (.invokevirtual 148, 3) := by decide +kernel
theorem dX10_next_101 : decode cX10_next 101 = .ok (.ireturn, 1) := by decide +kernel
theorem dX10_held_0 : decode cX10_held 0 = .ok (.lconst 0, 1) := by decide +kernel
theorem dX10_held_1 : decode cX10_held 1 = .ok (.lstore_n 1, 1) := by decide +kernel
theorem dX10_held_2 : decode cX10_held 2 = .ok (.iconst 0, 1) := by decide +kernel
theorem dX10_held_3 : decode cX10_held 3 = .ok (.istore_n 3, 1) := by decide +kernel
theorem dX10_held_4 : decode cX10_held 4 = .ok (.iload_n 3, 1) := by decide +kernel
theorem dX10_held_5 : decode cX10_held 5 = .ok (.aload_n 0, 1) := by decide +kernel
theorem dX10_held_6 : decode cX10_held 6 = .ok (.getfield 138, 3) := by decide +kernel
theorem dX10_held_9 : decode cX10_held 9 = .ok (.if_icmp .ge 34, 3) := by decide +kernel
theorem dX10_held_12 : decode cX10_held 12 = .ok (.lload_n 1, 1) := by decide +kernel
theorem dX10_held_13 : decode cX10_held 13 = .ok (.aload_n 0, 1) := by decide +kernel
theorem dX10_held_14 : decode cX10_held 14 = .ok (.getfield 31, 3) := by decide +kernel
theorem dX10_held_17 : decode cX10_held 17 = .ok (.iload_n 3, 1) := by decide +kernel
theorem dX10_held_18 : decode cX10_held 18 = .ok (.iaload, 1) := by decide +kernel
theorem dX10_held_19 : decode cX10_held 19 = .ok (.bipush 104, 2) := by decide +kernel
theorem dX10_held_21 : decode cX10_held 21 = .ok (.if_icmp .ne 13, 3) := by decide +kernel
theorem dX10_held_24 : decode cX10_held 24 = .ok (.aload_n 0, 1) := by decide +kernel
theorem dX10_held_25 : decode cX10_held 25 = .ok (.getfield 76, 3) := by decide +kernel
theorem dX10_held_28 : decode cX10_held 28 = .ok (.iload_n 3, 1) := by decide +kernel
theorem dX10_held_29 : decode cX10_held 29 = .ok (.iaload, 1) := by decide +kernel
theorem dX10_held_30 : decode cX10_held 30 = .ok (.i2l, 1) := by decide +kernel
theorem dX10_held_31 : decode cX10_held 31 = .ok (.goto 4, 3) := by decide +kernel
theorem dX10_held_34 : decode cX10_held 34 = .ok (.lconst 0, 1) := by decide +kernel
theorem dX10_held_35 : decode cX10_held 35 = .ok (.ladd, 1) := by decide +kernel
theorem dX10_held_36 : decode cX10_held 36 = .ok (.lstore_n 1, 1) := by decide +kernel
theorem dX10_held_37 : decode cX10_held 37 = .ok (.iinc 3 1, 3) := by decide +kernel
theorem dX10_held_40 : decode cX10_held 40 = .ok (.goto (-36), 3) := by decide +kernel
theorem dX10_held_43 : decode cX10_held 43 = .ok (.aload_n 0, 1) := by decide +kernel
theorem dX10_held_44 : decode cX10_held 44 = .ok (.iconst 0, 1) := by decide +kernel
theorem dX10_held_45 : decode cX10_held 45 = .ok (.putfield 128, 3) := by decide +kernel
theorem dX10_held_48 : decode cX10_held 48 = .ok (.lload_n 1, 1) := by decide +kernel
theorem dX10_held_49 : decode cX10_held 49 = .ok (.lreturn, 1) := by decide +kernel
theorem dX10_kept_0 : decode cX10_kept 0 = .ok (.aload_n 0, 1) := by decide +kernel
theorem dX10_kept_1 : decode cX10_kept 1 = .ok (.iconst 0, 1) := by decide +kernel
theorem dX10_kept_2 : decode cX10_kept 2 = .ok (.putfield 128, 3) := by decide +kernel
theorem dX10_kept_5 : decode cX10_kept 5 = .ok (.aload_n 0, 1) := by decide +kernel
theorem dX10_kept_6 : decode cX10_kept 6 = .ok (.getfield 234, 3) := by decide +kernel
theorem dX10_kept_9 : decode cX10_kept 9 = .ok (.lreturn, 1) := by decide +kernel
theorem dX10_groundedShare_0 : decode cX10_groundedShare 0 = .ok (.iconst 0, 1) := by decide +kernel
theorem dX10_groundedShare_1 : decode cX10_groundedShare 1 = .ok (.istore_n 1, 1) := by decide +kernel
theorem dX10_groundedShare_2 : decode cX10_groundedShare 2 = .ok (.iconst 0, 1) := by decide +kernel
theorem dX10_groundedShare_3 : decode cX10_groundedShare 3 = .ok (.istore_n 2, 1) := by decide +kernel
theorem dX10_groundedShare_4 : decode cX10_groundedShare 4 = .ok (.iload_n 2, 1) := by decide +kernel
theorem dX10_groundedShare_5 : decode cX10_groundedShare 5 = .ok (.aload_n 0, 1) := by decide +kernel
theorem dX10_groundedShare_6 : decode cX10_groundedShare 6 = .ok (.getfield 138, 3) := by decide +kernel
theorem dX10_groundedShare_9 : decode cX10_groundedShare 9 = .ok (.if_icmp .ge 25, 3) := by decide +kernel
theorem dX10_groundedShare_12 : decode cX10_groundedShare 12 = .ok (.iload_n 1, 1) := by decide +kernel
theorem dX10_groundedShare_13 : decode cX10_groundedShare 13 = .ok (.aload_n 0, 1) := by decide +kernel
theorem dX10_groundedShare_14 : decode cX10_groundedShare 14 = .ok (.iload_n 2, 1) := by decide +kernel
theorem dX10_groundedShare_15 : decode cX10_groundedShare 15 = .ok (.invokevirtual 194, 3) := by decide +kernel
theorem dX10_groundedShare_18 : decode cX10_groundedShare 18 = .ok (.ifCond .eq 7, 3) := by decide +kernel
theorem dX10_groundedShare_21 : decode cX10_groundedShare 21 = .ok (.iconst 1, 1) := by decide +kernel
theorem dX10_groundedShare_22 : decode cX10_groundedShare 22 = .ok (.goto 4, 3) := by decide +kernel
theorem dX10_groundedShare_25 : decode cX10_groundedShare 25 = .ok (.iconst 0, 1) := by decide +kernel
theorem dX10_groundedShare_26 : decode cX10_groundedShare 26 = .ok (.iadd, 1) := by decide +kernel
theorem dX10_groundedShare_27 : decode cX10_groundedShare 27 = .ok (.istore_n 1, 1) := by decide +kernel
theorem dX10_groundedShare_28 : decode cX10_groundedShare 28 = .ok (.iinc 2 1, 3) := by decide +kernel
theorem dX10_groundedShare_31 : decode cX10_groundedShare 31 = .ok (.goto (-27), 3) := by decide +kernel
theorem dX10_groundedShare_34 : decode cX10_groundedShare 34 = .ok (.aload_n 0, 1) := by decide +kernel
theorem dX10_groundedShare_35 : decode cX10_groundedShare 35 = .ok (.aload_n 0, 1) := by decide +kernel
theorem dX10_groundedShare_36 : decode cX10_groundedShare 36 = .ok (.getfield 138, 3) := by decide +kernel
theorem dX10_groundedShare_39 : decode cX10_groundedShare 39 = .ok (.ifCond .ne 7, 3) := by decide +kernel
theorem dX10_groundedShare_42 : decode cX10_groundedShare 42 = .ok (.iconst 1, 1) := by decide +kernel
theorem dX10_groundedShare_43 : decode cX10_groundedShare 43 = .ok (.goto 4, 3) := by decide +kernel
theorem dX10_groundedShare_46 : decode cX10_groundedShare 46 = .ok (.iconst 0, 1) := by decide +kernel
theorem dX10_groundedShare_47 : decode cX10_groundedShare 47 = .ok (.putfield 128, 3) := by decide +kernel
theorem dX10_groundedShare_50 : decode cX10_groundedShare 50 = .ok (.aload_n 0, 1) := by decide +kernel
theorem dX10_groundedShare_51 : decode cX10_groundedShare 51 = .ok (.getfield 138, 3) := by decide +kernel
theorem dX10_groundedShare_54 : decode cX10_groundedShare 54 = .ok (.ifCond .ne 7, 3) := by decide +kernel
theorem dX10_groundedShare_57 : decode cX10_groundedShare 57 = .ok (.fconst 0, 1) := by decide +kernel
theorem dX10_groundedShare_58 : decode cX10_groundedShare 58 = .ok (.goto 11, 3) := by decide +kernel
theorem dX10_groundedShare_61 : decode cX10_groundedShare 61 = .ok (.iload_n 1, 1) := by decide +kernel
theorem dX10_groundedShare_62 : decode cX10_groundedShare 62 = .ok (.i2f, 1) := by decide +kernel
theorem dX10_groundedShare_63 : decode cX10_groundedShare 63 = .ok (.aload_n 0, 1) := by decide +kernel
theorem dX10_groundedShare_64 : decode cX10_groundedShare 64 = .ok (.getfield 138, 3) := by decide +kernel
theorem dX10_groundedShare_67 : decode cX10_groundedShare 67 = .ok (.i2f, 1) := by decide +kernel
theorem dX10_groundedShare_68 : decode cX10_groundedShare 68 = .ok (.fdiv, 1) := by decide +kernel
theorem dX10_groundedShare_69 : decode cX10_groundedShare 69 = .ok (.freturn, 1) := by decide +kernel
theorem dX10_meanDrops_0 : decode cX10_meanDrops 0 = .ok (.iconst 0, 1) := by decide +kernel
theorem dX10_meanDrops_1 : decode cX10_meanDrops 1 = .ok (.istore_n 1, 1) := by decide +kernel
theorem dX10_meanDrops_2 : decode cX10_meanDrops 2 = .ok (.iconst 0, 1) := by decide +kernel
theorem dX10_meanDrops_3 : decode cX10_meanDrops 3 = .ok (.istore_n 2, 1) := by decide +kernel
theorem dX10_meanDrops_4 : decode cX10_meanDrops 4 = .ok (.iload_n 2, 1) := by decide +kernel
theorem dX10_meanDrops_5 : decode cX10_meanDrops 5 = .ok (.aload_n 0, 1) := by decide +kernel
theorem dX10_meanDrops_6 : decode cX10_meanDrops 6 = .ok (.getfield 138, 3) := by decide +kernel
theorem dX10_meanDrops_9 : decode cX10_meanDrops 9 = .ok (.if_icmp .ge 18, 3) := by decide +kernel
theorem dX10_meanDrops_12 : decode cX10_meanDrops 12 = .ok (.iload_n 1, 1) := by decide +kernel
theorem dX10_meanDrops_13 : decode cX10_meanDrops 13 = .ok (.aload_n 0, 1) := by decide +kernel
theorem dX10_meanDrops_14 : decode cX10_meanDrops 14 = .ok (.getfield 46, 3) := by decide +kernel
theorem dX10_meanDrops_17 : decode cX10_meanDrops 17 = .ok (.iload_n 2, 1) := by decide +kernel
theorem dX10_meanDrops_18 : decode cX10_meanDrops 18 = .ok (.iaload, 1) := by decide +kernel
theorem dX10_meanDrops_19 : decode cX10_meanDrops 19 = .ok (.iadd, 1) := by decide +kernel
theorem dX10_meanDrops_20 : decode cX10_meanDrops 20 = .ok (.istore_n 1, 1) := by decide +kernel
theorem dX10_meanDrops_21 : decode cX10_meanDrops 21 = .ok (.iinc 2 1, 3) := by decide +kernel
theorem dX10_meanDrops_24 : decode cX10_meanDrops 24 = .ok (.goto (-20), 3) := by decide +kernel
theorem dX10_meanDrops_27 : decode cX10_meanDrops 27 = .ok (.aload_n 0, 1) := by decide +kernel
theorem dX10_meanDrops_28 : decode cX10_meanDrops 28 = .ok (.aload_n 0, 1) := by decide +kernel
theorem dX10_meanDrops_29 : decode cX10_meanDrops 29 = .ok (.getfield 138, 3) := by decide +kernel
theorem dX10_meanDrops_32 : decode cX10_meanDrops 32 = .ok (.ifCond .ne 7, 3) := by decide +kernel
theorem dX10_meanDrops_35 : decode cX10_meanDrops 35 = .ok (.iconst 1, 1) := by decide +kernel
theorem dX10_meanDrops_36 : decode cX10_meanDrops 36 = .ok (.goto 4, 3) := by decide +kernel
theorem dX10_meanDrops_39 : decode cX10_meanDrops 39 = .ok (.iconst 0, 1) := by decide +kernel
theorem dX10_meanDrops_40 : decode cX10_meanDrops 40 = .ok (.putfield 128, 3) := by decide +kernel
theorem dX10_meanDrops_43 : decode cX10_meanDrops 43 = .ok (.aload_n 0, 1) := by decide +kernel
theorem dX10_meanDrops_44 : decode cX10_meanDrops 44 = .ok (.getfield 138, 3) := by decide +kernel
theorem dX10_meanDrops_47 : decode cX10_meanDrops 47 = .ok (.ifCond .ne 7, 3) := by decide +kernel
theorem dX10_meanDrops_50 : decode cX10_meanDrops 50 = .ok (.dconst 0, 1) := by decide +kernel
theorem dX10_meanDrops_51 : decode cX10_meanDrops 51 = .ok (.goto 11, 3) := by decide +kernel
theorem dX10_meanDrops_54 : decode cX10_meanDrops 54 = .ok (.iload_n 1, 1) := by decide +kernel
theorem dX10_meanDrops_55 : decode cX10_meanDrops 55 = .ok (.i2d, 1) := by decide +kernel
theorem dX10_meanDrops_56 : decode cX10_meanDrops 56 = .ok (.aload_n 0, 1) := by decide +kernel
theorem dX10_meanDrops_57 : decode cX10_meanDrops 57 = .ok (.getfield 138, 3) := by decide +kernel
theorem dX10_meanDrops_60 : decode cX10_meanDrops 60 = .ok (.i2d, 1) := by decide +kernel
theorem dX10_meanDrops_61 : decode cX10_meanDrops 61 = .ok (.ddiv, 1) := by decide +kernel
theorem dX10_meanDrops_62 : decode cX10_meanDrops 62 = .ok (.dreturn, 1) := by decide +kernel
theorem dX10_isSound_0 : decode cX10_isSound 0 = .ok (.aload_n 0, 1) := by decide +kernel
theorem dX10_isSound_1 : decode cX10_isSound 1 = .ok (.iconst 1, 1) := by decide +kernel
theorem dX10_isSound_2 : decode cX10_isSound 2 = .ok (.invokevirtual 212, 3) := by decide +kernel
theorem dX10_isSound_5 : decode cX10_isSound 5 = .ok (.ireturn, 1) := by decide +kernel
theorem dL_addRigger_0 : decode cL_addRigger 0 = .ok (.aload_n 3, 1) := by decide +kernel
theorem dL_addRigger_1 : decode cL_addRigger 1 = .ok (.iconst 0, 1) := by decide +kernel
theorem dL_addRigger_2 : decode cL_addRigger 2 = .ok (.aload_n 0, 1) := by decide +kernel
theorem dL_addRigger_3 : decode cL_addRigger 3 = .ok (.iload_n 1, 1) := by decide +kernel
theorem dL_addRigger_4 : decode cL_addRigger 4 = .ok (.iload_n 2, 1) := by decide +kernel
theorem dL_addRigger_5 : decode cL_addRigger 5 = .ok (.invokevirtual 7, 3) := by decide +kernel
theorem dL_addRigger_8 : decode cL_addRigger 8 = .ok (.i2l, 1) := by decide +kernel
theorem dL_addRigger_9 : decode cL_addRigger 9 = .ok (.lastore, 1) := by decide +kernel
theorem dL_addRigger_10 : decode cL_addRigger 10 = .ok (.goto 11, 3) := by decide +kernel
theorem dL_addRigger_13 : decode cL_addRigger 13 = .ok (.astore 4, 2) := by decide +kernel
theorem dL_addRigger_15 : decode cL_addRigger 15 = .ok (.iconst 1, 1) := by decide +kernel
theorem dL_addRigger_16 : decode cL_addRigger 16 = .ok (.ireturn, 1) := by decide +kernel
theorem dL_addRigger_17 : decode cL_addRigger 17 = .ok (.astore 4, 2) := by decide +kernel
theorem dL_addRigger_19 : decode cL_addRigger 19 = .ok (.iconst 2, 1) := by decide +kernel
theorem dL_addRigger_20 : decode cL_addRigger 20 = .ok (.ireturn, 1) := by decide +kernel
theorem dL_addRigger_21 : decode cL_addRigger 21 = .ok (.iconst 0, 1) := by decide +kernel
theorem dL_addRigger_22 : decode cL_addRigger 22 = .ok (.ireturn, 1) := by decide +kernel
theorem dL_setLicences_0 : decode cL_setLicences 0 = .ok (.aload 4, 2) := by decide +kernel
theorem dL_setLicences_2 : decode cL_setLicences 2 = .ok (.iconst 0, 1) := by decide +kernel
theorem dL_setLicences_3 : decode cL_setLicences 3 = .ok (.aload_n 0, 1) := by decide +kernel
theorem dL_setLicences_4 : decode cL_setLicences 4 = .ok (.iload_n 1, 1) := by decide +kernel
theorem dL_setLicences_5 : decode cL_setLicences 5 = .ok (.iload_n 2, 1) := by decide +kernel
theorem dL_setLicences_6 : decode cL_setLicences 6 = .ok (.iload_n 3, 1) := by decide +kernel
theorem dL_setLicences_7 : decode cL_setLicences 7 = .ok (.invokevirtual 17, 3) := by decide +kernel
theorem dL_setLicences_10 : decode cL_setLicences 10 = .ok (.i2l, 1) := by decide +kernel
theorem dL_setLicences_11 : decode cL_setLicences 11 = .ok (.lastore, 1) := by decide +kernel
theorem dL_setLicences_12 : decode cL_setLicences 12 = .ok (.goto 11, 3) := by decide +kernel
theorem dL_setLicences_15 : decode cL_setLicences 15 = .ok (.astore 5, 2) := by decide +kernel
theorem dL_setLicences_17 : decode cL_setLicences 17 = .ok (.iconst 1, 1) := by decide +kernel
theorem dL_setLicences_18 : decode cL_setLicences 18 = .ok (.ireturn, 1) := by decide +kernel
theorem dL_setLicences_19 : decode cL_setLicences 19 = .ok (.astore 5, 2) := by decide +kernel
theorem dL_setLicences_21 : decode cL_setLicences 21 = .ok (.iconst 2, 1) := by decide +kernel
theorem dL_setLicences_22 : decode cL_setLicences 22 = .ok (.ireturn, 1) := by decide +kernel
theorem dL_setLicences_23 : decode cL_setLicences 23 = .ok (.iconst 0, 1) := by decide +kernel
theorem dL_setLicences_24 : decode cL_setLicences 24 = .ok (.ireturn, 1) := by decide +kernel
theorem dL_addCanopy_0 : decode cL_addCanopy 0 = .ok (.aload 5, 2) := by decide +kernel
theorem dL_addCanopy_2 : decode cL_addCanopy 2 = .ok (.iconst 0, 1) := by decide +kernel
theorem dL_addCanopy_3 : decode cL_addCanopy 3 = .ok (.aload_n 0, 1) := by decide +kernel
theorem dL_addCanopy_4 : decode cL_addCanopy 4 = .ok (.iload_n 1, 1) := by decide +kernel
theorem dL_addCanopy_5 : decode cL_addCanopy 5 = .ok (.iload_n 2, 1) := by decide +kernel
theorem dL_addCanopy_6 : decode cL_addCanopy 6 = .ok (.iload_n 3, 1) := by decide +kernel
theorem dL_addCanopy_7 : decode cL_addCanopy 7 = .ok (.iload 4, 2) := by decide +kernel
theorem dL_addCanopy_9 : decode cL_addCanopy 9 = .ok (.invokevirtual 23, 3) := by decide +kernel
theorem dL_addCanopy_12 : decode cL_addCanopy 12 = .ok (.i2l, 1) := by decide +kernel
theorem dL_addCanopy_13 : decode cL_addCanopy 13 = .ok (.lastore, 1) := by decide +kernel
theorem dL_addCanopy_14 : decode cL_addCanopy 14 = .ok (.goto 11, 3) := by decide +kernel
theorem dL_addCanopy_17 : decode cL_addCanopy 17 = .ok (.astore 6, 2) := by decide +kernel
theorem dL_addCanopy_19 : decode cL_addCanopy 19 = .ok (.iconst 1, 1) := by decide +kernel
theorem dL_addCanopy_20 : decode cL_addCanopy 20 = .ok (.ireturn, 1) := by decide +kernel
theorem dL_addCanopy_21 : decode cL_addCanopy 21 = .ok (.astore 6, 2) := by decide +kernel
theorem dL_addCanopy_23 : decode cL_addCanopy 23 = .ok (.iconst 2, 1) := by decide +kernel
theorem dL_addCanopy_24 : decode cL_addCanopy 24 = .ok (.ireturn, 1) := by decide +kernel
theorem dL_addCanopy_25 : decode cL_addCanopy 25 = .ok (.iconst 0, 1) := by decide +kernel
theorem dL_addCanopy_26 : decode cL_addCanopy 26 = .ok (.ireturn, 1) := by decide +kernel
theorem dL_setPeriod_0 : decode cL_setPeriod 0 = .ok (.aload_n 2, 1) := by decide +kernel
theorem dL_setPeriod_1 : decode cL_setPeriod 1 = .ok (.iconst 0, 1) := by decide +kernel
theorem dL_setPeriod_2 : decode cL_setPeriod 2 = .ok (.aload_n 0, 1) := by decide +kernel
theorem dL_setPeriod_3 : decode cL_setPeriod 3 = .ok (.iload_n 1, 1) := by decide +kernel
theorem dL_setPeriod_4 : decode cL_setPeriod 4 = .ok (.invokevirtual 27, 3) := by decide +kernel
theorem dL_setPeriod_7 : decode cL_setPeriod 7 = .ok (.i2l, 1) := by decide +kernel
theorem dL_setPeriod_8 : decode cL_setPeriod 8 = .ok (.lastore, 1) := by decide +kernel
theorem dL_setPeriod_9 : decode cL_setPeriod 9 = .ok (.goto 6, 3) := by decide +kernel
theorem dL_setPeriod_12 : decode cL_setPeriod 12 = .ok (.astore_n 3, 1) := by decide +kernel
theorem dL_setPeriod_13 : decode cL_setPeriod 13 = .ok (.iconst 1, 1) := by decide +kernel
theorem dL_setPeriod_14 : decode cL_setPeriod 14 = .ok (.ireturn, 1) := by decide +kernel
theorem dL_setPeriod_15 : decode cL_setPeriod 15 = .ok (.iconst 0, 1) := by decide +kernel
theorem dL_setPeriod_16 : decode cL_setPeriod 16 = .ok (.ireturn, 1) := by decide +kernel
theorem dL_goOn_0 : decode cL_goOn 0 = .ok (.aload_n 2, 1) := by decide +kernel
theorem dL_goOn_1 : decode cL_goOn 1 = .ok (.iconst 0, 1) := by decide +kernel
theorem dL_goOn_2 : decode cL_goOn 2 = .ok (.aload_n 0, 1) := by decide +kernel
theorem dL_goOn_3 : decode cL_goOn 3 = .ok (.iload_n 1, 1) := by decide +kernel
theorem dL_goOn_4 : decode cL_goOn 4 = .ok (.invokevirtual 31, 3) := by decide +kernel
theorem dL_goOn_7 : decode cL_goOn 7 = .ok (.i2l, 1) := by decide +kernel
theorem dL_goOn_8 : decode cL_goOn 8 = .ok (.lastore, 1) := by decide +kernel
theorem dL_goOn_9 : decode cL_goOn 9 = .ok (.goto 9, 3) := by decide +kernel
theorem dL_goOn_12 : decode cL_goOn 12 = .ok (.astore_n 3, 1) := by decide +kernel
theorem dL_goOn_13 : decode cL_goOn 13 = .ok (.iconst 1, 1) := by decide +kernel
theorem dL_goOn_14 : decode cL_goOn 14 = .ok (.ireturn, 1) := by decide +kernel
theorem dL_goOn_15 : decode cL_goOn 15 = .ok (.astore_n 3, 1) := by decide +kernel
theorem dL_goOn_16 : decode cL_goOn 16 = .ok (.iconst 2, 1) := by decide +kernel
theorem dL_goOn_17 : decode cL_goOn 17 = .ok (.ireturn, 1) := by decide +kernel
theorem dL_goOn_18 : decode cL_goOn 18 = .ok (.iconst 0, 1) := by decide +kernel
theorem dL_goOn_19 : decode cL_goOn 19 = .ok (.ireturn, 1) := by decide +kernel
theorem dL_hang_0 : decode cL_hang 0 = .ok (.aload_n 3, 1) := by decide +kernel
theorem dL_hang_1 : decode cL_hang 1 = .ok (.iconst 0, 1) := by decide +kernel
theorem dL_hang_2 : decode cL_hang 2 = .ok (.aload_n 0, 1) := by decide +kernel
theorem dL_hang_3 : decode cL_hang 3 = .ok (.iload_n 1, 1) := by decide +kernel
theorem dL_hang_4 : decode cL_hang 4 = .ok (.iload_n 2, 1) := by decide +kernel
theorem dL_hang_5 : decode cL_hang 5 = .ok (.invokevirtual 34, 3) := by decide +kernel
theorem dL_hang_8 : decode cL_hang 8 = .ok (.i2l, 1) := by decide +kernel
theorem dL_hang_9 : decode cL_hang 9 = .ok (.lastore, 1) := by decide +kernel
theorem dL_hang_10 : decode cL_hang 10 = .ok (.goto 19, 3) := by decide +kernel
theorem dL_hang_13 : decode cL_hang 13 = .ok (.astore 4, 2) := by decide +kernel
theorem dL_hang_15 : decode cL_hang 15 = .ok (.iconst 1, 1) := by decide +kernel
theorem dL_hang_16 : decode cL_hang 16 = .ok (.ireturn, 1) := by decide +kernel
theorem dL_hang_17 : decode cL_hang 17 = .ok (.astore 4, 2) := by decide +kernel
theorem dL_hang_19 : decode cL_hang 19 = .ok (.iconst 2, 1) := by decide +kernel
theorem dL_hang_20 : decode cL_hang 20 = .ok (.ireturn, 1) := by decide +kernel
theorem dL_hang_21 : decode cL_hang 21 = .ok (.astore 4, 2) := by decide +kernel
theorem dL_hang_23 : decode cL_hang 23 = .ok (.iconst 3, 1) := by decide +kernel
theorem dL_hang_24 : decode cL_hang 24 = .ok (.ireturn, 1) := by decide +kernel
theorem dL_hang_25 : decode cL_hang 25 = .ok (.astore 4, 2) := by decide +kernel
theorem dL_hang_27 : decode cL_hang 27 = .ok (.iconst 4, 1) := by decide +kernel
theorem dL_hang_28 : decode cL_hang 28 = .ok (.ireturn, 1) := by decide +kernel
theorem dL_hang_29 : decode cL_hang 29 = .ok (.iconst 0, 1) := by decide +kernel
theorem dL_hang_30 : decode cL_hang 30 = .ok (.ireturn, 1) := by decide +kernel
theorem dL_step_0 : decode cL_step 0 = .ok (.aload_n 3, 1) := by decide +kernel
theorem dL_step_1 : decode cL_step 1 = .ok (.iconst 0, 1) := by decide +kernel
theorem dL_step_2 : decode cL_step 2 = .ok (.aload_n 0, 1) := by decide +kernel
theorem dL_step_3 : decode cL_step 3 = .ok (.iload_n 1, 1) := by decide +kernel
theorem dL_step_4 : decode cL_step 4 = .ok (.iload_n 2, 1) := by decide +kernel
theorem dL_step_5 : decode cL_step 5 = .ok (.invokevirtual 39, 3) := by decide +kernel
theorem dL_step_8 : decode cL_step 8 = .ok (.i2l, 1) := by decide +kernel
theorem dL_step_9 : decode cL_step 9 = .ok (.lastore, 1) := by decide +kernel
theorem dL_step_10 : decode cL_step 10 = .ok (.goto 15, 3) := by decide +kernel
theorem dL_step_13 : decode cL_step 13 = .ok (.astore 4, 2) := by decide +kernel
theorem dL_step_15 : decode cL_step 15 = .ok (.iconst 1, 1) := by decide +kernel
theorem dL_step_16 : decode cL_step 16 = .ok (.ireturn, 1) := by decide +kernel
theorem dL_step_17 : decode cL_step 17 = .ok (.astore 4, 2) := by decide +kernel
theorem dL_step_19 : decode cL_step 19 = .ok (.iconst 2, 1) := by decide +kernel
theorem dL_step_20 : decode cL_step 20 = .ok (.ireturn, 1) := by decide +kernel
theorem dL_step_21 : decode cL_step 21 = .ok (.astore 4, 2) := by decide +kernel
theorem dL_step_23 : decode cL_step 23 = .ok (.iconst 3, 1) := by decide +kernel
theorem dL_step_24 : decode cL_step 24 = .ok (.ireturn, 1) := by decide +kernel
theorem dL_step_25 : decode cL_step 25 = .ok (.iconst 0, 1) := by decide +kernel
theorem dL_step_26 : decode cL_step 26 = .ok (.ireturn, 1) := by decide +kernel
theorem dL_breakOff_0 : decode cL_breakOff 0 = .ok (.aload_n 2, 1) := by decide +kernel
theorem dL_breakOff_1 : decode cL_breakOff 1 = .ok (.iconst 0, 1) := by decide +kernel
theorem dL_breakOff_2 : decode cL_breakOff 2 = .ok (.aload_n 0, 1) := by decide +kernel
theorem dL_breakOff_3 : decode cL_breakOff 3 = .ok (.iload_n 1, 1) := by decide +kernel
theorem dL_breakOff_4 : decode cL_breakOff 4 = .ok (.invokevirtual 42, 3) := by decide +kernel
theorem dL_breakOff_7 : decode cL_breakOff 7 = .ok (.i2l, 1) := by decide +kernel
theorem dL_breakOff_8 : decode cL_breakOff 8 = .ok (.lastore, 1) := by decide +kernel
theorem dL_breakOff_9 : decode cL_breakOff 9 = .ok (.goto 9, 3) := by decide +kernel
theorem dL_breakOff_12 : decode cL_breakOff 12 = .ok (.astore_n 3, 1) := by decide +kernel
theorem dL_breakOff_13 : decode cL_breakOff 13 = .ok (.iconst 1, 1) := by decide +kernel
theorem dL_breakOff_14 : decode cL_breakOff 14 = .ok (.ireturn, 1) := by decide +kernel
theorem dL_breakOff_15 : decode cL_breakOff 15 = .ok (.astore_n 3, 1) := by decide +kernel
theorem dL_breakOff_16 : decode cL_breakOff 16 = .ok (.iconst 2, 1) := by decide +kernel
theorem dL_breakOff_17 : decode cL_breakOff 17 = .ok (.ireturn, 1) := by decide +kernel
theorem dL_breakOff_18 : decode cL_breakOff 18 = .ok (.iconst 0, 1) := by decide +kernel
theorem dL_breakOff_19 : decode cL_breakOff 19 = .ok (.ireturn, 1) := by decide +kernel
theorem dL_load_0 : decode cL_load 0 = .ok (.aload_n 1, 1) := by decide +kernel
theorem dL_load_1 : decode cL_load 1 = .ok (.iconst 0, 1) := by decide +kernel
theorem dL_load_2 : decode cL_load 2 = .ok (.aload_n 0, 1) := by decide +kernel
theorem dL_load_3 : decode cL_load 3 = .ok (.invokevirtual 45, 3) := by decide +kernel
theorem dL_load_6 : decode cL_load 6 = .ok (.i2l, 1) := by decide +kernel
theorem dL_load_7 : decode cL_load 7 = .ok (.lastore, 1) := by decide +kernel
theorem dL_load_8 : decode cL_load 8 = .ok (.goto 6, 3) := by decide +kernel
theorem dL_load_11 : decode cL_load 11 = .ok (.astore_n 2, 1) := by decide +kernel
theorem dL_load_12 : decode cL_load 12 = .ok (.iconst 1, 1) := by decide +kernel
theorem dL_load_13 : decode cL_load 13 = .ok (.ireturn, 1) := by decide +kernel
theorem dL_load_14 : decode cL_load 14 = .ok (.iconst 0, 1) := by decide +kernel
theorem dL_load_15 : decode cL_load 15 = .ok (.ireturn, 1) := by decide +kernel
theorem dL_board_0 : decode cL_board 0 = .ok (.aload 4, 2) := by decide +kernel
theorem dL_board_2 : decode cL_board 2 = .ok (.iconst 0, 1) := by decide +kernel
theorem dL_board_3 : decode cL_board 3 = .ok (.aload_n 0, 1) := by decide +kernel
theorem dL_board_4 : decode cL_board 4 = .ok (.iload_n 1, 1) := by decide +kernel
theorem dL_board_5 : decode cL_board 5 = .ok (.iload_n 2, 1) := by decide +kernel
theorem dL_board_6 : decode cL_board 6 = .ok (.iload_n 3, 1) := by decide +kernel
theorem dL_board_7 : decode cL_board 7 = .ok (.invokevirtual 49, 3) := by decide +kernel
theorem dL_board_10 : decode cL_board 10 = .ok (.i2l, 1) := by decide +kernel
theorem dL_board_11 : decode cL_board 11 = .ok (.lastore, 1) := by decide +kernel
theorem dL_board_12 : decode cL_board 12 = .ok (.goto 19, 3) := by decide +kernel
theorem dL_board_15 : decode cL_board 15 = .ok (.astore 5, 2) := by decide +kernel
theorem dL_board_17 : decode cL_board 17 = .ok (.iconst 1, 1) := by decide +kernel
theorem dL_board_18 : decode cL_board 18 = .ok (.ireturn, 1) := by decide +kernel
theorem dL_board_19 : decode cL_board 19 = .ok (.astore 5, 2) := by decide +kernel
theorem dL_board_21 : decode cL_board 21 = .ok (.iconst 2, 1) := by decide +kernel
theorem dL_board_22 : decode cL_board 22 = .ok (.ireturn, 1) := by decide +kernel
theorem dL_board_23 : decode cL_board 23 = .ok (.astore 5, 2) := by decide +kernel
theorem dL_board_25 : decode cL_board 25 = .ok (.iconst 3, 1) := by decide +kernel
theorem dL_board_26 : decode cL_board 26 = .ok (.ireturn, 1) := by decide +kernel
theorem dL_board_27 : decode cL_board 27 = .ok (.astore 5, 2) := by decide +kernel
theorem dL_board_29 : decode cL_board 29 = .ok (.iconst 4, 1) := by decide +kernel
theorem dL_board_30 : decode cL_board 30 = .ok (.ireturn, 1) := by decide +kernel
theorem dL_board_31 : decode cL_board 31 = .ok (.iconst 0, 1) := by decide +kernel
theorem dL_board_32 : decode cL_board 32 = .ok (.ireturn, 1) := by decide +kernel
theorem dL_leave_0 : decode cL_leave 0 = .ok (.aload_n 2, 1) := by decide +kernel
theorem dL_leave_1 : decode cL_leave 1 = .ok (.iconst 0, 1) := by decide +kernel
theorem dL_leave_2 : decode cL_leave 2 = .ok (.aload_n 0, 1) := by decide +kernel
theorem dL_leave_3 : decode cL_leave 3 = .ok (.iload_n 1, 1) := by decide +kernel
theorem dL_leave_4 : decode cL_leave 4 = .ok (.invokevirtual 52, 3) := by decide +kernel
theorem dL_leave_7 : decode cL_leave 7 = .ok (.i2l, 1) := by decide +kernel
theorem dL_leave_8 : decode cL_leave 8 = .ok (.lastore, 1) := by decide +kernel
theorem dL_leave_9 : decode cL_leave 9 = .ok (.goto 9, 3) := by decide +kernel
theorem dL_leave_12 : decode cL_leave 12 = .ok (.astore_n 3, 1) := by decide +kernel
theorem dL_leave_13 : decode cL_leave 13 = .ok (.iconst 1, 1) := by decide +kernel
theorem dL_leave_14 : decode cL_leave 14 = .ok (.ireturn, 1) := by decide +kernel
theorem dL_leave_15 : decode cL_leave 15 = .ok (.astore_n 3, 1) := by decide +kernel
theorem dL_leave_16 : decode cL_leave 16 = .ok (.iconst 2, 1) := by decide +kernel
theorem dL_leave_17 : decode cL_leave 17 = .ok (.ireturn, 1) := by decide +kernel
theorem dL_leave_18 : decode cL_leave 18 = .ok (.iconst 0, 1) := by decide +kernel
theorem dL_leave_19 : decode cL_leave 19 = .ok (.ireturn, 1) := by decide +kernel
theorem dL_jump_0 : decode cL_jump 0 = .ok (.aload_n 3, 1) := by decide +kernel
theorem dL_jump_1 : decode cL_jump 1 = .ok (.iconst 0, 1) := by decide +kernel
theorem dL_jump_2 : decode cL_jump 2 = .ok (.aload_n 0, 1) := by decide +kernel
theorem dL_jump_3 : decode cL_jump 3 = .ok (.iload_n 1, 1) := by decide +kernel
theorem dL_jump_4 : decode cL_jump 4 = .ok (.iload_n 2, 1) := by decide +kernel
theorem dL_jump_5 : decode cL_jump 5 = .ok (.invokevirtual 55, 3) := by decide +kernel
theorem dL_jump_8 : decode cL_jump 8 = .ok (.i2l, 1) := by decide +kernel
theorem dL_jump_9 : decode cL_jump 9 = .ok (.lastore, 1) := by decide +kernel
theorem dL_jump_10 : decode cL_jump 10 = .ok (.goto 11, 3) := by decide +kernel
theorem dL_jump_13 : decode cL_jump 13 = .ok (.astore 4, 2) := by decide +kernel
theorem dL_jump_15 : decode cL_jump 15 = .ok (.iconst 1, 1) := by decide +kernel
theorem dL_jump_16 : decode cL_jump 16 = .ok (.ireturn, 1) := by decide +kernel
theorem dL_jump_17 : decode cL_jump 17 = .ok (.astore 4, 2) := by decide +kernel
theorem dL_jump_19 : decode cL_jump 19 = .ok (.iconst 2, 1) := by decide +kernel
theorem dL_jump_20 : decode cL_jump 20 = .ok (.ireturn, 1) := by decide +kernel
theorem dL_jump_21 : decode cL_jump 21 = .ok (.iconst 0, 1) := by decide +kernel
theorem dL_jump_22 : decode cL_jump 22 = .ok (.ireturn, 1) := by decide +kernel
theorem dL_find_0 : decode cL_find 0 = .ok (.aload_n 2, 1) := by decide +kernel
theorem dL_find_1 : decode cL_find 1 = .ok (.iconst 0, 1) := by decide +kernel
theorem dL_find_2 : decode cL_find 2 = .ok (.aload_n 0, 1) := by decide +kernel
theorem dL_find_3 : decode cL_find 3 = .ok (.iload_n 1, 1) := by decide +kernel
theorem dL_find_4 : decode cL_find 4 = .ok (.invokevirtual 58, 3) := by decide +kernel
theorem dL_find_7 : decode cL_find 7 = .ok (.i2l, 1) := by decide +kernel
theorem dL_find_8 : decode cL_find 8 = .ok (.lastore, 1) := by decide +kernel
theorem dL_find_9 : decode cL_find 9 = .ok (.goto 9, 3) := by decide +kernel
theorem dL_find_12 : decode cL_find 12 = .ok (.astore_n 3, 1) := by decide +kernel
theorem dL_find_13 : decode cL_find 13 = .ok (.iconst 1, 1) := by decide +kernel
theorem dL_find_14 : decode cL_find 14 = .ok (.ireturn, 1) := by decide +kernel
theorem dL_find_15 : decode cL_find 15 = .ok (.astore_n 3, 1) := by decide +kernel
theorem dL_find_16 : decode cL_find 16 = .ok (.iconst 2, 1) := by decide +kernel
theorem dL_find_17 : decode cL_find 17 = .ok (.ireturn, 1) := by decide +kernel
theorem dL_find_18 : decode cL_find 18 = .ok (.iconst 0, 1) := by decide +kernel
theorem dL_find_19 : decode cL_find 19 = .ok (.ireturn, 1) := by decide +kernel
theorem dL_widen_0 : decode cL_widen 0 = .ok (.aload_n 2, 1) := by decide +kernel
theorem dL_widen_1 : decode cL_widen 1 = .ok (.iconst 0, 1) := by decide +kernel
theorem dL_widen_2 : decode cL_widen 2 = .ok (.aload_n 0, 1) := by decide +kernel
theorem dL_widen_3 : decode cL_widen 3 = .ok (.iload_n 1, 1) := by decide +kernel
theorem dL_widen_4 : decode cL_widen 4 = .ok (.invokevirtual 61, 3) := by decide +kernel
theorem dL_widen_7 : decode cL_widen 7 = .ok (.i2l, 1) := by decide +kernel
theorem dL_widen_8 : decode cL_widen 8 = .ok (.lastore, 1) := by decide +kernel
theorem dL_widen_9 : decode cL_widen 9 = .ok (.goto 9, 3) := by decide +kernel
theorem dL_widen_12 : decode cL_widen 12 = .ok (.astore_n 3, 1) := by decide +kernel
theorem dL_widen_13 : decode cL_widen 13 = .ok (.iconst 1, 1) := by decide +kernel
theorem dL_widen_14 : decode cL_widen 14 = .ok (.ireturn, 1) := by decide +kernel
theorem dL_widen_15 : decode cL_widen 15 = .ok (.astore_n 3, 1) := by decide +kernel
theorem dL_widen_16 : decode cL_widen 16 = .ok (.iconst 2, 1) := by decide +kernel
theorem dL_widen_17 : decode cL_widen 17 = .ok (.ireturn, 1) := by decide +kernel
theorem dL_widen_18 : decode cL_widen 18 = .ok (.iconst 0, 1) := by decide +kernel
theorem dL_widen_19 : decode cL_widen 19 = .ok (.ireturn, 1) := by decide +kernel
theorem dL_tellCause_0 : decode cL_tellCause 0 = .ok (.aload_n 3, 1) := by decide +kernel
theorem dL_tellCause_1 : decode cL_tellCause 1 = .ok (.iconst 0, 1) := by decide +kernel
theorem dL_tellCause_2 : decode cL_tellCause 2 = .ok (.aload_n 0, 1) := by decide +kernel
theorem dL_tellCause_3 : decode cL_tellCause 3 = .ok (.iload_n 1, 1) := by decide +kernel
theorem dL_tellCause_4 : decode cL_tellCause 4 = .ok (.iload_n 2, 1) := by decide +kernel
theorem dL_tellCause_5 : decode cL_tellCause 5 = .ok (.invokevirtual 64, 3) := by decide +kernel
theorem dL_tellCause_8 : decode cL_tellCause 8 = .ok (.i2l, 1) := by decide +kernel
theorem dL_tellCause_9 : decode cL_tellCause 9 = .ok (.lastore, 1) := by decide +kernel
theorem dL_tellCause_10 : decode cL_tellCause 10 = .ok (.goto 15, 3) := by decide +kernel
theorem dL_tellCause_13 : decode cL_tellCause 13 = .ok (.astore 4, 2) := by decide +kernel
theorem dL_tellCause_15 : decode cL_tellCause 15 = .ok (.iconst 1, 1) := by decide +kernel
theorem dL_tellCause_16 : decode cL_tellCause 16 = .ok (.ireturn, 1) := by decide +kernel
theorem dL_tellCause_17 : decode cL_tellCause 17 = .ok (.astore 4, 2) := by decide +kernel
theorem dL_tellCause_19 : decode cL_tellCause 19 = .ok (.iconst 2, 1) := by decide +kernel
theorem dL_tellCause_20 : decode cL_tellCause 20 = .ok (.ireturn, 1) := by decide +kernel
theorem dL_tellCause_21 : decode cL_tellCause 21 = .ok (.astore 4, 2) := by decide +kernel
theorem dL_tellCause_23 : decode cL_tellCause 23 = .ok (.iconst 3, 1) := by decide +kernel
theorem dL_tellCause_24 : decode cL_tellCause 24 = .ok (.ireturn, 1) := by decide +kernel
theorem dL_tellCause_25 : decode cL_tellCause 25 = .ok (.iconst 0, 1) := by decide +kernel
theorem dL_tellCause_26 : decode cL_tellCause 26 = .ok (.ireturn, 1) := by decide +kernel
theorem dL_close_0 : decode cL_close 0 = .ok (.aload_n 2, 1) := by decide +kernel
theorem dL_close_1 : decode cL_close 1 = .ok (.iconst 0, 1) := by decide +kernel
theorem dL_close_2 : decode cL_close 2 = .ok (.aload_n 0, 1) := by decide +kernel
theorem dL_close_3 : decode cL_close 3 = .ok (.iload_n 1, 1) := by decide +kernel
theorem dL_close_4 : decode cL_close 4 = .ok (.invokevirtual 68, 3) := by decide +kernel
theorem dL_close_7 : decode cL_close 7 = .ok (.ifCond .eq 7, 3) := by decide +kernel
theorem dL_close_10 : decode cL_close 10 = .ok (.lconst 1, 1) := by decide +kernel
theorem dL_close_11 : decode cL_close 11 = .ok (.goto 4, 3) := by decide +kernel
theorem dL_close_14 : decode cL_close 14 = .ok (.lconst 0, 1) := by decide +kernel
theorem dL_close_15 : decode cL_close 15 = .ok (.lastore, 1) := by decide +kernel
theorem dL_close_16 : decode cL_close 16 = .ok (.goto 6, 3) := by decide +kernel
theorem dL_close_19 : decode cL_close 19 = .ok (.astore_n 3, 1) := by decide +kernel
theorem dL_close_20 : decode cL_close 20 = .ok (.iconst 1, 1) := by decide +kernel
theorem dL_close_21 : decode cL_close 21 = .ok (.ireturn, 1) := by decide +kernel
theorem dL_close_22 : decode cL_close 22 = .ok (.iconst 0, 1) := by decide +kernel
theorem dL_close_23 : decode cL_close 23 = .ok (.ireturn, 1) := by decide +kernel
theorem dL_grounds_0 : decode cL_grounds 0 = .ok (.aload_n 2, 1) := by decide +kernel
theorem dL_grounds_1 : decode cL_grounds 1 = .ok (.iconst 0, 1) := by decide +kernel
theorem dL_grounds_2 : decode cL_grounds 2 = .ok (.aload_n 0, 1) := by decide +kernel
theorem dL_grounds_3 : decode cL_grounds 3 = .ok (.iload_n 1, 1) := by decide +kernel
theorem dL_grounds_4 : decode cL_grounds 4 = .ok (.invokevirtual 72, 3) := by decide +kernel
theorem dL_grounds_7 : decode cL_grounds 7 = .ok (.i2l, 1) := by decide +kernel
theorem dL_grounds_8 : decode cL_grounds 8 = .ok (.lastore, 1) := by decide +kernel
theorem dL_grounds_9 : decode cL_grounds 9 = .ok (.goto 6, 3) := by decide +kernel
theorem dL_grounds_12 : decode cL_grounds 12 = .ok (.astore_n 3, 1) := by decide +kernel
theorem dL_grounds_13 : decode cL_grounds 13 = .ok (.iconst 1, 1) := by decide +kernel
theorem dL_grounds_14 : decode cL_grounds 14 = .ok (.ireturn, 1) := by decide +kernel
theorem dL_grounds_15 : decode cL_grounds 15 = .ok (.iconst 0, 1) := by decide +kernel
theorem dL_grounds_16 : decode cL_grounds 16 = .ok (.ireturn, 1) := by decide +kernel
theorem dL_repair_0 : decode cL_repair 0 = .ok (.aload_n 3, 1) := by decide +kernel
theorem dL_repair_1 : decode cL_repair 1 = .ok (.iconst 0, 1) := by decide +kernel
theorem dL_repair_2 : decode cL_repair 2 = .ok (.aload_n 0, 1) := by decide +kernel
theorem dL_repair_3 : decode cL_repair 3 = .ok (.iload_n 1, 1) := by decide +kernel
theorem dL_repair_4 : decode cL_repair 4 = .ok (.iload_n 2, 1) := by decide +kernel
theorem dL_repair_5 : decode cL_repair 5 = .ok (.invokevirtual 75, 3) := by decide +kernel
theorem dL_repair_8 : decode cL_repair 8 = .ok (.i2l, 1) := by decide +kernel
theorem dL_repair_9 : decode cL_repair 9 = .ok (.lastore, 1) := by decide +kernel
theorem dL_repair_10 : decode cL_repair 10 = .ok (.goto 15, 3) := by decide +kernel
theorem dL_repair_13 : decode cL_repair 13 = .ok (.astore 4, 2) := by decide +kernel
theorem dL_repair_15 : decode cL_repair 15 = .ok (.iconst 1, 1) := by decide +kernel
theorem dL_repair_16 : decode cL_repair 16 = .ok (.ireturn, 1) := by decide +kernel
theorem dL_repair_17 : decode cL_repair 17 = .ok (.astore 4, 2) := by decide +kernel
theorem dL_repair_19 : decode cL_repair 19 = .ok (.iconst 2, 1) := by decide +kernel
theorem dL_repair_20 : decode cL_repair 20 = .ok (.ireturn, 1) := by decide +kernel
theorem dL_repair_21 : decode cL_repair 21 = .ok (.astore 4, 2) := by decide +kernel
theorem dL_repair_23 : decode cL_repair 23 = .ok (.iconst 3, 1) := by decide +kernel
theorem dL_repair_24 : decode cL_repair 24 = .ok (.ireturn, 1) := by decide +kernel
theorem dL_repair_25 : decode cL_repair 25 = .ok (.iconst 0, 1) := by decide +kernel
theorem dL_repair_26 : decode cL_repair 26 = .ok (.ireturn, 1) := by decide +kernel
theorem dL_drop_0 : decode cL_drop 0 = .ok (.aload_n 3, 1) := by decide +kernel
theorem dL_drop_1 : decode cL_drop 1 = .ok (.iconst 0, 1) := by decide +kernel
theorem dL_drop_2 : decode cL_drop 2 = .ok (.aload_n 0, 1) := by decide +kernel
theorem dL_drop_3 : decode cL_drop 3 = .ok (.iload_n 1, 1) := by decide +kernel
theorem dL_drop_4 : decode cL_drop 4 = .ok (.iload_n 2, 1) := by decide +kernel
theorem dL_drop_5 : decode cL_drop 5 = .ok (.invokevirtual 78, 3) := by decide +kernel
theorem dL_drop_8 : decode cL_drop 8 = .ok (.i2l, 1) := by decide +kernel
theorem dL_drop_9 : decode cL_drop 9 = .ok (.lastore, 1) := by decide +kernel
theorem dL_drop_10 : decode cL_drop 10 = .ok (.goto 11, 3) := by decide +kernel
theorem dL_drop_13 : decode cL_drop 13 = .ok (.astore 4, 2) := by decide +kernel
theorem dL_drop_15 : decode cL_drop 15 = .ok (.iconst 1, 1) := by decide +kernel
theorem dL_drop_16 : decode cL_drop 16 = .ok (.ireturn, 1) := by decide +kernel
theorem dL_drop_17 : decode cL_drop 17 = .ok (.astore 4, 2) := by decide +kernel
theorem dL_drop_19 : decode cL_drop 19 = .ok (.iconst 2, 1) := by decide +kernel
theorem dL_drop_20 : decode cL_drop 20 = .ok (.ireturn, 1) := by decide +kernel
theorem dL_drop_21 : decode cL_drop 21 = .ok (.iconst 0, 1) := by decide +kernel
theorem dL_drop_22 : decode cL_drop 22 = .ok (.ireturn, 1) := by decide +kernel
theorem dL_hire_0 : decode cL_hire 0 = .ok (.aload 4, 2) := by decide +kernel
theorem dL_hire_2 : decode cL_hire 2 = .ok (.iconst 0, 1) := by decide +kernel
theorem dL_hire_3 : decode cL_hire 3 = .ok (.aload_n 0, 1) := by decide +kernel
theorem dL_hire_4 : decode cL_hire 4 = .ok (.iload_n 1, 1) := by decide +kernel
theorem dL_hire_5 : decode cL_hire 5 = .ok (.iload_n 2, 1) := by decide +kernel
theorem dL_hire_6 : decode cL_hire 6 = .ok (.iload_n 3, 1) := by decide +kernel
theorem dL_hire_7 : decode cL_hire 7 = .ok (.invokevirtual 82, 3) := by decide +kernel
theorem dL_hire_10 : decode cL_hire 10 = .ok (.i2l, 1) := by decide +kernel
theorem dL_hire_11 : decode cL_hire 11 = .ok (.lastore, 1) := by decide +kernel
theorem dL_hire_12 : decode cL_hire 12 = .ok (.goto 15, 3) := by decide +kernel
theorem dL_hire_15 : decode cL_hire 15 = .ok (.astore 5, 2) := by decide +kernel
theorem dL_hire_17 : decode cL_hire 17 = .ok (.iconst 1, 1) := by decide +kernel
theorem dL_hire_18 : decode cL_hire 18 = .ok (.ireturn, 1) := by decide +kernel
theorem dL_hire_19 : decode cL_hire 19 = .ok (.astore 5, 2) := by decide +kernel
theorem dL_hire_21 : decode cL_hire 21 = .ok (.iconst 2, 1) := by decide +kernel
theorem dL_hire_22 : decode cL_hire 22 = .ok (.ireturn, 1) := by decide +kernel
theorem dL_hire_23 : decode cL_hire 23 = .ok (.astore 5, 2) := by decide +kernel
theorem dL_hire_25 : decode cL_hire 25 = .ok (.iconst 3, 1) := by decide +kernel
theorem dL_hire_26 : decode cL_hire 26 = .ok (.ireturn, 1) := by decide +kernel
theorem dL_hire_27 : decode cL_hire 27 = .ok (.iconst 0, 1) := by decide +kernel
theorem dL_hire_28 : decode cL_hire 28 = .ok (.ireturn, 1) := by decide +kernel
theorem dL_back_0 : decode cL_back 0 = .ok (.aload 4, 2) := by decide +kernel
theorem dL_back_2 : decode cL_back 2 = .ok (.iconst 0, 1) := by decide +kernel
theorem dL_back_3 : decode cL_back 3 = .ok (.aload_n 0, 1) := by decide +kernel
theorem dL_back_4 : decode cL_back 4 = .ok (.iload_n 1, 1) := by decide +kernel
theorem dL_back_5 : decode cL_back 5 = .ok (.iload_n 2, 1) := by decide +kernel
theorem dL_back_6 : decode cL_back 6 = .ok (.iload_n 3, 1) := by decide +kernel
theorem dL_back_7 : decode cL_back 7 = .ok (.invokevirtual 85, 3) := by decide +kernel
theorem dL_back_10 : decode cL_back 10 = .ok (.i2l, 1) := by decide +kernel
theorem dL_back_11 : decode cL_back 11 = .ok (.lastore, 1) := by decide +kernel
theorem dL_back_12 : decode cL_back 12 = .ok (.goto 11, 3) := by decide +kernel
theorem dL_back_15 : decode cL_back 15 = .ok (.astore 5, 2) := by decide +kernel
theorem dL_back_17 : decode cL_back 17 = .ok (.iconst 1, 1) := by decide +kernel
theorem dL_back_18 : decode cL_back 18 = .ok (.ireturn, 1) := by decide +kernel
theorem dL_back_19 : decode cL_back 19 = .ok (.astore 5, 2) := by decide +kernel
theorem dL_back_21 : decode cL_back 21 = .ok (.iconst 2, 1) := by decide +kernel
theorem dL_back_22 : decode cL_back 22 = .ok (.ireturn, 1) := by decide +kernel
theorem dL_back_23 : decode cL_back 23 = .ok (.iconst 0, 1) := by decide +kernel
theorem dL_back_24 : decode cL_back 24 = .ok (.ireturn, 1) := by decide +kernel
theorem dL_stateOf_0 : decode cL_stateOf 0 = .ok (.aload_n 2, 1) := by decide +kernel
theorem dL_stateOf_1 : decode cL_stateOf 1 = .ok (.iconst 0, 1) := by decide +kernel
theorem dL_stateOf_2 : decode cL_stateOf 2 = .ok (.aload_n 0, 1) := by decide +kernel
theorem dL_stateOf_3 : decode cL_stateOf 3 = .ok (.iload_n 1, 1) := by decide +kernel
theorem dL_stateOf_4 : decode cL_stateOf 4 = .ok (.invokevirtual 89, 3) := by decide +kernel
theorem dL_stateOf_7 : decode cL_stateOf 7 = .ok (.i2l, 1) := by decide +kernel
theorem dL_stateOf_8 : decode cL_stateOf 8 = .ok (.lastore, 1) := by decide +kernel
theorem dL_stateOf_9 : decode cL_stateOf 9 = .ok (.goto 6, 3) := by decide +kernel
theorem dL_stateOf_12 : decode cL_stateOf 12 = .ok (.astore_n 3, 1) := by decide +kernel
theorem dL_stateOf_13 : decode cL_stateOf 13 = .ok (.iconst 1, 1) := by decide +kernel
theorem dL_stateOf_14 : decode cL_stateOf 14 = .ok (.ireturn, 1) := by decide +kernel
theorem dL_stateOf_15 : decode cL_stateOf 15 = .ok (.iconst 0, 1) := by decide +kernel
theorem dL_stateOf_16 : decode cL_stateOf 16 = .ok (.ireturn, 1) := by decide +kernel
theorem dL_isGrounded_0 : decode cL_isGrounded 0 = .ok (.aload_n 2, 1) := by decide +kernel
theorem dL_isGrounded_1 : decode cL_isGrounded 1 = .ok (.iconst 0, 1) := by decide +kernel
theorem dL_isGrounded_2 : decode cL_isGrounded 2 = .ok (.aload_n 0, 1) := by decide +kernel
theorem dL_isGrounded_3 : decode cL_isGrounded 3 = .ok (.iload_n 1, 1) := by decide +kernel
theorem dL_isGrounded_4 : decode cL_isGrounded 4 = .ok (.invokevirtual 93, 3) := by decide +kernel
theorem dL_isGrounded_7 : decode cL_isGrounded 7 = .ok (.ifCond .eq 7, 3) := by decide +kernel
theorem dL_isGrounded_10 : decode cL_isGrounded 10 = .ok (.lconst 1, 1) := by decide +kernel
theorem dL_isGrounded_11 : decode cL_isGrounded 11 = .ok (.goto 4, 3) := by decide +kernel
theorem dL_isGrounded_14 : decode cL_isGrounded 14 = .ok (.lconst 0, 1) := by decide +kernel
theorem dL_isGrounded_15 : decode cL_isGrounded 15 = .ok (.lastore, 1) := by decide +kernel
theorem dL_isGrounded_16 : decode cL_isGrounded 16 = .ok (.goto 6, 3) := by decide +kernel
theorem dL_isGrounded_19 : decode cL_isGrounded 19 = .ok (.astore_n 3, 1) := by decide +kernel
theorem dL_isGrounded_20 : decode cL_isGrounded 20 = .ok (.iconst 1, 1) := by decide +kernel
theorem dL_isGrounded_21 : decode cL_isGrounded 21 = .ok (.ireturn, 1) := by decide +kernel
theorem dL_isGrounded_22 : decode cL_isGrounded 22 = .ok (.iconst 0, 1) := by decide +kernel
theorem dL_isGrounded_23 : decode cL_isGrounded 23 = .ok (.ireturn, 1) := by decide +kernel
theorem dL_isOut_0 : decode cL_isOut 0 = .ok (.aload_n 2, 1) := by decide +kernel
theorem dL_isOut_1 : decode cL_isOut 1 = .ok (.iconst 0, 1) := by decide +kernel
theorem dL_isOut_2 : decode cL_isOut 2 = .ok (.aload_n 0, 1) := by decide +kernel
theorem dL_isOut_3 : decode cL_isOut 3 = .ok (.iload_n 1, 1) := by decide +kernel
theorem dL_isOut_4 : decode cL_isOut 4 = .ok (.invokevirtual 96, 3) := by decide +kernel
theorem dL_isOut_7 : decode cL_isOut 7 = .ok (.ifCond .eq 7, 3) := by decide +kernel
theorem dL_isOut_10 : decode cL_isOut 10 = .ok (.lconst 1, 1) := by decide +kernel
theorem dL_isOut_11 : decode cL_isOut 11 = .ok (.goto 4, 3) := by decide +kernel
theorem dL_isOut_14 : decode cL_isOut 14 = .ok (.lconst 0, 1) := by decide +kernel
theorem dL_isOut_15 : decode cL_isOut 15 = .ok (.lastore, 1) := by decide +kernel
theorem dL_isOut_16 : decode cL_isOut 16 = .ok (.goto 6, 3) := by decide +kernel
theorem dL_isOut_19 : decode cL_isOut 19 = .ok (.astore_n 3, 1) := by decide +kernel
theorem dL_isOut_20 : decode cL_isOut 20 = .ok (.iconst 1, 1) := by decide +kernel
theorem dL_isOut_21 : decode cL_isOut 21 = .ok (.ireturn, 1) := by decide +kernel
theorem dL_isOut_22 : decode cL_isOut 22 = .ok (.iconst 0, 1) := by decide +kernel
theorem dL_isOut_23 : decode cL_isOut 23 = .ok (.ireturn, 1) := by decide +kernel
theorem dL_packings_0 : decode cL_packings 0 = .ok (.aload_n 2, 1) := by decide +kernel
theorem dL_packings_1 : decode cL_packings 1 = .ok (.iconst 0, 1) := by decide +kernel
theorem dL_packings_2 : decode cL_packings 2 = .ok (.aload_n 0, 1) := by decide +kernel
theorem dL_packings_3 : decode cL_packings 3 = .ok (.iload_n 1, 1) := by decide +kernel
theorem dL_packings_4 : decode cL_packings 4 = .ok (.invokevirtual 99, 3) := by decide +kernel
theorem dL_packings_7 : decode cL_packings 7 = .ok (.i2l, 1) := by decide +kernel
theorem dL_packings_8 : decode cL_packings 8 = .ok (.lastore, 1) := by decide +kernel
theorem dL_packings_9 : decode cL_packings 9 = .ok (.goto 6, 3) := by decide +kernel
theorem dL_packings_12 : decode cL_packings 12 = .ok (.astore_n 3, 1) := by decide +kernel
theorem dL_packings_13 : decode cL_packings 13 = .ok (.iconst 1, 1) := by decide +kernel
theorem dL_packings_14 : decode cL_packings 14 = .ok (.ireturn, 1) := by decide +kernel
theorem dL_packings_15 : decode cL_packings 15 = .ok (.iconst 0, 1) := by decide +kernel
theorem dL_packings_16 : decode cL_packings 16 = .ok (.ireturn, 1) := by decide +kernel
theorem dL_packingOf_0 : decode cL_packingOf 0 = .ok (.aload 4, 2) := by decide +kernel
theorem dL_packingOf_2 : decode cL_packingOf 2 = .ok (.iconst 0, 1) := by decide +kernel
theorem dL_packingOf_3 : decode cL_packingOf 3 = .ok (.aload_n 0, 1) := by decide +kernel
theorem dL_packingOf_4 : decode cL_packingOf 4 = .ok (.iload_n 1, 1) := by decide +kernel
theorem dL_packingOf_5 : decode cL_packingOf 5 = .ok (.iload_n 2, 1) := by decide +kernel
theorem dL_packingOf_6 : decode cL_packingOf 6 = .ok (.iload_n 3, 1) := by decide +kernel
theorem dL_packingOf_7 : decode cL_packingOf 7 = .ok (.invokevirtual 102, 3) := by decide +kernel
theorem dL_packingOf_10 : decode cL_packingOf 10 = .ok (.i2l, 1) := by decide +kernel
theorem dL_packingOf_11 : decode cL_packingOf 11 = .ok (.lastore, 1) := by decide +kernel
theorem dL_packingOf_12 : decode cL_packingOf 12 = .ok (.goto 11, 3) := by decide +kernel
theorem dL_packingOf_15 : decode cL_packingOf 15 = .ok (.astore 5, 2) := by decide +kernel
theorem dL_packingOf_17 : decode cL_packingOf 17 = .ok (.iconst 1, 1) := by decide +kernel
theorem dL_packingOf_18 : decode cL_packingOf 18 = .ok (.ireturn, 1) := by decide +kernel
theorem dL_packingOf_19 : decode cL_packingOf 19 = .ok (.astore 5, 2) := by decide +kernel
theorem dL_packingOf_21 : decode cL_packingOf 21 = .ok (.iconst 2, 1) := by decide +kernel
theorem dL_packingOf_22 : decode cL_packingOf 22 = .ok (.ireturn, 1) := by decide +kernel
theorem dL_packingOf_23 : decode cL_packingOf 23 = .ok (.iconst 0, 1) := by decide +kernel
theorem dL_packingOf_24 : decode cL_packingOf 24 = .ok (.ireturn, 1) := by decide +kernel
theorem dL_jumps_0 : decode cL_jumps 0 = .ok (.aload_n 2, 1) := by decide +kernel
theorem dL_jumps_1 : decode cL_jumps 1 = .ok (.iconst 0, 1) := by decide +kernel
theorem dL_jumps_2 : decode cL_jumps 2 = .ok (.aload_n 0, 1) := by decide +kernel
theorem dL_jumps_3 : decode cL_jumps 3 = .ok (.iload_n 1, 1) := by decide +kernel
theorem dL_jumps_4 : decode cL_jumps 4 = .ok (.invokevirtual 106, 3) := by decide +kernel
theorem dL_jumps_7 : decode cL_jumps 7 = .ok (.i2l, 1) := by decide +kernel
theorem dL_jumps_8 : decode cL_jumps 8 = .ok (.lastore, 1) := by decide +kernel
theorem dL_jumps_9 : decode cL_jumps 9 = .ok (.goto 6, 3) := by decide +kernel
theorem dL_jumps_12 : decode cL_jumps 12 = .ok (.astore_n 3, 1) := by decide +kernel
theorem dL_jumps_13 : decode cL_jumps 13 = .ok (.iconst 1, 1) := by decide +kernel
theorem dL_jumps_14 : decode cL_jumps 14 = .ok (.ireturn, 1) := by decide +kernel
theorem dL_jumps_15 : decode cL_jumps 15 = .ok (.iconst 0, 1) := by decide +kernel
theorem dL_jumps_16 : decode cL_jumps 16 = .ok (.ireturn, 1) := by decide +kernel
theorem dL_sharers_0 : decode cL_sharers 0 = .ok (.aload_n 2, 1) := by decide +kernel
theorem dL_sharers_1 : decode cL_sharers 1 = .ok (.iconst 0, 1) := by decide +kernel
theorem dL_sharers_2 : decode cL_sharers 2 = .ok (.aload_n 0, 1) := by decide +kernel
theorem dL_sharers_3 : decode cL_sharers 3 = .ok (.iload_n 1, 1) := by decide +kernel
theorem dL_sharers_4 : decode cL_sharers 4 = .ok (.invokevirtual 109, 3) := by decide +kernel
theorem dL_sharers_7 : decode cL_sharers 7 = .ok (.i2l, 1) := by decide +kernel
theorem dL_sharers_8 : decode cL_sharers 8 = .ok (.lastore, 1) := by decide +kernel
theorem dL_sharers_9 : decode cL_sharers 9 = .ok (.goto 6, 3) := by decide +kernel
theorem dL_sharers_12 : decode cL_sharers 12 = .ok (.astore_n 3, 1) := by decide +kernel
theorem dL_sharers_13 : decode cL_sharers 13 = .ok (.iconst 1, 1) := by decide +kernel
theorem dL_sharers_14 : decode cL_sharers 14 = .ok (.ireturn, 1) := by decide +kernel
theorem dL_sharers_15 : decode cL_sharers 15 = .ok (.iconst 0, 1) := by decide +kernel
theorem dL_sharers_16 : decode cL_sharers 16 = .ok (.ireturn, 1) := by decide +kernel
theorem dL_next_0 : decode cL_next 0 = .ok (.aload_n 1, 1) := by decide +kernel
theorem dL_next_1 : decode cL_next 1 = .ok (.iconst 0, 1) := by decide +kernel
theorem dL_next_2 : decode cL_next 2 = .ok (.aload_n 0, 1) := by decide +kernel
theorem dL_next_3 : decode cL_next 3 = .ok (.invokevirtual 112, 3) := by decide +kernel
theorem dL_next_6 : decode cL_next 6 = .ok (.i2l, 1) := by decide +kernel
theorem dL_next_7 : decode cL_next 7 = .ok (.lastore, 1) := by decide +kernel
theorem dL_next_8 : decode cL_next 8 = .ok (.goto 6, 3) := by decide +kernel
theorem dL_next_11 : decode cL_next 11 = .ok (.astore_n 2, 1) := by decide +kernel
theorem dL_next_12 : decode cL_next 12 = .ok (.iconst 1, 1) := by decide +kernel
theorem dL_next_13 : decode cL_next 13 = .ok (.ireturn, 1) := by decide +kernel
theorem dL_next_14 : decode cL_next 14 = .ok (.iconst 0, 1) := by decide +kernel
theorem dL_next_15 : decode cL_next 15 = .ok (.ireturn, 1) := by decide +kernel
theorem dL_groundedShare_0 : decode cL_groundedShare 0 = .ok (.aload_n 1, 1) := by decide +kernel
theorem dL_groundedShare_1 : decode cL_groundedShare 1 = .ok (.iconst 0, 1) := by decide +kernel
theorem dL_groundedShare_2 : decode cL_groundedShare 2 = .ok (.aload_n 0, 1) := by decide +kernel
theorem dL_groundedShare_3 : decode cL_groundedShare 3 = .ok (.invokevirtual 117, 3) := by decide +kernel
theorem dL_groundedShare_6 : decode cL_groundedShare 6 = .ok (.f2d, 1) := by decide +kernel
theorem dL_groundedShare_7 : decode cL_groundedShare 7 = .ok (.dastore, 1) := by decide +kernel
theorem dL_groundedShare_8 : decode cL_groundedShare 8 = .ok (.goto 6, 3) := by decide +kernel
theorem dL_groundedShare_11 : decode cL_groundedShare 11 = .ok (.astore_n 2, 1) := by decide +kernel
theorem dL_groundedShare_12 : decode cL_groundedShare 12 = .ok (.iconst 1, 1) := by decide +kernel
theorem dL_groundedShare_13 : decode cL_groundedShare 13 = .ok (.ireturn, 1) := by decide +kernel
theorem dL_groundedShare_14 : decode cL_groundedShare 14 = .ok (.iconst 0, 1) := by decide +kernel
theorem dL_groundedShare_15 : decode cL_groundedShare 15 = .ok (.ireturn, 1) := by decide +kernel
theorem dL_meanDrops_0 : decode cL_meanDrops 0 = .ok (.aload_n 1, 1) := by decide +kernel
theorem dL_meanDrops_1 : decode cL_meanDrops 1 = .ok (.iconst 0, 1) := by decide +kernel
theorem dL_meanDrops_2 : decode cL_meanDrops 2 = .ok (.aload_n 0, 1) := by decide +kernel
theorem dL_meanDrops_3 : decode cL_meanDrops 3 = .ok (.invokevirtual 123, 3) := by decide +kernel
theorem dL_meanDrops_6 : decode cL_meanDrops 6 = .ok (.dastore, 1) := by decide +kernel
theorem dL_meanDrops_7 : decode cL_meanDrops 7 = .ok (.goto 6, 3) := by decide +kernel
theorem dL_meanDrops_10 : decode cL_meanDrops 10 = .ok (.astore_n 2, 1) := by decide +kernel
theorem dL_meanDrops_11 : decode cL_meanDrops 11 = .ok (.iconst 1, 1) := by decide +kernel
theorem dL_meanDrops_12 : decode cL_meanDrops 12 = .ok (.ireturn, 1) := by decide +kernel
theorem dL_meanDrops_13 : decode cL_meanDrops 13 = .ok (.iconst 0, 1) := by decide +kernel
theorem dL_meanDrops_14 : decode cL_meanDrops 14 = .ok (.ireturn, 1) := by decide +kernel
theorem dL_law_0 : decode cL_law 0 = .ok (.new 8, 3) := by decide +kernel
theorem dL_law_3 : decode cL_law 3 = .ok (.dup, 1) := by decide +kernel
theorem dL_law_4 : decode cL_law 4 = .ok (.invokespecial 127, 3) := by decide +kernel
theorem dL_law_7 : decode cL_law 7 = .ok (.astore_n 1, 1) := by decide +kernel
theorem dL_law_8 : decode cL_law 8 = .ok (.new 128, 3) := by decide +kernel
theorem dL_law_11 : decode cL_law 11 = .ok (.dup, 1) := by decide +kernel
theorem dL_law_12 : decode cL_law 12 = .ok (.invokespecial 130, 3) := by decide +kernel
theorem dL_law_15 : decode cL_law 15 = .ok (.astore_n 2, 1) := by decide +kernel
theorem dL_law_16 : decode cL_law 16 = .ok (.iconst 1, 1) := by decide +kernel
theorem dL_law_17 : decode cL_law 17 = .ok (.newarray .long, 2) := by decide +kernel
theorem dL_law_19 : decode cL_law 19 = .ok (.astore_n 3, 1) := by decide +kernel
theorem dL_law_20 : decode cL_law 20 = .ok (.iconst 1, 1) := by decide +kernel
theorem dL_law_21 : decode cL_law 21 = .ok (.newarray .double, 2) := by decide +kernel
theorem dL_law_23 : decode cL_law 23 = .ok (.astore 4, 2) := by decide +kernel
theorem dL_law_25 : decode cL_law 25 = .ok (.iconst 0, 1) := by decide +kernel
theorem dL_law_26 : decode cL_law 26 = .ok (.istore 5, 2) := by decide +kernel
theorem dL_law_28 : decode cL_law 28 = .ok (.iload 5, 2) := by decide +kernel
theorem dL_law_30 : decode cL_law 30 = .ok (.aload_n 0, 1) := by decide +kernel
theorem dL_law_31 : decode cL_law 31 = .ok (.arraylength, 1) := by decide +kernel
theorem dL_law_32 : decode cL_law 32 = .ok (.iconst 5, 1) := by decide +kernel
theorem dL_law_33 : decode cL_law 33 = .ok (.isub, 1) := by decide +kernel
theorem dL_law_34 : decode cL_law 34 = .ok (.if_icmp .gt 2255, 3) := by decide +kernel
theorem dL_law_37 : decode cL_law 37 = .ok (.aload_n 0, 1) := by decide +kernel
theorem dL_law_38 : decode cL_law 38 = .ok (.iload 5, 2) := by decide +kernel
theorem dL_law_40 : decode cL_law 40 = .ok (.iaload, 1) := by decide +kernel
theorem dL_law_41 : decode cL_law 41 = .ok (.bipush 63, 2) := by decide +kernel
theorem dL_law_43 : decode cL_law 43 = .ok (.iand, 1) := by decide +kernel
theorem dL_law_44 : decode cL_law 44 = .ok (.tableswitch 2239 0 33 #[152, 220, 300, 394, 450, 506, 574, 642, 698, 742, 822, 878, 946, 1002, 1058, 1128, 1191, 1247, 1315, 1399, 1479, 1591, 1647, 1710, 1773, 1829, 1911, 1967, 2023, 2067, 2081, 2095, 2161, 2226], 152) := by decide +kernel
theorem dL_law_196 : decode cL_law 196 = .ok (.aload_n 1, 1) := by decide +kernel
theorem dL_law_197 : decode cL_law 197 = .ok (.aload_n 0, 1) := by decide +kernel
theorem dL_law_198 : decode cL_law 198 = .ok (.iload 5, 2) := by decide +kernel
theorem dL_law_200 : decode cL_law 200 = .ok (.iconst 1, 1) := by decide +kernel
theorem dL_law_201 : decode cL_law 201 = .ok (.iadd, 1) := by decide +kernel
theorem dL_law_202 : decode cL_law 202 = .ok (.iaload, 1) := by decide +kernel
theorem dL_law_203 : decode cL_law 203 = .ok (.aload_n 0, 1) := by decide +kernel
theorem dL_law_204 : decode cL_law 204 = .ok (.iload 5, 2) := by decide +kernel
theorem dL_law_206 : decode cL_law 206 = .ok (.iconst 2, 1) := by decide +kernel
theorem dL_law_207 : decode cL_law 207 = .ok (.iadd, 1) := by decide +kernel
theorem dL_law_208 : decode cL_law 208 = .ok (.iaload, 1) := by decide +kernel
theorem dL_law_209 : decode cL_law 209 = .ok (.aload_n 3, 1) := by decide +kernel
theorem dL_law_210 : decode cL_law 210 = .ok (.invokestatic 131, 3) := by decide +kernel
theorem dL_law_213 : decode cL_law 213 = .ok (.istore 6, 2) := by decide +kernel
theorem dL_law_215 : decode cL_law 215 = .ok (.aload_n 2, 1) := by decide +kernel
theorem dL_law_216 : decode cL_law 216 = .ok (.aload_n 0, 1) := by decide +kernel
theorem dL_law_217 : decode cL_law 217 = .ok (.iload 5, 2) := by decide +kernel
theorem dL_law_219 : decode cL_law 219 = .ok (.iconst 1, 1) := by decide +kernel
theorem dL_law_220 : decode cL_law 220 = .ok (.iadd, 1) := by decide +kernel
theorem dL_law_221 : decode cL_law 221 = .ok (.iaload, 1) := by decide +kernel
theorem dL_law_222 : decode cL_law 222 = .ok (.aload_n 0, 1) := by decide +kernel
theorem dL_law_223 : decode cL_law 223 = .ok (.iload 5, 2) := by decide +kernel
theorem dL_law_225 : decode cL_law 225 = .ok (.iconst 2, 1) := by decide +kernel
theorem dL_law_226 : decode cL_law 226 = .ok (.iadd, 1) := by decide +kernel
theorem dL_law_227 : decode cL_law 227 = .ok (.iaload, 1) := by decide +kernel
theorem dL_law_228 : decode cL_law 228 = .ok (.invokevirtual 136, 3) := by decide +kernel
theorem dL_law_231 : decode cL_law 231 = .ok (.istore 7, 2) := by decide +kernel
theorem dL_law_233 : decode cL_law 233 = .ok (.aload_n 2, 1) := by decide +kernel
theorem dL_law_234 : decode cL_law 234 = .ok (.invokevirtual 137, 3) := by decide +kernel
theorem dL_law_237 : decode cL_law 237 = .ok (.iload 6, 2) := by decide +kernel
theorem dL_law_239 : decode cL_law 239 = .ok (.if_icmp .eq 5, 3) := by decide +kernel
theorem dL_law_242 : decode cL_law 242 = .ok (.iconst 0, 1) := by decide +kernel
theorem dL_law_243 : decode cL_law 243 = .ok (.ireturn, 1) := by decide +kernel
theorem dL_law_244 : decode cL_law 244 = .ok (.iload 6, 2) := by decide +kernel
theorem dL_law_246 : decode cL_law 246 = .ok (.ifCond .ne 15, 3) := by decide +kernel
theorem dL_law_249 : decode cL_law 249 = .ok (.aload_n 3, 1) := by decide +kernel
theorem dL_law_250 : decode cL_law 250 = .ok (.iconst 0, 1) := by decide +kernel
theorem dL_law_251 : decode cL_law 251 = .ok (.laload, 1) := by decide +kernel
theorem dL_law_252 : decode cL_law 252 = .ok (.iload 7, 2) := by decide +kernel
theorem dL_law_254 : decode cL_law 254 = .ok (.i2l, 1) := by decide +kernel
theorem dL_law_255 : decode cL_law 255 = .ok (.lcmp, 1) := by decide +kernel
theorem dL_law_256 : decode cL_law 256 = .ok (.ifCond .eq 5, 3) := by decide +kernel
theorem dL_law_259 : decode cL_law 259 = .ok (.iconst 0, 1) := by decide +kernel
theorem dL_law_260 : decode cL_law 260 = .ok (.ireturn, 1) := by decide +kernel
theorem dL_law_261 : decode cL_law 261 = .ok (.goto 2022, 3) := by decide +kernel
theorem dL_law_264 : decode cL_law 264 = .ok (.aload_n 1, 1) := by decide +kernel
theorem dL_law_265 : decode cL_law 265 = .ok (.aload_n 0, 1) := by decide +kernel
theorem dL_law_266 : decode cL_law 266 = .ok (.iload 5, 2) := by decide +kernel
theorem dL_law_268 : decode cL_law 268 = .ok (.iconst 1, 1) := by decide +kernel
theorem dL_law_269 : decode cL_law 269 = .ok (.iadd, 1) := by decide +kernel
theorem dL_law_270 : decode cL_law 270 = .ok (.iaload, 1) := by decide +kernel
theorem dL_law_271 : decode cL_law 271 = .ok (.aload_n 0, 1) := by decide +kernel
theorem dL_law_272 : decode cL_law 272 = .ok (.iload 5, 2) := by decide +kernel
theorem dL_law_274 : decode cL_law 274 = .ok (.iconst 2, 1) := by decide +kernel
theorem dL_law_275 : decode cL_law 275 = .ok (.iadd, 1) := by decide +kernel
theorem dL_law_276 : decode cL_law 276 = .ok (.iaload, 1) := by decide +kernel
theorem dL_law_277 : decode cL_law 277 = .ok (.aload_n 0, 1) := by decide +kernel
theorem dL_law_278 : decode cL_law 278 = .ok (.iload 5, 2) := by decide +kernel
theorem dL_law_280 : decode cL_law 280 = .ok (.iconst 3, 1) := by decide +kernel
theorem dL_law_281 : decode cL_law 281 = .ok (.iadd, 1) := by decide +kernel
theorem dL_law_282 : decode cL_law 282 = .ok (.iaload, 1) := by decide +kernel
theorem dL_law_283 : decode cL_law 283 = .ok (.aload_n 3, 1) := by decide +kernel
theorem dL_law_284 : decode cL_law 284 = .ok (.invokestatic 140, 3) := by decide +kernel
theorem dL_law_287 : decode cL_law 287 = .ok (.istore 6, 2) := by decide +kernel
theorem dL_law_289 : decode cL_law 289 = .ok (.aload_n 2, 1) := by decide +kernel
theorem dL_law_290 : decode cL_law 290 = .ok (.aload_n 0, 1) := by decide +kernel
theorem dL_law_291 : decode cL_law 291 = .ok (.iload 5, 2) := by decide +kernel
theorem dL_law_293 : decode cL_law 293 = .ok (.iconst 1, 1) := by decide +kernel
theorem dL_law_294 : decode cL_law 294 = .ok (.iadd, 1) := by decide +kernel
theorem dL_law_295 : decode cL_law 295 = .ok (.iaload, 1) := by decide +kernel
theorem dL_law_296 : decode cL_law 296 = .ok (.aload_n 0, 1) := by decide +kernel
theorem dL_law_297 : decode cL_law 297 = .ok (.iload 5, 2) := by decide +kernel
theorem dL_law_299 : decode cL_law 299 = .ok (.iconst 2, 1) := by decide +kernel
theorem dL_law_300 : decode cL_law 300 = .ok (.iadd, 1) := by decide +kernel
theorem dL_law_301 : decode cL_law 301 = .ok (.iaload, 1) := by decide +kernel
theorem dL_law_302 : decode cL_law 302 = .ok (.aload_n 0, 1) := by decide +kernel
theorem dL_law_303 : decode cL_law 303 = .ok (.iload 5, 2) := by decide +kernel
theorem dL_law_305 : decode cL_law 305 = .ok (.iconst 3, 1) := by decide +kernel
theorem dL_law_306 : decode cL_law 306 = .ok (.iadd, 1) := by decide +kernel
theorem dL_law_307 : decode cL_law 307 = .ok (.iaload, 1) := by decide +kernel
theorem dL_law_308 : decode cL_law 308 = .ok (.invokevirtual 143, 3) := by decide +kernel
theorem dL_law_311 : decode cL_law 311 = .ok (.istore 7, 2) := by decide +kernel
theorem dL_law_313 : decode cL_law 313 = .ok (.aload_n 2, 1) := by decide +kernel
theorem dL_law_314 : decode cL_law 314 = .ok (.invokevirtual 137, 3) := by decide +kernel
theorem dL_law_317 : decode cL_law 317 = .ok (.iload 6, 2) := by decide +kernel
theorem dL_law_319 : decode cL_law 319 = .ok (.if_icmp .eq 5, 3) := by decide +kernel
theorem dL_law_322 : decode cL_law 322 = .ok (.iconst 0, 1) := by decide +kernel
theorem dL_law_323 : decode cL_law 323 = .ok (.ireturn, 1) := by decide +kernel
theorem dL_law_324 : decode cL_law 324 = .ok (.iload 6, 2) := by decide +kernel
theorem dL_law_326 : decode cL_law 326 = .ok (.ifCond .ne 15, 3) := by decide +kernel
theorem dL_law_329 : decode cL_law 329 = .ok (.aload_n 3, 1) := by decide +kernel
theorem dL_law_330 : decode cL_law 330 = .ok (.iconst 0, 1) := by decide +kernel
theorem dL_law_331 : decode cL_law 331 = .ok (.laload, 1) := by decide +kernel
theorem dL_law_332 : decode cL_law 332 = .ok (.iload 7, 2) := by decide +kernel
theorem dL_law_334 : decode cL_law 334 = .ok (.i2l, 1) := by decide +kernel
theorem dL_law_335 : decode cL_law 335 = .ok (.lcmp, 1) := by decide +kernel
theorem dL_law_336 : decode cL_law 336 = .ok (.ifCond .eq 5, 3) := by decide +kernel
theorem dL_law_339 : decode cL_law 339 = .ok (.iconst 0, 1) := by decide +kernel
theorem dL_law_340 : decode cL_law 340 = .ok (.ireturn, 1) := by decide +kernel
theorem dL_law_341 : decode cL_law 341 = .ok (.goto 1942, 3) := by decide +kernel
theorem dL_law_344 : decode cL_law 344 = .ok (.aload_n 1, 1) := by decide +kernel
theorem dL_law_345 : decode cL_law 345 = .ok (.aload_n 0, 1) := by decide +kernel
theorem dL_law_346 : decode cL_law 346 = .ok (.iload 5, 2) := by decide +kernel
theorem dL_law_348 : decode cL_law 348 = .ok (.iconst 1, 1) := by decide +kernel
theorem dL_law_349 : decode cL_law 349 = .ok (.iadd, 1) := by decide +kernel
theorem dL_law_350 : decode cL_law 350 = .ok (.iaload, 1) := by decide +kernel
theorem dL_law_351 : decode cL_law 351 = .ok (.i2c, 1) := by decide +kernel
theorem dL_law_352 : decode cL_law 352 = .ok (.aload_n 0, 1) := by decide +kernel
theorem dL_law_353 : decode cL_law 353 = .ok (.iload 5, 2) := by decide +kernel
theorem dL_law_355 : decode cL_law 355 = .ok (.iconst 2, 1) := by decide +kernel
theorem dL_law_356 : decode cL_law 356 = .ok (.iadd, 1) := by decide +kernel
theorem dL_law_357 : decode cL_law 357 = .ok (.iaload, 1) := by decide +kernel
theorem dL_law_358 : decode cL_law 358 = .ok (.aload_n 0, 1) := by decide +kernel
theorem dL_law_359 : decode cL_law 359 = .ok (.iload 5, 2) := by decide +kernel
theorem dL_law_361 : decode cL_law 361 = .ok (.iconst 3, 1) := by decide +kernel
theorem dL_law_362 : decode cL_law 362 = .ok (.iadd, 1) := by decide +kernel
theorem dL_law_363 : decode cL_law 363 = .ok (.iaload, 1) := by decide +kernel
theorem dL_law_364 : decode cL_law 364 = .ok (.aload_n 0, 1) := by decide +kernel
theorem dL_law_365 : decode cL_law 365 = .ok (.iload 5, 2) := by decide +kernel
theorem dL_law_367 : decode cL_law 367 = .ok (.iconst 4, 1) := by decide +kernel
theorem dL_law_368 : decode cL_law 368 = .ok (.iadd, 1) := by decide +kernel
theorem dL_law_369 : decode cL_law 369 = .ok (.iaload, 1) := by decide +kernel
theorem dL_law_370 : decode cL_law 370 = .ok (.aload_n 3, 1) := by decide +kernel
theorem dL_law_371 : decode cL_law 371 = .ok (.invokestatic 144, 3) := by decide +kernel
theorem dL_law_374 : decode cL_law 374 = .ok (.istore 6, 2) := by decide +kernel
theorem dL_law_376 : decode cL_law 376 = .ok (.aload_n 2, 1) := by decide +kernel
theorem dL_law_377 : decode cL_law 377 = .ok (.aload_n 0, 1) := by decide +kernel
theorem dL_law_378 : decode cL_law 378 = .ok (.iload 5, 2) := by decide +kernel
theorem dL_law_380 : decode cL_law 380 = .ok (.iconst 1, 1) := by decide +kernel
theorem dL_law_381 : decode cL_law 381 = .ok (.iadd, 1) := by decide +kernel
theorem dL_law_382 : decode cL_law 382 = .ok (.iaload, 1) := by decide +kernel
theorem dL_law_383 : decode cL_law 383 = .ok (.i2c, 1) := by decide +kernel
theorem dL_law_384 : decode cL_law 384 = .ok (.aload_n 0, 1) := by decide +kernel
theorem dL_law_385 : decode cL_law 385 = .ok (.iload 5, 2) := by decide +kernel
theorem dL_law_387 : decode cL_law 387 = .ok (.iconst 2, 1) := by decide +kernel
theorem dL_law_388 : decode cL_law 388 = .ok (.iadd, 1) := by decide +kernel
theorem dL_law_389 : decode cL_law 389 = .ok (.iaload, 1) := by decide +kernel
theorem dL_law_390 : decode cL_law 390 = .ok (.aload_n 0, 1) := by decide +kernel
theorem dL_law_391 : decode cL_law 391 = .ok (.iload 5, 2) := by decide +kernel
theorem dL_law_393 : decode cL_law 393 = .ok (.iconst 3, 1) := by decide +kernel
theorem dL_law_394 : decode cL_law 394 = .ok (.iadd, 1) := by decide +kernel
theorem dL_law_395 : decode cL_law 395 = .ok (.iaload, 1) := by decide +kernel
theorem dL_law_396 : decode cL_law 396 = .ok (.aload_n 0, 1) := by decide +kernel
theorem dL_law_397 : decode cL_law 397 = .ok (.iload 5, 2) := by decide +kernel
theorem dL_law_399 : decode cL_law 399 = .ok (.iconst 4, 1) := by decide +kernel
theorem dL_law_400 : decode cL_law 400 = .ok (.iadd, 1) := by decide +kernel
theorem dL_law_401 : decode cL_law 401 = .ok (.iaload, 1) := by decide +kernel
theorem dL_law_402 : decode cL_law 402 = .ok (.invokevirtual 147, 3) := by decide +kernel
theorem dL_law_405 : decode cL_law 405 = .ok (.istore 7, 2) := by decide +kernel
theorem dL_law_407 : decode cL_law 407 = .ok (.aload_n 2, 1) := by decide +kernel
theorem dL_law_408 : decode cL_law 408 = .ok (.invokevirtual 137, 3) := by decide +kernel
theorem dL_law_411 : decode cL_law 411 = .ok (.iload 6, 2) := by decide +kernel
theorem dL_law_413 : decode cL_law 413 = .ok (.if_icmp .eq 5, 3) := by decide +kernel
theorem dL_law_416 : decode cL_law 416 = .ok (.iconst 0, 1) := by decide +kernel
theorem dL_law_417 : decode cL_law 417 = .ok (.ireturn, 1) := by decide +kernel
theorem dL_law_418 : decode cL_law 418 = .ok (.iload 6, 2) := by decide +kernel
theorem dL_law_420 : decode cL_law 420 = .ok (.ifCond .ne 15, 3) := by decide +kernel
theorem dL_law_423 : decode cL_law 423 = .ok (.aload_n 3, 1) := by decide +kernel
theorem dL_law_424 : decode cL_law 424 = .ok (.iconst 0, 1) := by decide +kernel
theorem dL_law_425 : decode cL_law 425 = .ok (.laload, 1) := by decide +kernel
theorem dL_law_426 : decode cL_law 426 = .ok (.iload 7, 2) := by decide +kernel
theorem dL_law_428 : decode cL_law 428 = .ok (.i2l, 1) := by decide +kernel
theorem dL_law_429 : decode cL_law 429 = .ok (.lcmp, 1) := by decide +kernel
theorem dL_law_430 : decode cL_law 430 = .ok (.ifCond .eq 5, 3) := by decide +kernel
theorem dL_law_433 : decode cL_law 433 = .ok (.iconst 0, 1) := by decide +kernel
theorem dL_law_434 : decode cL_law 434 = .ok (.ireturn, 1) := by decide +kernel
theorem dL_law_435 : decode cL_law 435 = .ok (.goto 1848, 3) := by decide +kernel
theorem dL_law_438 : decode cL_law 438 = .ok (.aload_n 1, 1) := by decide +kernel
theorem dL_law_439 : decode cL_law 439 = .ok (.aload_n 0, 1) := by decide +kernel
theorem dL_law_440 : decode cL_law 440 = .ok (.iload 5, 2) := by decide +kernel
theorem dL_law_442 : decode cL_law 442 = .ok (.iconst 1, 1) := by decide +kernel
theorem dL_law_443 : decode cL_law 443 = .ok (.iadd, 1) := by decide +kernel
theorem dL_law_444 : decode cL_law 444 = .ok (.iaload, 1) := by decide +kernel
theorem dL_law_445 : decode cL_law 445 = .ok (.aload_n 3, 1) := by decide +kernel
theorem dL_law_446 : decode cL_law 446 = .ok (.invokestatic 148, 3) := by decide +kernel
theorem dL_law_449 : decode cL_law 449 = .ok (.istore 6, 2) := by decide +kernel
theorem dL_law_451 : decode cL_law 451 = .ok (.aload_n 2, 1) := by decide +kernel
theorem dL_law_452 : decode cL_law 452 = .ok (.aload_n 0, 1) := by decide +kernel
theorem dL_law_453 : decode cL_law 453 = .ok (.iload 5, 2) := by decide +kernel
theorem dL_law_455 : decode cL_law 455 = .ok (.iconst 1, 1) := by decide +kernel
theorem dL_law_456 : decode cL_law 456 = .ok (.iadd, 1) := by decide +kernel
theorem dL_law_457 : decode cL_law 457 = .ok (.iaload, 1) := by decide +kernel
theorem dL_law_458 : decode cL_law 458 = .ok (.invokevirtual 151, 3) := by decide +kernel
theorem dL_law_461 : decode cL_law 461 = .ok (.istore 7, 2) := by decide +kernel
theorem dL_law_463 : decode cL_law 463 = .ok (.aload_n 2, 1) := by decide +kernel
theorem dL_law_464 : decode cL_law 464 = .ok (.invokevirtual 137, 3) := by decide +kernel
theorem dL_law_467 : decode cL_law 467 = .ok (.iload 6, 2) := by decide +kernel
theorem dL_law_469 : decode cL_law 469 = .ok (.if_icmp .eq 5, 3) := by decide +kernel
theorem dL_law_472 : decode cL_law 472 = .ok (.iconst 0, 1) := by decide +kernel
theorem dL_law_473 : decode cL_law 473 = .ok (.ireturn, 1) := by decide +kernel
theorem dL_law_474 : decode cL_law 474 = .ok (.iload 6, 2) := by decide +kernel
theorem dL_law_476 : decode cL_law 476 = .ok (.ifCond .ne 15, 3) := by decide +kernel
theorem dL_law_479 : decode cL_law 479 = .ok (.aload_n 3, 1) := by decide +kernel
theorem dL_law_480 : decode cL_law 480 = .ok (.iconst 0, 1) := by decide +kernel
theorem dL_law_481 : decode cL_law 481 = .ok (.laload, 1) := by decide +kernel
theorem dL_law_482 : decode cL_law 482 = .ok (.iload 7, 2) := by decide +kernel
theorem dL_law_484 : decode cL_law 484 = .ok (.i2l, 1) := by decide +kernel
theorem dL_law_485 : decode cL_law 485 = .ok (.lcmp, 1) := by decide +kernel
theorem dL_law_486 : decode cL_law 486 = .ok (.ifCond .eq 5, 3) := by decide +kernel
theorem dL_law_489 : decode cL_law 489 = .ok (.iconst 0, 1) := by decide +kernel
theorem dL_law_490 : decode cL_law 490 = .ok (.ireturn, 1) := by decide +kernel
theorem dL_law_491 : decode cL_law 491 = .ok (.goto 1792, 3) := by decide +kernel
theorem dL_law_494 : decode cL_law 494 = .ok (.aload_n 1, 1) := by decide +kernel
theorem dL_law_495 : decode cL_law 495 = .ok (.aload_n 0, 1) := by decide +kernel
theorem dL_law_496 : decode cL_law 496 = .ok (.iload 5, 2) := by decide +kernel
theorem dL_law_498 : decode cL_law 498 = .ok (.iconst 1, 1) := by decide +kernel
theorem dL_law_499 : decode cL_law 499 = .ok (.iadd, 1) := by decide +kernel
theorem dL_law_500 : decode cL_law 500 = .ok (.iaload, 1) := by decide +kernel
theorem dL_law_501 : decode cL_law 501 = .ok (.aload_n 3, 1) := by decide +kernel
theorem dL_law_502 : decode cL_law 502 = .ok (.invokestatic 152, 3) := by decide +kernel
theorem dL_law_505 : decode cL_law 505 = .ok (.istore 6, 2) := by decide +kernel
theorem dL_law_507 : decode cL_law 507 = .ok (.aload_n 2, 1) := by decide +kernel
theorem dL_law_508 : decode cL_law 508 = .ok (.aload_n 0, 1) := by decide +kernel
theorem dL_law_509 : decode cL_law 509 = .ok (.iload 5, 2) := by decide +kernel
theorem dL_law_511 : decode cL_law 511 = .ok (.iconst 1, 1) := by decide +kernel
theorem dL_law_512 : decode cL_law 512 = .ok (.iadd, 1) := by decide +kernel
theorem dL_law_513 : decode cL_law 513 = .ok (.iaload, 1) := by decide +kernel
theorem dL_law_514 : decode cL_law 514 = .ok (.invokevirtual 154, 3) := by decide +kernel
theorem dL_law_517 : decode cL_law 517 = .ok (.istore 7, 2) := by decide +kernel
theorem dL_law_519 : decode cL_law 519 = .ok (.aload_n 2, 1) := by decide +kernel
theorem dL_law_520 : decode cL_law 520 = .ok (.invokevirtual 137, 3) := by decide +kernel
theorem dL_law_523 : decode cL_law 523 = .ok (.iload 6, 2) := by decide +kernel
theorem dL_law_525 : decode cL_law 525 = .ok (.if_icmp .eq 5, 3) := by decide +kernel
theorem dL_law_528 : decode cL_law 528 = .ok (.iconst 0, 1) := by decide +kernel
theorem dL_law_529 : decode cL_law 529 = .ok (.ireturn, 1) := by decide +kernel
theorem dL_law_530 : decode cL_law 530 = .ok (.iload 6, 2) := by decide +kernel
theorem dL_law_532 : decode cL_law 532 = .ok (.ifCond .ne 15, 3) := by decide +kernel
theorem dL_law_535 : decode cL_law 535 = .ok (.aload_n 3, 1) := by decide +kernel
theorem dL_law_536 : decode cL_law 536 = .ok (.iconst 0, 1) := by decide +kernel
theorem dL_law_537 : decode cL_law 537 = .ok (.laload, 1) := by decide +kernel
theorem dL_law_538 : decode cL_law 538 = .ok (.iload 7, 2) := by decide +kernel
theorem dL_law_540 : decode cL_law 540 = .ok (.i2l, 1) := by decide +kernel
theorem dL_law_541 : decode cL_law 541 = .ok (.lcmp, 1) := by decide +kernel
theorem dL_law_542 : decode cL_law 542 = .ok (.ifCond .eq 5, 3) := by decide +kernel
theorem dL_law_545 : decode cL_law 545 = .ok (.iconst 0, 1) := by decide +kernel
theorem dL_law_546 : decode cL_law 546 = .ok (.ireturn, 1) := by decide +kernel
theorem dL_law_547 : decode cL_law 547 = .ok (.goto 1736, 3) := by decide +kernel
theorem dL_law_550 : decode cL_law 550 = .ok (.aload_n 1, 1) := by decide +kernel
theorem dL_law_551 : decode cL_law 551 = .ok (.aload_n 0, 1) := by decide +kernel
theorem dL_law_552 : decode cL_law 552 = .ok (.iload 5, 2) := by decide +kernel
theorem dL_law_554 : decode cL_law 554 = .ok (.iconst 1, 1) := by decide +kernel
theorem dL_law_555 : decode cL_law 555 = .ok (.iadd, 1) := by decide +kernel
theorem dL_law_556 : decode cL_law 556 = .ok (.iaload, 1) := by decide +kernel
theorem dL_law_557 : decode cL_law 557 = .ok (.aload_n 0, 1) := by decide +kernel
theorem dL_law_558 : decode cL_law 558 = .ok (.iload 5, 2) := by decide +kernel
theorem dL_law_560 : decode cL_law 560 = .ok (.iconst 2, 1) := by decide +kernel
theorem dL_law_561 : decode cL_law 561 = .ok (.iadd, 1) := by decide +kernel
theorem dL_law_562 : decode cL_law 562 = .ok (.iaload, 1) := by decide +kernel
theorem dL_law_563 : decode cL_law 563 = .ok (.aload_n 3, 1) := by decide +kernel
theorem dL_law_564 : decode cL_law 564 = .ok (.invokestatic 155, 3) := by decide +kernel
theorem dL_law_567 : decode cL_law 567 = .ok (.istore 6, 2) := by decide +kernel
theorem dL_law_569 : decode cL_law 569 = .ok (.aload_n 2, 1) := by decide +kernel
theorem dL_law_570 : decode cL_law 570 = .ok (.aload_n 0, 1) := by decide +kernel
theorem dL_law_571 : decode cL_law 571 = .ok (.iload 5, 2) := by decide +kernel
theorem dL_law_573 : decode cL_law 573 = .ok (.iconst 1, 1) := by decide +kernel
theorem dL_law_574 : decode cL_law 574 = .ok (.iadd, 1) := by decide +kernel
theorem dL_law_575 : decode cL_law 575 = .ok (.iaload, 1) := by decide +kernel
theorem dL_law_576 : decode cL_law 576 = .ok (.aload_n 0, 1) := by decide +kernel
theorem dL_law_577 : decode cL_law 577 = .ok (.iload 5, 2) := by decide +kernel
theorem dL_law_579 : decode cL_law 579 = .ok (.iconst 2, 1) := by decide +kernel
theorem dL_law_580 : decode cL_law 580 = .ok (.iadd, 1) := by decide +kernel
theorem dL_law_581 : decode cL_law 581 = .ok (.iaload, 1) := by decide +kernel
theorem dL_law_582 : decode cL_law 582 = .ok (.invokevirtual 157, 3) := by decide +kernel
theorem dL_law_585 : decode cL_law 585 = .ok (.istore 7, 2) := by decide +kernel
theorem dL_law_587 : decode cL_law 587 = .ok (.aload_n 2, 1) := by decide +kernel
theorem dL_law_588 : decode cL_law 588 = .ok (.invokevirtual 137, 3) := by decide +kernel
theorem dL_law_591 : decode cL_law 591 = .ok (.iload 6, 2) := by decide +kernel
theorem dL_law_593 : decode cL_law 593 = .ok (.if_icmp .eq 5, 3) := by decide +kernel
theorem dL_law_596 : decode cL_law 596 = .ok (.iconst 0, 1) := by decide +kernel
theorem dL_law_597 : decode cL_law 597 = .ok (.ireturn, 1) := by decide +kernel
theorem dL_law_598 : decode cL_law 598 = .ok (.iload 6, 2) := by decide +kernel
theorem dL_law_600 : decode cL_law 600 = .ok (.ifCond .ne 15, 3) := by decide +kernel
theorem dL_law_603 : decode cL_law 603 = .ok (.aload_n 3, 1) := by decide +kernel
theorem dL_law_604 : decode cL_law 604 = .ok (.iconst 0, 1) := by decide +kernel
theorem dL_law_605 : decode cL_law 605 = .ok (.laload, 1) := by decide +kernel
theorem dL_law_606 : decode cL_law 606 = .ok (.iload 7, 2) := by decide +kernel
theorem dL_law_608 : decode cL_law 608 = .ok (.i2l, 1) := by decide +kernel
theorem dL_law_609 : decode cL_law 609 = .ok (.lcmp, 1) := by decide +kernel
theorem dL_law_610 : decode cL_law 610 = .ok (.ifCond .eq 5, 3) := by decide +kernel
theorem dL_law_613 : decode cL_law 613 = .ok (.iconst 0, 1) := by decide +kernel
theorem dL_law_614 : decode cL_law 614 = .ok (.ireturn, 1) := by decide +kernel
theorem dL_law_615 : decode cL_law 615 = .ok (.goto 1668, 3) := by decide +kernel
theorem dL_law_618 : decode cL_law 618 = .ok (.aload_n 1, 1) := by decide +kernel
theorem dL_law_619 : decode cL_law 619 = .ok (.aload_n 0, 1) := by decide +kernel
theorem dL_law_620 : decode cL_law 620 = .ok (.iload 5, 2) := by decide +kernel
theorem dL_law_622 : decode cL_law 622 = .ok (.iconst 1, 1) := by decide +kernel
theorem dL_law_623 : decode cL_law 623 = .ok (.iadd, 1) := by decide +kernel
theorem dL_law_624 : decode cL_law 624 = .ok (.iaload, 1) := by decide +kernel
theorem dL_law_625 : decode cL_law 625 = .ok (.aload_n 0, 1) := by decide +kernel
theorem dL_law_626 : decode cL_law 626 = .ok (.iload 5, 2) := by decide +kernel
theorem dL_law_628 : decode cL_law 628 = .ok (.iconst 2, 1) := by decide +kernel
theorem dL_law_629 : decode cL_law 629 = .ok (.iadd, 1) := by decide +kernel
theorem dL_law_630 : decode cL_law 630 = .ok (.iaload, 1) := by decide +kernel
theorem dL_law_631 : decode cL_law 631 = .ok (.aload_n 3, 1) := by decide +kernel
theorem dL_law_632 : decode cL_law 632 = .ok (.invokestatic 158, 3) := by decide +kernel
theorem dL_law_635 : decode cL_law 635 = .ok (.istore 6, 2) := by decide +kernel
theorem dL_law_637 : decode cL_law 637 = .ok (.aload_n 2, 1) := by decide +kernel
theorem dL_law_638 : decode cL_law 638 = .ok (.aload_n 0, 1) := by decide +kernel
theorem dL_law_639 : decode cL_law 639 = .ok (.iload 5, 2) := by decide +kernel
theorem dL_law_641 : decode cL_law 641 = .ok (.iconst 1, 1) := by decide +kernel
theorem dL_law_642 : decode cL_law 642 = .ok (.iadd, 1) := by decide +kernel
theorem dL_law_643 : decode cL_law 643 = .ok (.iaload, 1) := by decide +kernel
theorem dL_law_644 : decode cL_law 644 = .ok (.aload_n 0, 1) := by decide +kernel
theorem dL_law_645 : decode cL_law 645 = .ok (.iload 5, 2) := by decide +kernel
theorem dL_law_647 : decode cL_law 647 = .ok (.iconst 2, 1) := by decide +kernel
theorem dL_law_648 : decode cL_law 648 = .ok (.iadd, 1) := by decide +kernel
theorem dL_law_649 : decode cL_law 649 = .ok (.iaload, 1) := by decide +kernel
theorem dL_law_650 : decode cL_law 650 = .ok (.invokevirtual 160, 3) := by decide +kernel
theorem dL_law_653 : decode cL_law 653 = .ok (.istore 7, 2) := by decide +kernel
theorem dL_law_655 : decode cL_law 655 = .ok (.aload_n 2, 1) := by decide +kernel
theorem dL_law_656 : decode cL_law 656 = .ok (.invokevirtual 137, 3) := by decide +kernel
theorem dL_law_659 : decode cL_law 659 = .ok (.iload 6, 2) := by decide +kernel
theorem dL_law_661 : decode cL_law 661 = .ok (.if_icmp .eq 5, 3) := by decide +kernel
theorem dL_law_664 : decode cL_law 664 = .ok (.iconst 0, 1) := by decide +kernel
theorem dL_law_665 : decode cL_law 665 = .ok (.ireturn, 1) := by decide +kernel
theorem dL_law_666 : decode cL_law 666 = .ok (.iload 6, 2) := by decide +kernel
theorem dL_law_668 : decode cL_law 668 = .ok (.ifCond .ne 15, 3) := by decide +kernel
theorem dL_law_671 : decode cL_law 671 = .ok (.aload_n 3, 1) := by decide +kernel
theorem dL_law_672 : decode cL_law 672 = .ok (.iconst 0, 1) := by decide +kernel
theorem dL_law_673 : decode cL_law 673 = .ok (.laload, 1) := by decide +kernel
theorem dL_law_674 : decode cL_law 674 = .ok (.iload 7, 2) := by decide +kernel
theorem dL_law_676 : decode cL_law 676 = .ok (.i2l, 1) := by decide +kernel
theorem dL_law_677 : decode cL_law 677 = .ok (.lcmp, 1) := by decide +kernel
theorem dL_law_678 : decode cL_law 678 = .ok (.ifCond .eq 5, 3) := by decide +kernel
theorem dL_law_681 : decode cL_law 681 = .ok (.iconst 0, 1) := by decide +kernel
theorem dL_law_682 : decode cL_law 682 = .ok (.ireturn, 1) := by decide +kernel
theorem dL_law_683 : decode cL_law 683 = .ok (.goto 1600, 3) := by decide +kernel
theorem dL_law_686 : decode cL_law 686 = .ok (.aload_n 1, 1) := by decide +kernel
theorem dL_law_687 : decode cL_law 687 = .ok (.aload_n 0, 1) := by decide +kernel
theorem dL_law_688 : decode cL_law 688 = .ok (.iload 5, 2) := by decide +kernel
theorem dL_law_690 : decode cL_law 690 = .ok (.iconst 1, 1) := by decide +kernel
theorem dL_law_691 : decode cL_law 691 = .ok (.iadd, 1) := by decide +kernel
theorem dL_law_692 : decode cL_law 692 = .ok (.iaload, 1) := by decide +kernel
theorem dL_law_693 : decode cL_law 693 = .ok (.aload_n 3, 1) := by decide +kernel
theorem dL_law_694 : decode cL_law 694 = .ok (.invokestatic 161, 3) := by decide +kernel
theorem dL_law_697 : decode cL_law 697 = .ok (.istore 6, 2) := by decide +kernel
theorem dL_law_699 : decode cL_law 699 = .ok (.aload_n 2, 1) := by decide +kernel
theorem dL_law_700 : decode cL_law 700 = .ok (.aload_n 0, 1) := by decide +kernel
theorem dL_law_701 : decode cL_law 701 = .ok (.iload 5, 2) := by decide +kernel
theorem dL_law_703 : decode cL_law 703 = .ok (.iconst 1, 1) := by decide +kernel
theorem dL_law_704 : decode cL_law 704 = .ok (.iadd, 1) := by decide +kernel
theorem dL_law_705 : decode cL_law 705 = .ok (.iaload, 1) := by decide +kernel
theorem dL_law_706 : decode cL_law 706 = .ok (.invokevirtual 163, 3) := by decide +kernel
theorem dL_law_709 : decode cL_law 709 = .ok (.istore 7, 2) := by decide +kernel
theorem dL_law_711 : decode cL_law 711 = .ok (.aload_n 2, 1) := by decide +kernel
theorem dL_law_712 : decode cL_law 712 = .ok (.invokevirtual 137, 3) := by decide +kernel
theorem dL_law_715 : decode cL_law 715 = .ok (.iload 6, 2) := by decide +kernel
theorem dL_law_717 : decode cL_law 717 = .ok (.if_icmp .eq 5, 3) := by decide +kernel
theorem dL_law_720 : decode cL_law 720 = .ok (.iconst 0, 1) := by decide +kernel
theorem dL_law_721 : decode cL_law 721 = .ok (.ireturn, 1) := by decide +kernel
theorem dL_law_722 : decode cL_law 722 = .ok (.iload 6, 2) := by decide +kernel
theorem dL_law_724 : decode cL_law 724 = .ok (.ifCond .ne 15, 3) := by decide +kernel
theorem dL_law_727 : decode cL_law 727 = .ok (.aload_n 3, 1) := by decide +kernel
theorem dL_law_728 : decode cL_law 728 = .ok (.iconst 0, 1) := by decide +kernel
theorem dL_law_729 : decode cL_law 729 = .ok (.laload, 1) := by decide +kernel
theorem dL_law_730 : decode cL_law 730 = .ok (.iload 7, 2) := by decide +kernel
theorem dL_law_732 : decode cL_law 732 = .ok (.i2l, 1) := by decide +kernel
theorem dL_law_733 : decode cL_law 733 = .ok (.lcmp, 1) := by decide +kernel
theorem dL_law_734 : decode cL_law 734 = .ok (.ifCond .eq 5, 3) := by decide +kernel
theorem dL_law_737 : decode cL_law 737 = .ok (.iconst 0, 1) := by decide +kernel
theorem dL_law_738 : decode cL_law 738 = .ok (.ireturn, 1) := by decide +kernel
theorem dL_law_739 : decode cL_law 739 = .ok (.goto 1544, 3) := by decide +kernel
theorem dL_law_742 : decode cL_law 742 = .ok (.aload_n 1, 1) := by decide +kernel
theorem dL_law_743 : decode cL_law 743 = .ok (.aload_n 3, 1) := by decide +kernel
theorem dL_law_744 : decode cL_law 744 = .ok (.invokestatic 164, 3) := by decide +kernel
theorem dL_law_747 : decode cL_law 747 = .ok (.istore 6, 2) := by decide +kernel
theorem dL_law_749 : decode cL_law 749 = .ok (.aload_n 2, 1) := by decide +kernel
theorem dL_law_750 : decode cL_law 750 = .ok (.invokevirtual 167, 3) := by decide +kernel
theorem dL_law_753 : decode cL_law 753 = .ok (.istore 7, 2) := by decide +kernel
theorem dL_law_755 : decode cL_law 755 = .ok (.aload_n 2, 1) := by decide +kernel
theorem dL_law_756 : decode cL_law 756 = .ok (.invokevirtual 137, 3) := by decide +kernel
theorem dL_law_759 : decode cL_law 759 = .ok (.iload 6, 2) := by decide +kernel
theorem dL_law_761 : decode cL_law 761 = .ok (.if_icmp .eq 5, 3) := by decide +kernel
theorem dL_law_764 : decode cL_law 764 = .ok (.iconst 0, 1) := by decide +kernel
theorem dL_law_765 : decode cL_law 765 = .ok (.ireturn, 1) := by decide +kernel
theorem dL_law_766 : decode cL_law 766 = .ok (.iload 6, 2) := by decide +kernel
theorem dL_law_768 : decode cL_law 768 = .ok (.ifCond .ne 15, 3) := by decide +kernel
theorem dL_law_771 : decode cL_law 771 = .ok (.aload_n 3, 1) := by decide +kernel
theorem dL_law_772 : decode cL_law 772 = .ok (.iconst 0, 1) := by decide +kernel
theorem dL_law_773 : decode cL_law 773 = .ok (.laload, 1) := by decide +kernel
theorem dL_law_774 : decode cL_law 774 = .ok (.iload 7, 2) := by decide +kernel
theorem dL_law_776 : decode cL_law 776 = .ok (.i2l, 1) := by decide +kernel
theorem dL_law_777 : decode cL_law 777 = .ok (.lcmp, 1) := by decide +kernel
theorem dL_law_778 : decode cL_law 778 = .ok (.ifCond .eq 5, 3) := by decide +kernel
theorem dL_law_781 : decode cL_law 781 = .ok (.iconst 0, 1) := by decide +kernel
theorem dL_law_782 : decode cL_law 782 = .ok (.ireturn, 1) := by decide +kernel
theorem dL_law_783 : decode cL_law 783 = .ok (.goto 1500, 3) := by decide +kernel
theorem dL_law_786 : decode cL_law 786 = .ok (.aload_n 1, 1) := by decide +kernel
theorem dL_law_787 : decode cL_law 787 = .ok (.aload_n 0, 1) := by decide +kernel
theorem dL_law_788 : decode cL_law 788 = .ok (.iload 5, 2) := by decide +kernel
theorem dL_law_790 : decode cL_law 790 = .ok (.iconst 1, 1) := by decide +kernel
theorem dL_law_791 : decode cL_law 791 = .ok (.iadd, 1) := by decide +kernel
theorem dL_law_792 : decode cL_law 792 = .ok (.iaload, 1) := by decide +kernel
theorem dL_law_793 : decode cL_law 793 = .ok (.aload_n 0, 1) := by decide +kernel
theorem dL_law_794 : decode cL_law 794 = .ok (.iload 5, 2) := by decide +kernel
theorem dL_law_796 : decode cL_law 796 = .ok (.iconst 2, 1) := by decide +kernel
theorem dL_law_797 : decode cL_law 797 = .ok (.iadd, 1) := by decide +kernel
theorem dL_law_798 : decode cL_law 798 = .ok (.iaload, 1) := by decide +kernel
theorem dL_law_799 : decode cL_law 799 = .ok (.aload_n 0, 1) := by decide +kernel
theorem dL_law_800 : decode cL_law 800 = .ok (.iload 5, 2) := by decide +kernel
theorem dL_law_802 : decode cL_law 802 = .ok (.iconst 3, 1) := by decide +kernel
theorem dL_law_803 : decode cL_law 803 = .ok (.iadd, 1) := by decide +kernel
theorem dL_law_804 : decode cL_law 804 = .ok (.iaload, 1) := by decide +kernel
theorem dL_law_805 : decode cL_law 805 = .ok (.aload_n 3, 1) := by decide +kernel
theorem dL_law_806 : decode cL_law 806 = .ok (.invokestatic 168, 3) := by decide +kernel
theorem dL_law_809 : decode cL_law 809 = .ok (.istore 6, 2) := by decide +kernel
theorem dL_law_811 : decode cL_law 811 = .ok (.aload_n 2, 1) := by decide +kernel
theorem dL_law_812 : decode cL_law 812 = .ok (.aload_n 0, 1) := by decide +kernel
theorem dL_law_813 : decode cL_law 813 = .ok (.iload 5, 2) := by decide +kernel
theorem dL_law_815 : decode cL_law 815 = .ok (.iconst 1, 1) := by decide +kernel
theorem dL_law_816 : decode cL_law 816 = .ok (.iadd, 1) := by decide +kernel
theorem dL_law_817 : decode cL_law 817 = .ok (.iaload, 1) := by decide +kernel
theorem dL_law_818 : decode cL_law 818 = .ok (.aload_n 0, 1) := by decide +kernel
theorem dL_law_819 : decode cL_law 819 = .ok (.iload 5, 2) := by decide +kernel
theorem dL_law_821 : decode cL_law 821 = .ok (.iconst 2, 1) := by decide +kernel
theorem dL_law_822 : decode cL_law 822 = .ok (.iadd, 1) := by decide +kernel
theorem dL_law_823 : decode cL_law 823 = .ok (.iaload, 1) := by decide +kernel
theorem dL_law_824 : decode cL_law 824 = .ok (.aload_n 0, 1) := by decide +kernel
theorem dL_law_825 : decode cL_law 825 = .ok (.iload 5, 2) := by decide +kernel
theorem dL_law_827 : decode cL_law 827 = .ok (.iconst 3, 1) := by decide +kernel
theorem dL_law_828 : decode cL_law 828 = .ok (.iadd, 1) := by decide +kernel
theorem dL_law_829 : decode cL_law 829 = .ok (.iaload, 1) := by decide +kernel
theorem dL_law_830 : decode cL_law 830 = .ok (.invokevirtual 170, 3) := by decide +kernel
theorem dL_law_833 : decode cL_law 833 = .ok (.istore 7, 2) := by decide +kernel
theorem dL_law_835 : decode cL_law 835 = .ok (.aload_n 2, 1) := by decide +kernel
theorem dL_law_836 : decode cL_law 836 = .ok (.invokevirtual 137, 3) := by decide +kernel
theorem dL_law_839 : decode cL_law 839 = .ok (.iload 6, 2) := by decide +kernel
theorem dL_law_841 : decode cL_law 841 = .ok (.if_icmp .eq 5, 3) := by decide +kernel
theorem dL_law_844 : decode cL_law 844 = .ok (.iconst 0, 1) := by decide +kernel
theorem dL_law_845 : decode cL_law 845 = .ok (.ireturn, 1) := by decide +kernel
theorem dL_law_846 : decode cL_law 846 = .ok (.iload 6, 2) := by decide +kernel
theorem dL_law_848 : decode cL_law 848 = .ok (.ifCond .ne 15, 3) := by decide +kernel
theorem dL_law_851 : decode cL_law 851 = .ok (.aload_n 3, 1) := by decide +kernel
theorem dL_law_852 : decode cL_law 852 = .ok (.iconst 0, 1) := by decide +kernel
theorem dL_law_853 : decode cL_law 853 = .ok (.laload, 1) := by decide +kernel
theorem dL_law_854 : decode cL_law 854 = .ok (.iload 7, 2) := by decide +kernel
theorem dL_law_856 : decode cL_law 856 = .ok (.i2l, 1) := by decide +kernel
theorem dL_law_857 : decode cL_law 857 = .ok (.lcmp, 1) := by decide +kernel
theorem dL_law_858 : decode cL_law 858 = .ok (.ifCond .eq 5, 3) := by decide +kernel
theorem dL_law_861 : decode cL_law 861 = .ok (.iconst 0, 1) := by decide +kernel
theorem dL_law_862 : decode cL_law 862 = .ok (.ireturn, 1) := by decide +kernel
theorem dL_law_863 : decode cL_law 863 = .ok (.goto 1420, 3) := by decide +kernel
theorem dL_law_866 : decode cL_law 866 = .ok (.aload_n 1, 1) := by decide +kernel
theorem dL_law_867 : decode cL_law 867 = .ok (.aload_n 0, 1) := by decide +kernel
theorem dL_law_868 : decode cL_law 868 = .ok (.iload 5, 2) := by decide +kernel
theorem dL_law_870 : decode cL_law 870 = .ok (.iconst 1, 1) := by decide +kernel
theorem dL_law_871 : decode cL_law 871 = .ok (.iadd, 1) := by decide +kernel
theorem dL_law_872 : decode cL_law 872 = .ok (.iaload, 1) := by decide +kernel
theorem dL_law_873 : decode cL_law 873 = .ok (.aload_n 3, 1) := by decide +kernel
theorem dL_law_874 : decode cL_law 874 = .ok (.invokestatic 171, 3) := by decide +kernel
theorem dL_law_877 : decode cL_law 877 = .ok (.istore 6, 2) := by decide +kernel
theorem dL_law_879 : decode cL_law 879 = .ok (.aload_n 2, 1) := by decide +kernel
theorem dL_law_880 : decode cL_law 880 = .ok (.aload_n 0, 1) := by decide +kernel
theorem dL_law_881 : decode cL_law 881 = .ok (.iload 5, 2) := by decide +kernel
theorem dL_law_883 : decode cL_law 883 = .ok (.iconst 1, 1) := by decide +kernel
theorem dL_law_884 : decode cL_law 884 = .ok (.iadd, 1) := by decide +kernel
theorem dL_law_885 : decode cL_law 885 = .ok (.iaload, 1) := by decide +kernel
theorem dL_law_886 : decode cL_law 886 = .ok (.invokevirtual 173, 3) := by decide +kernel
theorem dL_law_889 : decode cL_law 889 = .ok (.istore 7, 2) := by decide +kernel
theorem dL_law_891 : decode cL_law 891 = .ok (.aload_n 2, 1) := by decide +kernel
theorem dL_law_892 : decode cL_law 892 = .ok (.invokevirtual 137, 3) := by decide +kernel
theorem dL_law_895 : decode cL_law 895 = .ok (.iload 6, 2) := by decide +kernel
theorem dL_law_897 : decode cL_law 897 = .ok (.if_icmp .eq 5, 3) := by decide +kernel
theorem dL_law_900 : decode cL_law 900 = .ok (.iconst 0, 1) := by decide +kernel
theorem dL_law_901 : decode cL_law 901 = .ok (.ireturn, 1) := by decide +kernel
theorem dL_law_902 : decode cL_law 902 = .ok (.iload 6, 2) := by decide +kernel
theorem dL_law_904 : decode cL_law 904 = .ok (.ifCond .ne 15, 3) := by decide +kernel
theorem dL_law_907 : decode cL_law 907 = .ok (.aload_n 3, 1) := by decide +kernel
theorem dL_law_908 : decode cL_law 908 = .ok (.iconst 0, 1) := by decide +kernel
theorem dL_law_909 : decode cL_law 909 = .ok (.laload, 1) := by decide +kernel
theorem dL_law_910 : decode cL_law 910 = .ok (.iload 7, 2) := by decide +kernel
theorem dL_law_912 : decode cL_law 912 = .ok (.i2l, 1) := by decide +kernel
theorem dL_law_913 : decode cL_law 913 = .ok (.lcmp, 1) := by decide +kernel
theorem dL_law_914 : decode cL_law 914 = .ok (.ifCond .eq 5, 3) := by decide +kernel
theorem dL_law_917 : decode cL_law 917 = .ok (.iconst 0, 1) := by decide +kernel
theorem dL_law_918 : decode cL_law 918 = .ok (.ireturn, 1) := by decide +kernel
theorem dL_law_919 : decode cL_law 919 = .ok (.goto 1364, 3) := by decide +kernel
theorem dL_law_922 : decode cL_law 922 = .ok (.aload_n 1, 1) := by decide +kernel
theorem dL_law_923 : decode cL_law 923 = .ok (.aload_n 0, 1) := by decide +kernel
theorem dL_law_924 : decode cL_law 924 = .ok (.iload 5, 2) := by decide +kernel
theorem dL_law_926 : decode cL_law 926 = .ok (.iconst 1, 1) := by decide +kernel
theorem dL_law_927 : decode cL_law 927 = .ok (.iadd, 1) := by decide +kernel
theorem dL_law_928 : decode cL_law 928 = .ok (.iaload, 1) := by decide +kernel
theorem dL_law_929 : decode cL_law 929 = .ok (.aload_n 0, 1) := by decide +kernel
theorem dL_law_930 : decode cL_law 930 = .ok (.iload 5, 2) := by decide +kernel
theorem dL_law_932 : decode cL_law 932 = .ok (.iconst 2, 1) := by decide +kernel
theorem dL_law_933 : decode cL_law 933 = .ok (.iadd, 1) := by decide +kernel
theorem dL_law_934 : decode cL_law 934 = .ok (.iaload, 1) := by decide +kernel
theorem dL_law_935 : decode cL_law 935 = .ok (.aload_n 3, 1) := by decide +kernel
theorem dL_law_936 : decode cL_law 936 = .ok (.invokestatic 174, 3) := by decide +kernel
theorem dL_law_939 : decode cL_law 939 = .ok (.istore 6, 2) := by decide +kernel
theorem dL_law_941 : decode cL_law 941 = .ok (.aload_n 2, 1) := by decide +kernel
theorem dL_law_942 : decode cL_law 942 = .ok (.aload_n 0, 1) := by decide +kernel
theorem dL_law_943 : decode cL_law 943 = .ok (.iload 5, 2) := by decide +kernel
theorem dL_law_945 : decode cL_law 945 = .ok (.iconst 1, 1) := by decide +kernel
theorem dL_law_946 : decode cL_law 946 = .ok (.iadd, 1) := by decide +kernel
theorem dL_law_947 : decode cL_law 947 = .ok (.iaload, 1) := by decide +kernel
theorem dL_law_948 : decode cL_law 948 = .ok (.aload_n 0, 1) := by decide +kernel
theorem dL_law_949 : decode cL_law 949 = .ok (.iload 5, 2) := by decide +kernel
theorem dL_law_951 : decode cL_law 951 = .ok (.iconst 2, 1) := by decide +kernel
theorem dL_law_952 : decode cL_law 952 = .ok (.iadd, 1) := by decide +kernel
theorem dL_law_953 : decode cL_law 953 = .ok (.iaload, 1) := by decide +kernel
theorem dL_law_954 : decode cL_law 954 = .ok (.invokevirtual 176, 3) := by decide +kernel
theorem dL_law_957 : decode cL_law 957 = .ok (.istore 7, 2) := by decide +kernel
theorem dL_law_959 : decode cL_law 959 = .ok (.aload_n 2, 1) := by decide +kernel
theorem dL_law_960 : decode cL_law 960 = .ok (.invokevirtual 137, 3) := by decide +kernel
theorem dL_law_963 : decode cL_law 963 = .ok (.iload 6, 2) := by decide +kernel
theorem dL_law_965 : decode cL_law 965 = .ok (.if_icmp .eq 5, 3) := by decide +kernel
theorem dL_law_968 : decode cL_law 968 = .ok (.iconst 0, 1) := by decide +kernel
theorem dL_law_969 : decode cL_law 969 = .ok (.ireturn, 1) := by decide +kernel
theorem dL_law_970 : decode cL_law 970 = .ok (.iload 6, 2) := by decide +kernel
theorem dL_law_972 : decode cL_law 972 = .ok (.ifCond .ne 15, 3) := by decide +kernel
theorem dL_law_975 : decode cL_law 975 = .ok (.aload_n 3, 1) := by decide +kernel
theorem dL_law_976 : decode cL_law 976 = .ok (.iconst 0, 1) := by decide +kernel
theorem dL_law_977 : decode cL_law 977 = .ok (.laload, 1) := by decide +kernel
theorem dL_law_978 : decode cL_law 978 = .ok (.iload 7, 2) := by decide +kernel
theorem dL_law_980 : decode cL_law 980 = .ok (.i2l, 1) := by decide +kernel
theorem dL_law_981 : decode cL_law 981 = .ok (.lcmp, 1) := by decide +kernel
theorem dL_law_982 : decode cL_law 982 = .ok (.ifCond .eq 5, 3) := by decide +kernel
theorem dL_law_985 : decode cL_law 985 = .ok (.iconst 0, 1) := by decide +kernel
theorem dL_law_986 : decode cL_law 986 = .ok (.ireturn, 1) := by decide +kernel
theorem dL_law_987 : decode cL_law 987 = .ok (.goto 1296, 3) := by decide +kernel
theorem dL_law_990 : decode cL_law 990 = .ok (.aload_n 1, 1) := by decide +kernel
theorem dL_law_991 : decode cL_law 991 = .ok (.aload_n 0, 1) := by decide +kernel
theorem dL_law_992 : decode cL_law 992 = .ok (.iload 5, 2) := by decide +kernel
theorem dL_law_994 : decode cL_law 994 = .ok (.iconst 1, 1) := by decide +kernel
theorem dL_law_995 : decode cL_law 995 = .ok (.iadd, 1) := by decide +kernel
theorem dL_law_996 : decode cL_law 996 = .ok (.iaload, 1) := by decide +kernel
theorem dL_law_997 : decode cL_law 997 = .ok (.aload_n 3, 1) := by decide +kernel
theorem dL_law_998 : decode cL_law 998 = .ok (.invokestatic 177, 3) := by decide +kernel
theorem dL_law_1001 : decode cL_law 1001 = .ok (.istore 6, 2) := by decide +kernel
theorem dL_law_1003 : decode cL_law 1003 = .ok (.aload_n 2, 1) := by decide +kernel
theorem dL_law_1004 : decode cL_law 1004 = .ok (.aload_n 0, 1) := by decide +kernel
theorem dL_law_1005 : decode cL_law 1005 = .ok (.iload 5, 2) := by decide +kernel
theorem dL_law_1007 : decode cL_law 1007 = .ok (.iconst 1, 1) := by decide +kernel
theorem dL_law_1008 : decode cL_law 1008 = .ok (.iadd, 1) := by decide +kernel
theorem dL_law_1009 : decode cL_law 1009 = .ok (.iaload, 1) := by decide +kernel
theorem dL_law_1010 : decode cL_law 1010 = .ok (.invokevirtual 179, 3) := by decide +kernel
theorem dL_law_1013 : decode cL_law 1013 = .ok (.istore 7, 2) := by decide +kernel
theorem dL_law_1015 : decode cL_law 1015 = .ok (.aload_n 2, 1) := by decide +kernel
theorem dL_law_1016 : decode cL_law 1016 = .ok (.invokevirtual 137, 3) := by decide +kernel
theorem dL_law_1019 : decode cL_law 1019 = .ok (.iload 6, 2) := by decide +kernel
theorem dL_law_1021 : decode cL_law 1021 = .ok (.if_icmp .eq 5, 3) := by decide +kernel
theorem dL_law_1024 : decode cL_law 1024 = .ok (.iconst 0, 1) := by decide +kernel
theorem dL_law_1025 : decode cL_law 1025 = .ok (.ireturn, 1) := by decide +kernel
theorem dL_law_1026 : decode cL_law 1026 = .ok (.iload 6, 2) := by decide +kernel
theorem dL_law_1028 : decode cL_law 1028 = .ok (.ifCond .ne 15, 3) := by decide +kernel
theorem dL_law_1031 : decode cL_law 1031 = .ok (.aload_n 3, 1) := by decide +kernel
theorem dL_law_1032 : decode cL_law 1032 = .ok (.iconst 0, 1) := by decide +kernel
theorem dL_law_1033 : decode cL_law 1033 = .ok (.laload, 1) := by decide +kernel
theorem dL_law_1034 : decode cL_law 1034 = .ok (.iload 7, 2) := by decide +kernel
theorem dL_law_1036 : decode cL_law 1036 = .ok (.i2l, 1) := by decide +kernel
theorem dL_law_1037 : decode cL_law 1037 = .ok (.lcmp, 1) := by decide +kernel
theorem dL_law_1038 : decode cL_law 1038 = .ok (.ifCond .eq 5, 3) := by decide +kernel
theorem dL_law_1041 : decode cL_law 1041 = .ok (.iconst 0, 1) := by decide +kernel
theorem dL_law_1042 : decode cL_law 1042 = .ok (.ireturn, 1) := by decide +kernel
theorem dL_law_1043 : decode cL_law 1043 = .ok (.goto 1240, 3) := by decide +kernel
theorem dL_law_1046 : decode cL_law 1046 = .ok (.aload_n 1, 1) := by decide +kernel
theorem dL_law_1047 : decode cL_law 1047 = .ok (.aload_n 0, 1) := by decide +kernel
theorem dL_law_1048 : decode cL_law 1048 = .ok (.iload 5, 2) := by decide +kernel
theorem dL_law_1050 : decode cL_law 1050 = .ok (.iconst 1, 1) := by decide +kernel
theorem dL_law_1051 : decode cL_law 1051 = .ok (.iadd, 1) := by decide +kernel
theorem dL_law_1052 : decode cL_law 1052 = .ok (.iaload, 1) := by decide +kernel
theorem dL_law_1053 : decode cL_law 1053 = .ok (.aload_n 3, 1) := by decide +kernel
theorem dL_law_1054 : decode cL_law 1054 = .ok (.invokestatic 180, 3) := by decide +kernel
theorem dL_law_1057 : decode cL_law 1057 = .ok (.istore 6, 2) := by decide +kernel
theorem dL_law_1059 : decode cL_law 1059 = .ok (.aload_n 2, 1) := by decide +kernel
theorem dL_law_1060 : decode cL_law 1060 = .ok (.aload_n 0, 1) := by decide +kernel
theorem dL_law_1061 : decode cL_law 1061 = .ok (.iload 5, 2) := by decide +kernel
theorem dL_law_1063 : decode cL_law 1063 = .ok (.iconst 1, 1) := by decide +kernel
theorem dL_law_1064 : decode cL_law 1064 = .ok (.iadd, 1) := by decide +kernel
theorem dL_law_1065 : decode cL_law 1065 = .ok (.iaload, 1) := by decide +kernel
theorem dL_law_1066 : decode cL_law 1066 = .ok (.invokevirtual 182, 3) := by decide +kernel
theorem dL_law_1069 : decode cL_law 1069 = .ok (.istore 7, 2) := by decide +kernel
theorem dL_law_1071 : decode cL_law 1071 = .ok (.aload_n 2, 1) := by decide +kernel
theorem dL_law_1072 : decode cL_law 1072 = .ok (.invokevirtual 137, 3) := by decide +kernel
theorem dL_law_1075 : decode cL_law 1075 = .ok (.iload 6, 2) := by decide +kernel
theorem dL_law_1077 : decode cL_law 1077 = .ok (.if_icmp .eq 5, 3) := by decide +kernel
theorem dL_law_1080 : decode cL_law 1080 = .ok (.iconst 0, 1) := by decide +kernel
theorem dL_law_1081 : decode cL_law 1081 = .ok (.ireturn, 1) := by decide +kernel
theorem dL_law_1082 : decode cL_law 1082 = .ok (.iload 6, 2) := by decide +kernel
theorem dL_law_1084 : decode cL_law 1084 = .ok (.ifCond .ne 15, 3) := by decide +kernel
theorem dL_law_1087 : decode cL_law 1087 = .ok (.aload_n 3, 1) := by decide +kernel
theorem dL_law_1088 : decode cL_law 1088 = .ok (.iconst 0, 1) := by decide +kernel
theorem dL_law_1089 : decode cL_law 1089 = .ok (.laload, 1) := by decide +kernel
theorem dL_law_1090 : decode cL_law 1090 = .ok (.iload 7, 2) := by decide +kernel
theorem dL_law_1092 : decode cL_law 1092 = .ok (.i2l, 1) := by decide +kernel
theorem dL_law_1093 : decode cL_law 1093 = .ok (.lcmp, 1) := by decide +kernel
theorem dL_law_1094 : decode cL_law 1094 = .ok (.ifCond .eq 5, 3) := by decide +kernel
theorem dL_law_1097 : decode cL_law 1097 = .ok (.iconst 0, 1) := by decide +kernel
theorem dL_law_1098 : decode cL_law 1098 = .ok (.ireturn, 1) := by decide +kernel
theorem dL_law_1099 : decode cL_law 1099 = .ok (.goto 1184, 3) := by decide +kernel
theorem dL_law_1102 : decode cL_law 1102 = .ok (.aload_n 1, 1) := by decide +kernel
theorem dL_law_1103 : decode cL_law 1103 = .ok (.aload_n 0, 1) := by decide +kernel
theorem dL_law_1104 : decode cL_law 1104 = .ok (.iload 5, 2) := by decide +kernel
theorem dL_law_1106 : decode cL_law 1106 = .ok (.iconst 1, 1) := by decide +kernel
theorem dL_law_1107 : decode cL_law 1107 = .ok (.iadd, 1) := by decide +kernel
theorem dL_law_1108 : decode cL_law 1108 = .ok (.iaload, 1) := by decide +kernel
theorem dL_law_1109 : decode cL_law 1109 = .ok (.aload_n 0, 1) := by decide +kernel
theorem dL_law_1110 : decode cL_law 1110 = .ok (.iload 5, 2) := by decide +kernel
theorem dL_law_1112 : decode cL_law 1112 = .ok (.iconst 2, 1) := by decide +kernel
theorem dL_law_1113 : decode cL_law 1113 = .ok (.iadd, 1) := by decide +kernel
theorem dL_law_1114 : decode cL_law 1114 = .ok (.iaload, 1) := by decide +kernel
theorem dL_law_1115 : decode cL_law 1115 = .ok (.i2c, 1) := by decide +kernel
theorem dL_law_1116 : decode cL_law 1116 = .ok (.aload_n 3, 1) := by decide +kernel
theorem dL_law_1117 : decode cL_law 1117 = .ok (.invokestatic 183, 3) := by decide +kernel
theorem dL_law_1120 : decode cL_law 1120 = .ok (.istore 6, 2) := by decide +kernel
theorem dL_law_1122 : decode cL_law 1122 = .ok (.aload_n 2, 1) := by decide +kernel
theorem dL_law_1123 : decode cL_law 1123 = .ok (.aload_n 0, 1) := by decide +kernel
theorem dL_law_1124 : decode cL_law 1124 = .ok (.iload 5, 2) := by decide +kernel
theorem dL_law_1126 : decode cL_law 1126 = .ok (.iconst 1, 1) := by decide +kernel
theorem dL_law_1127 : decode cL_law 1127 = .ok (.iadd, 1) := by decide +kernel
theorem dL_law_1128 : decode cL_law 1128 = .ok (.iaload, 1) := by decide +kernel
theorem dL_law_1129 : decode cL_law 1129 = .ok (.aload_n 0, 1) := by decide +kernel
theorem dL_law_1130 : decode cL_law 1130 = .ok (.iload 5, 2) := by decide +kernel
theorem dL_law_1132 : decode cL_law 1132 = .ok (.iconst 2, 1) := by decide +kernel
theorem dL_law_1133 : decode cL_law 1133 = .ok (.iadd, 1) := by decide +kernel
theorem dL_law_1134 : decode cL_law 1134 = .ok (.iaload, 1) := by decide +kernel
theorem dL_law_1135 : decode cL_law 1135 = .ok (.i2c, 1) := by decide +kernel
theorem dL_law_1136 : decode cL_law 1136 = .ok (.invokevirtual 186, 3) := by decide +kernel
theorem dL_law_1139 : decode cL_law 1139 = .ok (.istore 7, 2) := by decide +kernel
theorem dL_law_1141 : decode cL_law 1141 = .ok (.aload_n 2, 1) := by decide +kernel
theorem dL_law_1142 : decode cL_law 1142 = .ok (.invokevirtual 137, 3) := by decide +kernel
theorem dL_law_1145 : decode cL_law 1145 = .ok (.iload 6, 2) := by decide +kernel
theorem dL_law_1147 : decode cL_law 1147 = .ok (.if_icmp .eq 5, 3) := by decide +kernel
theorem dL_law_1150 : decode cL_law 1150 = .ok (.iconst 0, 1) := by decide +kernel
theorem dL_law_1151 : decode cL_law 1151 = .ok (.ireturn, 1) := by decide +kernel
theorem dL_law_1152 : decode cL_law 1152 = .ok (.iload 6, 2) := by decide +kernel
theorem dL_law_1154 : decode cL_law 1154 = .ok (.ifCond .ne 15, 3) := by decide +kernel
theorem dL_law_1157 : decode cL_law 1157 = .ok (.aload_n 3, 1) := by decide +kernel
theorem dL_law_1158 : decode cL_law 1158 = .ok (.iconst 0, 1) := by decide +kernel
theorem dL_law_1159 : decode cL_law 1159 = .ok (.laload, 1) := by decide +kernel
theorem dL_law_1160 : decode cL_law 1160 = .ok (.iload 7, 2) := by decide +kernel
theorem dL_law_1162 : decode cL_law 1162 = .ok (.i2l, 1) := by decide +kernel
theorem dL_law_1163 : decode cL_law 1163 = .ok (.lcmp, 1) := by decide +kernel
theorem dL_law_1164 : decode cL_law 1164 = .ok (.ifCond .eq 5, 3) := by decide +kernel
theorem dL_law_1167 : decode cL_law 1167 = .ok (.iconst 0, 1) := by decide +kernel
theorem dL_law_1168 : decode cL_law 1168 = .ok (.ireturn, 1) := by decide +kernel
theorem dL_law_1169 : decode cL_law 1169 = .ok (.goto 1114, 3) := by decide +kernel
theorem dL_law_1172 : decode cL_law 1172 = .ok (.aload_n 1, 1) := by decide +kernel
theorem dL_law_1173 : decode cL_law 1173 = .ok (.aload_n 0, 1) := by decide +kernel
theorem dL_law_1174 : decode cL_law 1174 = .ok (.iload 5, 2) := by decide +kernel
theorem dL_law_1176 : decode cL_law 1176 = .ok (.iconst 1, 1) := by decide +kernel
theorem dL_law_1177 : decode cL_law 1177 = .ok (.iadd, 1) := by decide +kernel
theorem dL_law_1178 : decode cL_law 1178 = .ok (.iaload, 1) := by decide +kernel
theorem dL_law_1179 : decode cL_law 1179 = .ok (.aload_n 3, 1) := by decide +kernel
theorem dL_law_1180 : decode cL_law 1180 = .ok (.invokestatic 187, 3) := by decide +kernel
theorem dL_law_1183 : decode cL_law 1183 = .ok (.istore 6, 2) := by decide +kernel
theorem dL_law_1185 : decode cL_law 1185 = .ok (.aload_n 2, 1) := by decide +kernel
theorem dL_law_1186 : decode cL_law 1186 = .ok (.aload_n 0, 1) := by decide +kernel
theorem dL_law_1187 : decode cL_law 1187 = .ok (.iload 5, 2) := by decide +kernel
theorem dL_law_1189 : decode cL_law 1189 = .ok (.iconst 1, 1) := by decide +kernel
theorem dL_law_1190 : decode cL_law 1190 = .ok (.iadd, 1) := by decide +kernel
theorem dL_law_1191 : decode cL_law 1191 = .ok (.iaload, 1) := by decide +kernel
theorem dL_law_1192 : decode cL_law 1192 = .ok (.invokevirtual 189, 3) := by decide +kernel
theorem dL_law_1195 : decode cL_law 1195 = .ok (.istore 7, 2) := by decide +kernel
theorem dL_law_1197 : decode cL_law 1197 = .ok (.aload_n 2, 1) := by decide +kernel
theorem dL_law_1198 : decode cL_law 1198 = .ok (.invokevirtual 137, 3) := by decide +kernel
theorem dL_law_1201 : decode cL_law 1201 = .ok (.iload 6, 2) := by decide +kernel
theorem dL_law_1203 : decode cL_law 1203 = .ok (.if_icmp .eq 5, 3) := by decide +kernel
theorem dL_law_1206 : decode cL_law 1206 = .ok (.iconst 0, 1) := by decide +kernel
theorem dL_law_1207 : decode cL_law 1207 = .ok (.ireturn, 1) := by decide +kernel
theorem dL_law_1208 : decode cL_law 1208 = .ok (.iload 6, 2) := by decide +kernel
theorem dL_law_1210 : decode cL_law 1210 = .ok (.ifCond .ne 22, 3) := by decide +kernel
theorem dL_law_1213 : decode cL_law 1213 = .ok (.aload_n 3, 1) := by decide +kernel
theorem dL_law_1214 : decode cL_law 1214 = .ok (.iconst 0, 1) := by decide +kernel
theorem dL_law_1215 : decode cL_law 1215 = .ok (.laload, 1) := by decide +kernel
theorem dL_law_1216 : decode cL_law 1216 = .ok (.iload 7, 2) := by decide +kernel
theorem dL_law_1218 : decode cL_law 1218 = .ok (.ifCond .eq 7, 3) := by decide +kernel
theorem dL_law_1221 : decode cL_law 1221 = .ok (.lconst 1, 1) := by decide +kernel
theorem dL_law_1222 : decode cL_law 1222 = .ok (.goto 4, 3) := by decide +kernel
theorem dL_law_1225 : decode cL_law 1225 = .ok (.lconst 0, 1) := by decide +kernel
theorem dL_law_1226 : decode cL_law 1226 = .ok (.lcmp, 1) := by decide +kernel
theorem dL_law_1227 : decode cL_law 1227 = .ok (.ifCond .eq 5, 3) := by decide +kernel
theorem dL_law_1230 : decode cL_law 1230 = .ok (.iconst 0, 1) := by decide +kernel
theorem dL_law_1231 : decode cL_law 1231 = .ok (.ireturn, 1) := by decide +kernel
theorem dL_law_1232 : decode cL_law 1232 = .ok (.goto 1051, 3) := by decide +kernel
theorem dL_law_1235 : decode cL_law 1235 = .ok (.aload_n 1, 1) := by decide +kernel
theorem dL_law_1236 : decode cL_law 1236 = .ok (.aload_n 0, 1) := by decide +kernel
theorem dL_law_1237 : decode cL_law 1237 = .ok (.iload 5, 2) := by decide +kernel
theorem dL_law_1239 : decode cL_law 1239 = .ok (.iconst 1, 1) := by decide +kernel
theorem dL_law_1240 : decode cL_law 1240 = .ok (.iadd, 1) := by decide +kernel
theorem dL_law_1241 : decode cL_law 1241 = .ok (.iaload, 1) := by decide +kernel
theorem dL_law_1242 : decode cL_law 1242 = .ok (.aload_n 3, 1) := by decide +kernel
theorem dL_law_1243 : decode cL_law 1243 = .ok (.invokestatic 190, 3) := by decide +kernel
theorem dL_law_1246 : decode cL_law 1246 = .ok (.istore 6, 2) := by decide +kernel
theorem dL_law_1248 : decode cL_law 1248 = .ok (.aload_n 2, 1) := by decide +kernel
theorem dL_law_1249 : decode cL_law 1249 = .ok (.aload_n 0, 1) := by decide +kernel
theorem dL_law_1250 : decode cL_law 1250 = .ok (.iload 5, 2) := by decide +kernel
theorem dL_law_1252 : decode cL_law 1252 = .ok (.iconst 1, 1) := by decide +kernel
theorem dL_law_1253 : decode cL_law 1253 = .ok (.iadd, 1) := by decide +kernel
theorem dL_law_1254 : decode cL_law 1254 = .ok (.iaload, 1) := by decide +kernel
theorem dL_law_1255 : decode cL_law 1255 = .ok (.invokevirtual 192, 3) := by decide +kernel
theorem dL_law_1258 : decode cL_law 1258 = .ok (.istore 7, 2) := by decide +kernel
theorem dL_law_1260 : decode cL_law 1260 = .ok (.aload_n 2, 1) := by decide +kernel
theorem dL_law_1261 : decode cL_law 1261 = .ok (.invokevirtual 137, 3) := by decide +kernel
theorem dL_law_1264 : decode cL_law 1264 = .ok (.iload 6, 2) := by decide +kernel
theorem dL_law_1266 : decode cL_law 1266 = .ok (.if_icmp .eq 5, 3) := by decide +kernel
theorem dL_law_1269 : decode cL_law 1269 = .ok (.iconst 0, 1) := by decide +kernel
theorem dL_law_1270 : decode cL_law 1270 = .ok (.ireturn, 1) := by decide +kernel
theorem dL_law_1271 : decode cL_law 1271 = .ok (.iload 6, 2) := by decide +kernel
theorem dL_law_1273 : decode cL_law 1273 = .ok (.ifCond .ne 15, 3) := by decide +kernel
theorem dL_law_1276 : decode cL_law 1276 = .ok (.aload_n 3, 1) := by decide +kernel
theorem dL_law_1277 : decode cL_law 1277 = .ok (.iconst 0, 1) := by decide +kernel
theorem dL_law_1278 : decode cL_law 1278 = .ok (.laload, 1) := by decide +kernel
theorem dL_law_1279 : decode cL_law 1279 = .ok (.iload 7, 2) := by decide +kernel
theorem dL_law_1281 : decode cL_law 1281 = .ok (.i2l, 1) := by decide +kernel
theorem dL_law_1282 : decode cL_law 1282 = .ok (.lcmp, 1) := by decide +kernel
theorem dL_law_1283 : decode cL_law 1283 = .ok (.ifCond .eq 5, 3) := by decide +kernel
theorem dL_law_1286 : decode cL_law 1286 = .ok (.iconst 0, 1) := by decide +kernel
theorem dL_law_1287 : decode cL_law 1287 = .ok (.ireturn, 1) := by decide +kernel
theorem dL_law_1288 : decode cL_law 1288 = .ok (.goto 995, 3) := by decide +kernel
theorem dL_law_1291 : decode cL_law 1291 = .ok (.aload_n 1, 1) := by decide +kernel
theorem dL_law_1292 : decode cL_law 1292 = .ok (.aload_n 0, 1) := by decide +kernel
theorem dL_law_1293 : decode cL_law 1293 = .ok (.iload 5, 2) := by decide +kernel
theorem dL_law_1295 : decode cL_law 1295 = .ok (.iconst 1, 1) := by decide +kernel
theorem dL_law_1296 : decode cL_law 1296 = .ok (.iadd, 1) := by decide +kernel
theorem dL_law_1297 : decode cL_law 1297 = .ok (.iaload, 1) := by decide +kernel
theorem dL_law_1298 : decode cL_law 1298 = .ok (.aload_n 0, 1) := by decide +kernel
theorem dL_law_1299 : decode cL_law 1299 = .ok (.iload 5, 2) := by decide +kernel
theorem dL_law_1301 : decode cL_law 1301 = .ok (.iconst 2, 1) := by decide +kernel
theorem dL_law_1302 : decode cL_law 1302 = .ok (.iadd, 1) := by decide +kernel
theorem dL_law_1303 : decode cL_law 1303 = .ok (.iaload, 1) := by decide +kernel
theorem dL_law_1304 : decode cL_law 1304 = .ok (.aload_n 3, 1) := by decide +kernel
theorem dL_law_1305 : decode cL_law 1305 = .ok (.invokestatic 193, 3) := by decide +kernel
theorem dL_law_1308 : decode cL_law 1308 = .ok (.istore 6, 2) := by decide +kernel
theorem dL_law_1310 : decode cL_law 1310 = .ok (.aload_n 2, 1) := by decide +kernel
theorem dL_law_1311 : decode cL_law 1311 = .ok (.aload_n 0, 1) := by decide +kernel
theorem dL_law_1312 : decode cL_law 1312 = .ok (.iload 5, 2) := by decide +kernel
theorem dL_law_1314 : decode cL_law 1314 = .ok (.iconst 1, 1) := by decide +kernel
theorem dL_law_1315 : decode cL_law 1315 = .ok (.iadd, 1) := by decide +kernel
theorem dL_law_1316 : decode cL_law 1316 = .ok (.iaload, 1) := by decide +kernel
theorem dL_law_1317 : decode cL_law 1317 = .ok (.aload_n 0, 1) := by decide +kernel
theorem dL_law_1318 : decode cL_law 1318 = .ok (.iload 5, 2) := by decide +kernel
theorem dL_law_1320 : decode cL_law 1320 = .ok (.iconst 2, 1) := by decide +kernel
theorem dL_law_1321 : decode cL_law 1321 = .ok (.iadd, 1) := by decide +kernel
theorem dL_law_1322 : decode cL_law 1322 = .ok (.iaload, 1) := by decide +kernel
theorem dL_law_1323 : decode cL_law 1323 = .ok (.invokevirtual 195, 3) := by decide +kernel
theorem dL_law_1326 : decode cL_law 1326 = .ok (.istore 7, 2) := by decide +kernel
theorem dL_law_1328 : decode cL_law 1328 = .ok (.aload_n 2, 1) := by decide +kernel
theorem dL_law_1329 : decode cL_law 1329 = .ok (.invokevirtual 137, 3) := by decide +kernel
theorem dL_law_1332 : decode cL_law 1332 = .ok (.iload 6, 2) := by decide +kernel
theorem dL_law_1334 : decode cL_law 1334 = .ok (.if_icmp .eq 5, 3) := by decide +kernel
theorem dL_law_1337 : decode cL_law 1337 = .ok (.iconst 0, 1) := by decide +kernel
theorem dL_law_1338 : decode cL_law 1338 = .ok (.ireturn, 1) := by decide +kernel
theorem dL_law_1339 : decode cL_law 1339 = .ok (.iload 6, 2) := by decide +kernel
theorem dL_law_1341 : decode cL_law 1341 = .ok (.ifCond .ne 15, 3) := by decide +kernel
theorem dL_law_1344 : decode cL_law 1344 = .ok (.aload_n 3, 1) := by decide +kernel
theorem dL_law_1345 : decode cL_law 1345 = .ok (.iconst 0, 1) := by decide +kernel
theorem dL_law_1346 : decode cL_law 1346 = .ok (.laload, 1) := by decide +kernel
theorem dL_law_1347 : decode cL_law 1347 = .ok (.iload 7, 2) := by decide +kernel
theorem dL_law_1349 : decode cL_law 1349 = .ok (.i2l, 1) := by decide +kernel
theorem dL_law_1350 : decode cL_law 1350 = .ok (.lcmp, 1) := by decide +kernel
theorem dL_law_1351 : decode cL_law 1351 = .ok (.ifCond .eq 5, 3) := by decide +kernel
theorem dL_law_1354 : decode cL_law 1354 = .ok (.iconst 0, 1) := by decide +kernel
theorem dL_law_1355 : decode cL_law 1355 = .ok (.ireturn, 1) := by decide +kernel
theorem dL_law_1356 : decode cL_law 1356 = .ok (.goto 927, 3) := by decide +kernel
theorem dL_law_1359 : decode cL_law 1359 = .ok (.aload_n 1, 1) := by decide +kernel
theorem dL_law_1360 : decode cL_law 1360 = .ok (.aload_n 0, 1) := by decide +kernel
theorem dL_law_1361 : decode cL_law 1361 = .ok (.iload 5, 2) := by decide +kernel
theorem dL_law_1363 : decode cL_law 1363 = .ok (.iconst 1, 1) := by decide +kernel
theorem dL_law_1364 : decode cL_law 1364 = .ok (.iadd, 1) := by decide +kernel
theorem dL_law_1365 : decode cL_law 1365 = .ok (.iaload, 1) := by decide +kernel
theorem dL_law_1366 : decode cL_law 1366 = .ok (.aload_n 0, 1) := by decide +kernel
theorem dL_law_1367 : decode cL_law 1367 = .ok (.iload 5, 2) := by decide +kernel
theorem dL_law_1369 : decode cL_law 1369 = .ok (.iconst 2, 1) := by decide +kernel
theorem dL_law_1370 : decode cL_law 1370 = .ok (.iadd, 1) := by decide +kernel
theorem dL_law_1371 : decode cL_law 1371 = .ok (.iaload, 1) := by decide +kernel
theorem dL_law_1372 : decode cL_law 1372 = .ok (.ifCond .eq 7, 3) := by decide +kernel
theorem dL_law_1375 : decode cL_law 1375 = .ok (.iconst 1, 1) := by decide +kernel
theorem dL_law_1376 : decode cL_law 1376 = .ok (.goto 4, 3) := by decide +kernel
theorem dL_law_1379 : decode cL_law 1379 = .ok (.iconst 0, 1) := by decide +kernel
theorem dL_law_1380 : decode cL_law 1380 = .ok (.aload_n 3, 1) := by decide +kernel
theorem dL_law_1381 : decode cL_law 1381 = .ok (.invokestatic 196, 3) := by decide +kernel
theorem dL_law_1384 : decode cL_law 1384 = .ok (.istore 6, 2) := by decide +kernel
theorem dL_law_1386 : decode cL_law 1386 = .ok (.aload_n 2, 1) := by decide +kernel
theorem dL_law_1387 : decode cL_law 1387 = .ok (.aload_n 0, 1) := by decide +kernel
theorem dL_law_1388 : decode cL_law 1388 = .ok (.iload 5, 2) := by decide +kernel
theorem dL_law_1390 : decode cL_law 1390 = .ok (.iconst 1, 1) := by decide +kernel
theorem dL_law_1391 : decode cL_law 1391 = .ok (.iadd, 1) := by decide +kernel
theorem dL_law_1392 : decode cL_law 1392 = .ok (.iaload, 1) := by decide +kernel
theorem dL_law_1393 : decode cL_law 1393 = .ok (.aload_n 0, 1) := by decide +kernel
theorem dL_law_1394 : decode cL_law 1394 = .ok (.iload 5, 2) := by decide +kernel
theorem dL_law_1396 : decode cL_law 1396 = .ok (.iconst 2, 1) := by decide +kernel
theorem dL_law_1397 : decode cL_law 1397 = .ok (.iadd, 1) := by decide +kernel
theorem dL_law_1398 : decode cL_law 1398 = .ok (.iaload, 1) := by decide +kernel
theorem dL_law_1399 : decode cL_law 1399 = .ok (.ifCond .eq 7, 3) := by decide +kernel
theorem dL_law_1402 : decode cL_law 1402 = .ok (.iconst 1, 1) := by decide +kernel
theorem dL_law_1403 : decode cL_law 1403 = .ok (.goto 4, 3) := by decide +kernel
theorem dL_law_1406 : decode cL_law 1406 = .ok (.iconst 0, 1) := by decide +kernel
theorem dL_law_1407 : decode cL_law 1407 = .ok (.invokevirtual 199, 3) := by decide +kernel
theorem dL_law_1410 : decode cL_law 1410 = .ok (.istore 7, 2) := by decide +kernel
theorem dL_law_1412 : decode cL_law 1412 = .ok (.aload_n 2, 1) := by decide +kernel
theorem dL_law_1413 : decode cL_law 1413 = .ok (.invokevirtual 137, 3) := by decide +kernel
theorem dL_law_1416 : decode cL_law 1416 = .ok (.iload 6, 2) := by decide +kernel
theorem dL_law_1418 : decode cL_law 1418 = .ok (.if_icmp .eq 5, 3) := by decide +kernel
theorem dL_law_1421 : decode cL_law 1421 = .ok (.iconst 0, 1) := by decide +kernel
theorem dL_law_1422 : decode cL_law 1422 = .ok (.ireturn, 1) := by decide +kernel
theorem dL_law_1423 : decode cL_law 1423 = .ok (.iload 6, 2) := by decide +kernel
theorem dL_law_1425 : decode cL_law 1425 = .ok (.ifCond .ne 15, 3) := by decide +kernel
theorem dL_law_1428 : decode cL_law 1428 = .ok (.aload_n 3, 1) := by decide +kernel
theorem dL_law_1429 : decode cL_law 1429 = .ok (.iconst 0, 1) := by decide +kernel
theorem dL_law_1430 : decode cL_law 1430 = .ok (.laload, 1) := by decide +kernel
theorem dL_law_1431 : decode cL_law 1431 = .ok (.iload 7, 2) := by decide +kernel
theorem dL_law_1433 : decode cL_law 1433 = .ok (.i2l, 1) := by decide +kernel
theorem dL_law_1434 : decode cL_law 1434 = .ok (.lcmp, 1) := by decide +kernel
theorem dL_law_1435 : decode cL_law 1435 = .ok (.ifCond .eq 5, 3) := by decide +kernel
theorem dL_law_1438 : decode cL_law 1438 = .ok (.iconst 0, 1) := by decide +kernel
theorem dL_law_1439 : decode cL_law 1439 = .ok (.ireturn, 1) := by decide +kernel
theorem dL_law_1440 : decode cL_law 1440 = .ok (.goto 843, 3) := by decide +kernel
theorem dL_law_1443 : decode cL_law 1443 = .ok (.aload_n 1, 1) := by decide +kernel
theorem dL_law_1444 : decode cL_law 1444 = .ok (.aload_n 0, 1) := by decide +kernel
theorem dL_law_1445 : decode cL_law 1445 = .ok (.iload 5, 2) := by decide +kernel
theorem dL_law_1447 : decode cL_law 1447 = .ok (.iconst 1, 1) := by decide +kernel
theorem dL_law_1448 : decode cL_law 1448 = .ok (.iadd, 1) := by decide +kernel
theorem dL_law_1449 : decode cL_law 1449 = .ok (.iaload, 1) := by decide +kernel
theorem dL_law_1450 : decode cL_law 1450 = .ok (.aload_n 0, 1) := by decide +kernel
theorem dL_law_1451 : decode cL_law 1451 = .ok (.iload 5, 2) := by decide +kernel
theorem dL_law_1453 : decode cL_law 1453 = .ok (.iconst 2, 1) := by decide +kernel
theorem dL_law_1454 : decode cL_law 1454 = .ok (.iadd, 1) := by decide +kernel
theorem dL_law_1455 : decode cL_law 1455 = .ok (.iaload, 1) := by decide +kernel
theorem dL_law_1456 : decode cL_law 1456 = .ok (.aload_n 0, 1) := by decide +kernel
theorem dL_law_1457 : decode cL_law 1457 = .ok (.iload 5, 2) := by decide +kernel
theorem dL_law_1459 : decode cL_law 1459 = .ok (.iconst 3, 1) := by decide +kernel
theorem dL_law_1460 : decode cL_law 1460 = .ok (.iadd, 1) := by decide +kernel
theorem dL_law_1461 : decode cL_law 1461 = .ok (.iaload, 1) := by decide +kernel
theorem dL_law_1462 : decode cL_law 1462 = .ok (.aload_n 3, 1) := by decide +kernel
theorem dL_law_1463 : decode cL_law 1463 = .ok (.invokestatic 200, 3) := by decide +kernel
theorem dL_law_1466 : decode cL_law 1466 = .ok (.istore 6, 2) := by decide +kernel
theorem dL_law_1468 : decode cL_law 1468 = .ok (.aload_n 2, 1) := by decide +kernel
theorem dL_law_1469 : decode cL_law 1469 = .ok (.aload_n 0, 1) := by decide +kernel
theorem dL_law_1470 : decode cL_law 1470 = .ok (.iload 5, 2) := by decide +kernel
theorem dL_law_1472 : decode cL_law 1472 = .ok (.iconst 1, 1) := by decide +kernel
theorem dL_law_1473 : decode cL_law 1473 = .ok (.iadd, 1) := by decide +kernel
theorem dL_law_1474 : decode cL_law 1474 = .ok (.iaload, 1) := by decide +kernel
theorem dL_law_1475 : decode cL_law 1475 = .ok (.aload_n 0, 1) := by decide +kernel
theorem dL_law_1476 : decode cL_law 1476 = .ok (.iload 5, 2) := by decide +kernel
theorem dL_law_1478 : decode cL_law 1478 = .ok (.iconst 2, 1) := by decide +kernel
theorem dL_law_1479 : decode cL_law 1479 = .ok (.iadd, 1) := by decide +kernel
theorem dL_law_1480 : decode cL_law 1480 = .ok (.iaload, 1) := by decide +kernel
theorem dL_law_1481 : decode cL_law 1481 = .ok (.aload_n 0, 1) := by decide +kernel
theorem dL_law_1482 : decode cL_law 1482 = .ok (.iload 5, 2) := by decide +kernel
theorem dL_law_1484 : decode cL_law 1484 = .ok (.iconst 3, 1) := by decide +kernel
theorem dL_law_1485 : decode cL_law 1485 = .ok (.iadd, 1) := by decide +kernel
theorem dL_law_1486 : decode cL_law 1486 = .ok (.iaload, 1) := by decide +kernel
theorem dL_law_1487 : decode cL_law 1487 = .ok (.invokevirtual 202, 3) := by decide +kernel
theorem dL_law_1490 : decode cL_law 1490 = .ok (.istore 7, 2) := by decide +kernel
theorem dL_law_1492 : decode cL_law 1492 = .ok (.aload_n 2, 1) := by decide +kernel
theorem dL_law_1493 : decode cL_law 1493 = .ok (.invokevirtual 137, 3) := by decide +kernel
theorem dL_law_1496 : decode cL_law 1496 = .ok (.iload 6, 2) := by decide +kernel
theorem dL_law_1498 : decode cL_law 1498 = .ok (.if_icmp .eq 5, 3) := by decide +kernel
theorem dL_law_1501 : decode cL_law 1501 = .ok (.iconst 0, 1) := by decide +kernel
theorem dL_law_1502 : decode cL_law 1502 = .ok (.ireturn, 1) := by decide +kernel
theorem dL_law_1503 : decode cL_law 1503 = .ok (.iload 6, 2) := by decide +kernel
theorem dL_law_1505 : decode cL_law 1505 = .ok (.ifCond .ne 15, 3) := by decide +kernel
theorem dL_law_1508 : decode cL_law 1508 = .ok (.aload_n 3, 1) := by decide +kernel
theorem dL_law_1509 : decode cL_law 1509 = .ok (.iconst 0, 1) := by decide +kernel
theorem dL_law_1510 : decode cL_law 1510 = .ok (.laload, 1) := by decide +kernel
theorem dL_law_1511 : decode cL_law 1511 = .ok (.iload 7, 2) := by decide +kernel
theorem dL_law_1513 : decode cL_law 1513 = .ok (.i2l, 1) := by decide +kernel
theorem dL_law_1514 : decode cL_law 1514 = .ok (.lcmp, 1) := by decide +kernel
theorem dL_law_1515 : decode cL_law 1515 = .ok (.ifCond .eq 5, 3) := by decide +kernel
theorem dL_law_1518 : decode cL_law 1518 = .ok (.iconst 0, 1) := by decide +kernel
theorem dL_law_1519 : decode cL_law 1519 = .ok (.ireturn, 1) := by decide +kernel
theorem dL_law_1520 : decode cL_law 1520 = .ok (.goto 763, 3) := by decide +kernel
theorem dL_law_1523 : decode cL_law 1523 = .ok (.aload_n 1, 1) := by decide +kernel
theorem dL_law_1524 : decode cL_law 1524 = .ok (.aload_n 0, 1) := by decide +kernel
theorem dL_law_1525 : decode cL_law 1525 = .ok (.iload 5, 2) := by decide +kernel
theorem dL_law_1527 : decode cL_law 1527 = .ok (.iconst 1, 1) := by decide +kernel
theorem dL_law_1528 : decode cL_law 1528 = .ok (.iadd, 1) := by decide +kernel
theorem dL_law_1529 : decode cL_law 1529 = .ok (.iaload, 1) := by decide +kernel
theorem dL_law_1530 : decode cL_law 1530 = .ok (.aload_n 0, 1) := by decide +kernel
theorem dL_law_1531 : decode cL_law 1531 = .ok (.iload 5, 2) := by decide +kernel
theorem dL_law_1533 : decode cL_law 1533 = .ok (.iconst 2, 1) := by decide +kernel
theorem dL_law_1534 : decode cL_law 1534 = .ok (.iadd, 1) := by decide +kernel
theorem dL_law_1535 : decode cL_law 1535 = .ok (.iaload, 1) := by decide +kernel
theorem dL_law_1536 : decode cL_law 1536 = .ok (.ifCond .eq 7, 3) := by decide +kernel
theorem dL_law_1539 : decode cL_law 1539 = .ok (.iconst 1, 1) := by decide +kernel
theorem dL_law_1540 : decode cL_law 1540 = .ok (.goto 4, 3) := by decide +kernel
theorem dL_law_1543 : decode cL_law 1543 = .ok (.iconst 0, 1) := by decide +kernel
theorem dL_law_1544 : decode cL_law 1544 = .ok (.aload_n 0, 1) := by decide +kernel
theorem dL_law_1545 : decode cL_law 1545 = .ok (.iload 5, 2) := by decide +kernel
theorem dL_law_1547 : decode cL_law 1547 = .ok (.iconst 3, 1) := by decide +kernel
theorem dL_law_1548 : decode cL_law 1548 = .ok (.iadd, 1) := by decide +kernel
theorem dL_law_1549 : decode cL_law 1549 = .ok (.iaload, 1) := by decide +kernel
theorem dL_law_1550 : decode cL_law 1550 = .ok (.ifCond .eq 7, 3) := by decide +kernel
theorem dL_law_1553 : decode cL_law 1553 = .ok (.iconst 1, 1) := by decide +kernel
theorem dL_law_1554 : decode cL_law 1554 = .ok (.goto 4, 3) := by decide +kernel
theorem dL_law_1557 : decode cL_law 1557 = .ok (.iconst 0, 1) := by decide +kernel
theorem dL_law_1558 : decode cL_law 1558 = .ok (.aload_n 3, 1) := by decide +kernel
theorem dL_law_1559 : decode cL_law 1559 = .ok (.invokestatic 203, 3) := by decide +kernel
theorem dL_law_1562 : decode cL_law 1562 = .ok (.istore 6, 2) := by decide +kernel
theorem dL_law_1564 : decode cL_law 1564 = .ok (.aload_n 2, 1) := by decide +kernel
theorem dL_law_1565 : decode cL_law 1565 = .ok (.aload_n 0, 1) := by decide +kernel
theorem dL_law_1566 : decode cL_law 1566 = .ok (.iload 5, 2) := by decide +kernel
theorem dL_law_1568 : decode cL_law 1568 = .ok (.iconst 1, 1) := by decide +kernel
theorem dL_law_1569 : decode cL_law 1569 = .ok (.iadd, 1) := by decide +kernel
theorem dL_law_1570 : decode cL_law 1570 = .ok (.iaload, 1) := by decide +kernel
theorem dL_law_1571 : decode cL_law 1571 = .ok (.aload_n 0, 1) := by decide +kernel
theorem dL_law_1572 : decode cL_law 1572 = .ok (.iload 5, 2) := by decide +kernel
theorem dL_law_1574 : decode cL_law 1574 = .ok (.iconst 2, 1) := by decide +kernel
theorem dL_law_1575 : decode cL_law 1575 = .ok (.iadd, 1) := by decide +kernel
theorem dL_law_1576 : decode cL_law 1576 = .ok (.iaload, 1) := by decide +kernel
theorem dL_law_1577 : decode cL_law 1577 = .ok (.ifCond .eq 7, 3) := by decide +kernel
theorem dL_law_1580 : decode cL_law 1580 = .ok (.iconst 1, 1) := by decide +kernel
theorem dL_law_1581 : decode cL_law 1581 = .ok (.goto 4, 3) := by decide +kernel
theorem dL_law_1584 : decode cL_law 1584 = .ok (.iconst 0, 1) := by decide +kernel
theorem dL_law_1585 : decode cL_law 1585 = .ok (.aload_n 0, 1) := by decide +kernel
theorem dL_law_1586 : decode cL_law 1586 = .ok (.iload 5, 2) := by decide +kernel
theorem dL_law_1588 : decode cL_law 1588 = .ok (.iconst 3, 1) := by decide +kernel
theorem dL_law_1589 : decode cL_law 1589 = .ok (.iadd, 1) := by decide +kernel
theorem dL_law_1590 : decode cL_law 1590 = .ok (.iaload, 1) := by decide +kernel
theorem dL_law_1591 : decode cL_law 1591 = .ok (.ifCond .eq 7, 3) := by decide +kernel
theorem dL_law_1594 : decode cL_law 1594 = .ok (.iconst 1, 1) := by decide +kernel
theorem dL_law_1595 : decode cL_law 1595 = .ok (.goto 4, 3) := by decide +kernel
theorem dL_law_1598 : decode cL_law 1598 = .ok (.iconst 0, 1) := by decide +kernel
theorem dL_law_1599 : decode cL_law 1599 = .ok (.invokevirtual 206, 3) := by decide +kernel
theorem dL_law_1602 : decode cL_law 1602 = .ok (.istore 7, 2) := by decide +kernel
theorem dL_law_1604 : decode cL_law 1604 = .ok (.aload_n 2, 1) := by decide +kernel
theorem dL_law_1605 : decode cL_law 1605 = .ok (.invokevirtual 137, 3) := by decide +kernel
theorem dL_law_1608 : decode cL_law 1608 = .ok (.iload 6, 2) := by decide +kernel
theorem dL_law_1610 : decode cL_law 1610 = .ok (.if_icmp .eq 5, 3) := by decide +kernel
theorem dL_law_1613 : decode cL_law 1613 = .ok (.iconst 0, 1) := by decide +kernel
theorem dL_law_1614 : decode cL_law 1614 = .ok (.ireturn, 1) := by decide +kernel
theorem dL_law_1615 : decode cL_law 1615 = .ok (.iload 6, 2) := by decide +kernel
theorem dL_law_1617 : decode cL_law 1617 = .ok (.ifCond .ne 15, 3) := by decide +kernel
theorem dL_law_1620 : decode cL_law 1620 = .ok (.aload_n 3, 1) := by decide +kernel
theorem dL_law_1621 : decode cL_law 1621 = .ok (.iconst 0, 1) := by decide +kernel
theorem dL_law_1622 : decode cL_law 1622 = .ok (.laload, 1) := by decide +kernel
theorem dL_law_1623 : decode cL_law 1623 = .ok (.iload 7, 2) := by decide +kernel
theorem dL_law_1625 : decode cL_law 1625 = .ok (.i2l, 1) := by decide +kernel
theorem dL_law_1626 : decode cL_law 1626 = .ok (.lcmp, 1) := by decide +kernel
theorem dL_law_1627 : decode cL_law 1627 = .ok (.ifCond .eq 5, 3) := by decide +kernel
theorem dL_law_1630 : decode cL_law 1630 = .ok (.iconst 0, 1) := by decide +kernel
theorem dL_law_1631 : decode cL_law 1631 = .ok (.ireturn, 1) := by decide +kernel
theorem dL_law_1632 : decode cL_law 1632 = .ok (.goto 651, 3) := by decide +kernel
theorem dL_law_1635 : decode cL_law 1635 = .ok (.aload_n 1, 1) := by decide +kernel
theorem dL_law_1636 : decode cL_law 1636 = .ok (.aload_n 0, 1) := by decide +kernel
theorem dL_law_1637 : decode cL_law 1637 = .ok (.iload 5, 2) := by decide +kernel
theorem dL_law_1639 : decode cL_law 1639 = .ok (.iconst 1, 1) := by decide +kernel
theorem dL_law_1640 : decode cL_law 1640 = .ok (.iadd, 1) := by decide +kernel
theorem dL_law_1641 : decode cL_law 1641 = .ok (.iaload, 1) := by decide +kernel
theorem dL_law_1642 : decode cL_law 1642 = .ok (.aload_n 3, 1) := by decide +kernel
theorem dL_law_1643 : decode cL_law 1643 = .ok (.invokestatic 207, 3) := by decide +kernel
theorem dL_law_1646 : decode cL_law 1646 = .ok (.istore 6, 2) := by decide +kernel
theorem dL_law_1648 : decode cL_law 1648 = .ok (.aload_n 2, 1) := by decide +kernel
theorem dL_law_1649 : decode cL_law 1649 = .ok (.aload_n 0, 1) := by decide +kernel
theorem dL_law_1650 : decode cL_law 1650 = .ok (.iload 5, 2) := by decide +kernel
theorem dL_law_1652 : decode cL_law 1652 = .ok (.iconst 1, 1) := by decide +kernel
theorem dL_law_1653 : decode cL_law 1653 = .ok (.iadd, 1) := by decide +kernel
theorem dL_law_1654 : decode cL_law 1654 = .ok (.iaload, 1) := by decide +kernel
theorem dL_law_1655 : decode cL_law 1655 = .ok (.invokevirtual 209, 3) := by decide +kernel
theorem dL_law_1658 : decode cL_law 1658 = .ok (.istore 7, 2) := by decide +kernel
theorem dL_law_1660 : decode cL_law 1660 = .ok (.aload_n 2, 1) := by decide +kernel
theorem dL_law_1661 : decode cL_law 1661 = .ok (.invokevirtual 137, 3) := by decide +kernel
theorem dL_law_1664 : decode cL_law 1664 = .ok (.iload 6, 2) := by decide +kernel
theorem dL_law_1666 : decode cL_law 1666 = .ok (.if_icmp .eq 5, 3) := by decide +kernel
theorem dL_law_1669 : decode cL_law 1669 = .ok (.iconst 0, 1) := by decide +kernel
theorem dL_law_1670 : decode cL_law 1670 = .ok (.ireturn, 1) := by decide +kernel
theorem dL_law_1671 : decode cL_law 1671 = .ok (.iload 6, 2) := by decide +kernel
theorem dL_law_1673 : decode cL_law 1673 = .ok (.ifCond .ne 15, 3) := by decide +kernel
theorem dL_law_1676 : decode cL_law 1676 = .ok (.aload_n 3, 1) := by decide +kernel
theorem dL_law_1677 : decode cL_law 1677 = .ok (.iconst 0, 1) := by decide +kernel
theorem dL_law_1678 : decode cL_law 1678 = .ok (.laload, 1) := by decide +kernel
theorem dL_law_1679 : decode cL_law 1679 = .ok (.iload 7, 2) := by decide +kernel
theorem dL_law_1681 : decode cL_law 1681 = .ok (.i2l, 1) := by decide +kernel
theorem dL_law_1682 : decode cL_law 1682 = .ok (.lcmp, 1) := by decide +kernel
theorem dL_law_1683 : decode cL_law 1683 = .ok (.ifCond .eq 5, 3) := by decide +kernel
theorem dL_law_1686 : decode cL_law 1686 = .ok (.iconst 0, 1) := by decide +kernel
theorem dL_law_1687 : decode cL_law 1687 = .ok (.ireturn, 1) := by decide +kernel
theorem dL_law_1688 : decode cL_law 1688 = .ok (.goto 595, 3) := by decide +kernel
theorem dL_law_1691 : decode cL_law 1691 = .ok (.aload_n 1, 1) := by decide +kernel
theorem dL_law_1692 : decode cL_law 1692 = .ok (.aload_n 0, 1) := by decide +kernel
theorem dL_law_1693 : decode cL_law 1693 = .ok (.iload 5, 2) := by decide +kernel
theorem dL_law_1695 : decode cL_law 1695 = .ok (.iconst 1, 1) := by decide +kernel
theorem dL_law_1696 : decode cL_law 1696 = .ok (.iadd, 1) := by decide +kernel
theorem dL_law_1697 : decode cL_law 1697 = .ok (.iaload, 1) := by decide +kernel
theorem dL_law_1698 : decode cL_law 1698 = .ok (.aload_n 3, 1) := by decide +kernel
theorem dL_law_1699 : decode cL_law 1699 = .ok (.invokestatic 210, 3) := by decide +kernel
theorem dL_law_1702 : decode cL_law 1702 = .ok (.istore 6, 2) := by decide +kernel
theorem dL_law_1704 : decode cL_law 1704 = .ok (.aload_n 2, 1) := by decide +kernel
theorem dL_law_1705 : decode cL_law 1705 = .ok (.aload_n 0, 1) := by decide +kernel
theorem dL_law_1706 : decode cL_law 1706 = .ok (.iload 5, 2) := by decide +kernel
theorem dL_law_1708 : decode cL_law 1708 = .ok (.iconst 1, 1) := by decide +kernel
theorem dL_law_1709 : decode cL_law 1709 = .ok (.iadd, 1) := by decide +kernel
theorem dL_law_1710 : decode cL_law 1710 = .ok (.iaload, 1) := by decide +kernel
theorem dL_law_1711 : decode cL_law 1711 = .ok (.invokevirtual 212, 3) := by decide +kernel
theorem dL_law_1714 : decode cL_law 1714 = .ok (.istore 7, 2) := by decide +kernel
theorem dL_law_1716 : decode cL_law 1716 = .ok (.aload_n 2, 1) := by decide +kernel
theorem dL_law_1717 : decode cL_law 1717 = .ok (.invokevirtual 137, 3) := by decide +kernel
theorem dL_law_1720 : decode cL_law 1720 = .ok (.iload 6, 2) := by decide +kernel
theorem dL_law_1722 : decode cL_law 1722 = .ok (.if_icmp .eq 5, 3) := by decide +kernel
theorem dL_law_1725 : decode cL_law 1725 = .ok (.iconst 0, 1) := by decide +kernel
theorem dL_law_1726 : decode cL_law 1726 = .ok (.ireturn, 1) := by decide +kernel
theorem dL_law_1727 : decode cL_law 1727 = .ok (.iload 6, 2) := by decide +kernel
theorem dL_law_1729 : decode cL_law 1729 = .ok (.ifCond .ne 22, 3) := by decide +kernel
theorem dL_law_1732 : decode cL_law 1732 = .ok (.aload_n 3, 1) := by decide +kernel
theorem dL_law_1733 : decode cL_law 1733 = .ok (.iconst 0, 1) := by decide +kernel
theorem dL_law_1734 : decode cL_law 1734 = .ok (.laload, 1) := by decide +kernel
theorem dL_law_1735 : decode cL_law 1735 = .ok (.iload 7, 2) := by decide +kernel
theorem dL_law_1737 : decode cL_law 1737 = .ok (.ifCond .eq 7, 3) := by decide +kernel
theorem dL_law_1740 : decode cL_law 1740 = .ok (.lconst 1, 1) := by decide +kernel
theorem dL_law_1741 : decode cL_law 1741 = .ok (.goto 4, 3) := by decide +kernel
theorem dL_law_1744 : decode cL_law 1744 = .ok (.lconst 0, 1) := by decide +kernel
theorem dL_law_1745 : decode cL_law 1745 = .ok (.lcmp, 1) := by decide +kernel
theorem dL_law_1746 : decode cL_law 1746 = .ok (.ifCond .eq 5, 3) := by decide +kernel
theorem dL_law_1749 : decode cL_law 1749 = .ok (.iconst 0, 1) := by decide +kernel
theorem dL_law_1750 : decode cL_law 1750 = .ok (.ireturn, 1) := by decide +kernel
theorem dL_law_1751 : decode cL_law 1751 = .ok (.goto 532, 3) := by decide +kernel
theorem dL_law_1754 : decode cL_law 1754 = .ok (.aload_n 1, 1) := by decide +kernel
theorem dL_law_1755 : decode cL_law 1755 = .ok (.aload_n 0, 1) := by decide +kernel
theorem dL_law_1756 : decode cL_law 1756 = .ok (.iload 5, 2) := by decide +kernel
theorem dL_law_1758 : decode cL_law 1758 = .ok (.iconst 1, 1) := by decide +kernel
theorem dL_law_1759 : decode cL_law 1759 = .ok (.iadd, 1) := by decide +kernel
theorem dL_law_1760 : decode cL_law 1760 = .ok (.iaload, 1) := by decide +kernel
theorem dL_law_1761 : decode cL_law 1761 = .ok (.aload_n 3, 1) := by decide +kernel
theorem dL_law_1762 : decode cL_law 1762 = .ok (.invokestatic 213, 3) := by decide +kernel
theorem dL_law_1765 : decode cL_law 1765 = .ok (.istore 6, 2) := by decide +kernel
theorem dL_law_1767 : decode cL_law 1767 = .ok (.aload_n 2, 1) := by decide +kernel
theorem dL_law_1768 : decode cL_law 1768 = .ok (.aload_n 0, 1) := by decide +kernel
theorem dL_law_1769 : decode cL_law 1769 = .ok (.iload 5, 2) := by decide +kernel
theorem dL_law_1771 : decode cL_law 1771 = .ok (.iconst 1, 1) := by decide +kernel
theorem dL_law_1772 : decode cL_law 1772 = .ok (.iadd, 1) := by decide +kernel
theorem dL_law_1773 : decode cL_law 1773 = .ok (.iaload, 1) := by decide +kernel
theorem dL_law_1774 : decode cL_law 1774 = .ok (.invokevirtual 215, 3) := by decide +kernel
theorem dL_law_1777 : decode cL_law 1777 = .ok (.istore 7, 2) := by decide +kernel
theorem dL_law_1779 : decode cL_law 1779 = .ok (.aload_n 2, 1) := by decide +kernel
theorem dL_law_1780 : decode cL_law 1780 = .ok (.invokevirtual 137, 3) := by decide +kernel
theorem dL_law_1783 : decode cL_law 1783 = .ok (.iload 6, 2) := by decide +kernel
theorem dL_law_1785 : decode cL_law 1785 = .ok (.if_icmp .eq 5, 3) := by decide +kernel
theorem dL_law_1788 : decode cL_law 1788 = .ok (.iconst 0, 1) := by decide +kernel
theorem dL_law_1789 : decode cL_law 1789 = .ok (.ireturn, 1) := by decide +kernel
theorem dL_law_1790 : decode cL_law 1790 = .ok (.iload 6, 2) := by decide +kernel
theorem dL_law_1792 : decode cL_law 1792 = .ok (.ifCond .ne 22, 3) := by decide +kernel
theorem dL_law_1795 : decode cL_law 1795 = .ok (.aload_n 3, 1) := by decide +kernel
theorem dL_law_1796 : decode cL_law 1796 = .ok (.iconst 0, 1) := by decide +kernel
theorem dL_law_1797 : decode cL_law 1797 = .ok (.laload, 1) := by decide +kernel
theorem dL_law_1798 : decode cL_law 1798 = .ok (.iload 7, 2) := by decide +kernel
theorem dL_law_1800 : decode cL_law 1800 = .ok (.ifCond .eq 7, 3) := by decide +kernel
theorem dL_law_1803 : decode cL_law 1803 = .ok (.lconst 1, 1) := by decide +kernel
theorem dL_law_1804 : decode cL_law 1804 = .ok (.goto 4, 3) := by decide +kernel
theorem dL_law_1807 : decode cL_law 1807 = .ok (.lconst 0, 1) := by decide +kernel
theorem dL_law_1808 : decode cL_law 1808 = .ok (.lcmp, 1) := by decide +kernel
theorem dL_law_1809 : decode cL_law 1809 = .ok (.ifCond .eq 5, 3) := by decide +kernel
theorem dL_law_1812 : decode cL_law 1812 = .ok (.iconst 0, 1) := by decide +kernel
theorem dL_law_1813 : decode cL_law 1813 = .ok (.ireturn, 1) := by decide +kernel
theorem dL_law_1814 : decode cL_law 1814 = .ok (.goto 469, 3) := by decide +kernel
theorem dL_law_1817 : decode cL_law 1817 = .ok (.aload_n 1, 1) := by decide +kernel
theorem dL_law_1818 : decode cL_law 1818 = .ok (.aload_n 0, 1) := by decide +kernel
theorem dL_law_1819 : decode cL_law 1819 = .ok (.iload 5, 2) := by decide +kernel
theorem dL_law_1821 : decode cL_law 1821 = .ok (.iconst 1, 1) := by decide +kernel
theorem dL_law_1822 : decode cL_law 1822 = .ok (.iadd, 1) := by decide +kernel
theorem dL_law_1823 : decode cL_law 1823 = .ok (.iaload, 1) := by decide +kernel
theorem dL_law_1824 : decode cL_law 1824 = .ok (.aload_n 3, 1) := by decide +kernel
theorem dL_law_1825 : decode cL_law 1825 = .ok (.invokestatic 216, 3) := by decide +kernel
theorem dL_law_1828 : decode cL_law 1828 = .ok (.istore 6, 2) := by decide +kernel
theorem dL_law_1830 : decode cL_law 1830 = .ok (.aload_n 2, 1) := by decide +kernel
theorem dL_law_1831 : decode cL_law 1831 = .ok (.aload_n 0, 1) := by decide +kernel
theorem dL_law_1832 : decode cL_law 1832 = .ok (.iload 5, 2) := by decide +kernel
theorem dL_law_1834 : decode cL_law 1834 = .ok (.iconst 1, 1) := by decide +kernel
theorem dL_law_1835 : decode cL_law 1835 = .ok (.iadd, 1) := by decide +kernel
theorem dL_law_1836 : decode cL_law 1836 = .ok (.iaload, 1) := by decide +kernel
theorem dL_law_1837 : decode cL_law 1837 = .ok (.invokevirtual 218, 3) := by decide +kernel
theorem dL_law_1840 : decode cL_law 1840 = .ok (.istore 7, 2) := by decide +kernel
theorem dL_law_1842 : decode cL_law 1842 = .ok (.aload_n 2, 1) := by decide +kernel
theorem dL_law_1843 : decode cL_law 1843 = .ok (.invokevirtual 137, 3) := by decide +kernel
theorem dL_law_1846 : decode cL_law 1846 = .ok (.iload 6, 2) := by decide +kernel
theorem dL_law_1848 : decode cL_law 1848 = .ok (.if_icmp .eq 5, 3) := by decide +kernel
theorem dL_law_1851 : decode cL_law 1851 = .ok (.iconst 0, 1) := by decide +kernel
theorem dL_law_1852 : decode cL_law 1852 = .ok (.ireturn, 1) := by decide +kernel
theorem dL_law_1853 : decode cL_law 1853 = .ok (.iload 6, 2) := by decide +kernel
theorem dL_law_1855 : decode cL_law 1855 = .ok (.ifCond .ne 15, 3) := by decide +kernel
theorem dL_law_1858 : decode cL_law 1858 = .ok (.aload_n 3, 1) := by decide +kernel
theorem dL_law_1859 : decode cL_law 1859 = .ok (.iconst 0, 1) := by decide +kernel
theorem dL_law_1860 : decode cL_law 1860 = .ok (.laload, 1) := by decide +kernel
theorem dL_law_1861 : decode cL_law 1861 = .ok (.iload 7, 2) := by decide +kernel
theorem dL_law_1863 : decode cL_law 1863 = .ok (.i2l, 1) := by decide +kernel
theorem dL_law_1864 : decode cL_law 1864 = .ok (.lcmp, 1) := by decide +kernel
theorem dL_law_1865 : decode cL_law 1865 = .ok (.ifCond .eq 5, 3) := by decide +kernel
theorem dL_law_1868 : decode cL_law 1868 = .ok (.iconst 0, 1) := by decide +kernel
theorem dL_law_1869 : decode cL_law 1869 = .ok (.ireturn, 1) := by decide +kernel
theorem dL_law_1870 : decode cL_law 1870 = .ok (.goto 413, 3) := by decide +kernel
theorem dL_law_1873 : decode cL_law 1873 = .ok (.aload_n 1, 1) := by decide +kernel
theorem dL_law_1874 : decode cL_law 1874 = .ok (.aload_n 0, 1) := by decide +kernel
theorem dL_law_1875 : decode cL_law 1875 = .ok (.iload 5, 2) := by decide +kernel
theorem dL_law_1877 : decode cL_law 1877 = .ok (.iconst 1, 1) := by decide +kernel
theorem dL_law_1878 : decode cL_law 1878 = .ok (.iadd, 1) := by decide +kernel
theorem dL_law_1879 : decode cL_law 1879 = .ok (.iaload, 1) := by decide +kernel
theorem dL_law_1880 : decode cL_law 1880 = .ok (.aload_n 0, 1) := by decide +kernel
theorem dL_law_1881 : decode cL_law 1881 = .ok (.iload 5, 2) := by decide +kernel
theorem dL_law_1883 : decode cL_law 1883 = .ok (.iconst 2, 1) := by decide +kernel
theorem dL_law_1884 : decode cL_law 1884 = .ok (.iadd, 1) := by decide +kernel
theorem dL_law_1885 : decode cL_law 1885 = .ok (.iaload, 1) := by decide +kernel
theorem dL_law_1886 : decode cL_law 1886 = .ok (.aload_n 0, 1) := by decide +kernel
theorem dL_law_1887 : decode cL_law 1887 = .ok (.iload 5, 2) := by decide +kernel
theorem dL_law_1889 : decode cL_law 1889 = .ok (.iconst 3, 1) := by decide +kernel
theorem dL_law_1890 : decode cL_law 1890 = .ok (.iadd, 1) := by decide +kernel
theorem dL_law_1891 : decode cL_law 1891 = .ok (.iaload, 1) := by decide +kernel
theorem dL_law_1892 : decode cL_law 1892 = .ok (.i2c, 1) := by decide +kernel
theorem dL_law_1893 : decode cL_law 1893 = .ok (.aload_n 3, 1) := by decide +kernel
theorem dL_law_1894 : decode cL_law 1894 = .ok (.invokestatic 219, 3) := by decide +kernel
theorem dL_law_1897 : decode cL_law 1897 = .ok (.istore 6, 2) := by decide +kernel
theorem dL_law_1899 : decode cL_law 1899 = .ok (.aload_n 2, 1) := by decide +kernel
theorem dL_law_1900 : decode cL_law 1900 = .ok (.aload_n 0, 1) := by decide +kernel
theorem dL_law_1901 : decode cL_law 1901 = .ok (.iload 5, 2) := by decide +kernel
theorem dL_law_1903 : decode cL_law 1903 = .ok (.iconst 1, 1) := by decide +kernel
theorem dL_law_1904 : decode cL_law 1904 = .ok (.iadd, 1) := by decide +kernel
theorem dL_law_1905 : decode cL_law 1905 = .ok (.iaload, 1) := by decide +kernel
theorem dL_law_1906 : decode cL_law 1906 = .ok (.aload_n 0, 1) := by decide +kernel
theorem dL_law_1907 : decode cL_law 1907 = .ok (.iload 5, 2) := by decide +kernel
theorem dL_law_1909 : decode cL_law 1909 = .ok (.iconst 2, 1) := by decide +kernel
theorem dL_law_1910 : decode cL_law 1910 = .ok (.iadd, 1) := by decide +kernel
theorem dL_law_1911 : decode cL_law 1911 = .ok (.iaload, 1) := by decide +kernel
theorem dL_law_1912 : decode cL_law 1912 = .ok (.aload_n 0, 1) := by decide +kernel
theorem dL_law_1913 : decode cL_law 1913 = .ok (.iload 5, 2) := by decide +kernel
theorem dL_law_1915 : decode cL_law 1915 = .ok (.iconst 3, 1) := by decide +kernel
theorem dL_law_1916 : decode cL_law 1916 = .ok (.iadd, 1) := by decide +kernel
theorem dL_law_1917 : decode cL_law 1917 = .ok (.iaload, 1) := by decide +kernel
theorem dL_law_1918 : decode cL_law 1918 = .ok (.i2c, 1) := by decide +kernel
theorem dL_law_1919 : decode cL_law 1919 = .ok (.invokevirtual 222, 3) := by decide +kernel
theorem dL_law_1922 : decode cL_law 1922 = .ok (.istore 7, 2) := by decide +kernel
theorem dL_law_1924 : decode cL_law 1924 = .ok (.aload_n 2, 1) := by decide +kernel
theorem dL_law_1925 : decode cL_law 1925 = .ok (.invokevirtual 137, 3) := by decide +kernel
theorem dL_law_1928 : decode cL_law 1928 = .ok (.iload 6, 2) := by decide +kernel
theorem dL_law_1930 : decode cL_law 1930 = .ok (.if_icmp .eq 5, 3) := by decide +kernel
theorem dL_law_1933 : decode cL_law 1933 = .ok (.iconst 0, 1) := by decide +kernel
theorem dL_law_1934 : decode cL_law 1934 = .ok (.ireturn, 1) := by decide +kernel
theorem dL_law_1935 : decode cL_law 1935 = .ok (.iload 6, 2) := by decide +kernel
theorem dL_law_1937 : decode cL_law 1937 = .ok (.ifCond .ne 15, 3) := by decide +kernel
theorem dL_law_1940 : decode cL_law 1940 = .ok (.aload_n 3, 1) := by decide +kernel
theorem dL_law_1941 : decode cL_law 1941 = .ok (.iconst 0, 1) := by decide +kernel
theorem dL_law_1942 : decode cL_law 1942 = .ok (.laload, 1) := by decide +kernel
theorem dL_law_1943 : decode cL_law 1943 = .ok (.iload 7, 2) := by decide +kernel
theorem dL_law_1945 : decode cL_law 1945 = .ok (.i2l, 1) := by decide +kernel
theorem dL_law_1946 : decode cL_law 1946 = .ok (.lcmp, 1) := by decide +kernel
theorem dL_law_1947 : decode cL_law 1947 = .ok (.ifCond .eq 5, 3) := by decide +kernel
theorem dL_law_1950 : decode cL_law 1950 = .ok (.iconst 0, 1) := by decide +kernel
theorem dL_law_1951 : decode cL_law 1951 = .ok (.ireturn, 1) := by decide +kernel
theorem dL_law_1952 : decode cL_law 1952 = .ok (.goto 331, 3) := by decide +kernel
theorem dL_law_1955 : decode cL_law 1955 = .ok (.aload_n 1, 1) := by decide +kernel
theorem dL_law_1956 : decode cL_law 1956 = .ok (.aload_n 0, 1) := by decide +kernel
theorem dL_law_1957 : decode cL_law 1957 = .ok (.iload 5, 2) := by decide +kernel
theorem dL_law_1959 : decode cL_law 1959 = .ok (.iconst 1, 1) := by decide +kernel
theorem dL_law_1960 : decode cL_law 1960 = .ok (.iadd, 1) := by decide +kernel
theorem dL_law_1961 : decode cL_law 1961 = .ok (.iaload, 1) := by decide +kernel
theorem dL_law_1962 : decode cL_law 1962 = .ok (.aload_n 3, 1) := by decide +kernel
theorem dL_law_1963 : decode cL_law 1963 = .ok (.invokestatic 223, 3) := by decide +kernel
theorem dL_law_1966 : decode cL_law 1966 = .ok (.istore 6, 2) := by decide +kernel
theorem dL_law_1968 : decode cL_law 1968 = .ok (.aload_n 2, 1) := by decide +kernel
theorem dL_law_1969 : decode cL_law 1969 = .ok (.aload_n 0, 1) := by decide +kernel
theorem dL_law_1970 : decode cL_law 1970 = .ok (.iload 5, 2) := by decide +kernel
theorem dL_law_1972 : decode cL_law 1972 = .ok (.iconst 1, 1) := by decide +kernel
theorem dL_law_1973 : decode cL_law 1973 = .ok (.iadd, 1) := by decide +kernel
theorem dL_law_1974 : decode cL_law 1974 = .ok (.iaload, 1) := by decide +kernel
theorem dL_law_1975 : decode cL_law 1975 = .ok (.invokevirtual 225, 3) := by decide +kernel
theorem dL_law_1978 : decode cL_law 1978 = .ok (.istore 7, 2) := by decide +kernel
theorem dL_law_1980 : decode cL_law 1980 = .ok (.aload_n 2, 1) := by decide +kernel
theorem dL_law_1981 : decode cL_law 1981 = .ok (.invokevirtual 137, 3) := by decide +kernel
theorem dL_law_1984 : decode cL_law 1984 = .ok (.iload 6, 2) := by decide +kernel
theorem dL_law_1986 : decode cL_law 1986 = .ok (.if_icmp .eq 5, 3) := by decide +kernel
theorem dL_law_1989 : decode cL_law 1989 = .ok (.iconst 0, 1) := by decide +kernel
theorem dL_law_1990 : decode cL_law 1990 = .ok (.ireturn, 1) := by decide +kernel
theorem dL_law_1991 : decode cL_law 1991 = .ok (.iload 6, 2) := by decide +kernel
theorem dL_law_1993 : decode cL_law 1993 = .ok (.ifCond .ne 15, 3) := by decide +kernel
theorem dL_law_1996 : decode cL_law 1996 = .ok (.aload_n 3, 1) := by decide +kernel
theorem dL_law_1997 : decode cL_law 1997 = .ok (.iconst 0, 1) := by decide +kernel
theorem dL_law_1998 : decode cL_law 1998 = .ok (.laload, 1) := by decide +kernel
theorem dL_law_1999 : decode cL_law 1999 = .ok (.iload 7, 2) := by decide +kernel
theorem dL_law_2001 : decode cL_law 2001 = .ok (.i2l, 1) := by decide +kernel
theorem dL_law_2002 : decode cL_law 2002 = .ok (.lcmp, 1) := by decide +kernel
theorem dL_law_2003 : decode cL_law 2003 = .ok (.ifCond .eq 5, 3) := by decide +kernel
theorem dL_law_2006 : decode cL_law 2006 = .ok (.iconst 0, 1) := by decide +kernel
theorem dL_law_2007 : decode cL_law 2007 = .ok (.ireturn, 1) := by decide +kernel
theorem dL_law_2008 : decode cL_law 2008 = .ok (.goto 275, 3) := by decide +kernel
theorem dL_law_2011 : decode cL_law 2011 = .ok (.aload_n 1, 1) := by decide +kernel
theorem dL_law_2012 : decode cL_law 2012 = .ok (.aload_n 0, 1) := by decide +kernel
theorem dL_law_2013 : decode cL_law 2013 = .ok (.iload 5, 2) := by decide +kernel
theorem dL_law_2015 : decode cL_law 2015 = .ok (.iconst 1, 1) := by decide +kernel
theorem dL_law_2016 : decode cL_law 2016 = .ok (.iadd, 1) := by decide +kernel
theorem dL_law_2017 : decode cL_law 2017 = .ok (.iaload, 1) := by decide +kernel
theorem dL_law_2018 : decode cL_law 2018 = .ok (.aload_n 3, 1) := by decide +kernel
theorem dL_law_2019 : decode cL_law 2019 = .ok (.invokestatic 226, 3) := by decide +kernel
theorem dL_law_2022 : decode cL_law 2022 = .ok (.istore 6, 2) := by decide +kernel
theorem dL_law_2024 : decode cL_law 2024 = .ok (.aload_n 2, 1) := by decide +kernel
theorem dL_law_2025 : decode cL_law 2025 = .ok (.aload_n 0, 1) := by decide +kernel
theorem dL_law_2026 : decode cL_law 2026 = .ok (.iload 5, 2) := by decide +kernel
theorem dL_law_2028 : decode cL_law 2028 = .ok (.iconst 1, 1) := by decide +kernel
theorem dL_law_2029 : decode cL_law 2029 = .ok (.iadd, 1) := by decide +kernel
theorem dL_law_2030 : decode cL_law 2030 = .ok (.iaload, 1) := by decide +kernel
theorem dL_law_2031 : decode cL_law 2031 = .ok (.invokevirtual 228, 3) := by decide +kernel
theorem dL_law_2034 : decode cL_law 2034 = .ok (.istore 7, 2) := by decide +kernel
theorem dL_law_2036 : decode cL_law 2036 = .ok (.aload_n 2, 1) := by decide +kernel
theorem dL_law_2037 : decode cL_law 2037 = .ok (.invokevirtual 137, 3) := by decide +kernel
theorem dL_law_2040 : decode cL_law 2040 = .ok (.iload 6, 2) := by decide +kernel
theorem dL_law_2042 : decode cL_law 2042 = .ok (.if_icmp .eq 5, 3) := by decide +kernel
theorem dL_law_2045 : decode cL_law 2045 = .ok (.iconst 0, 1) := by decide +kernel
theorem dL_law_2046 : decode cL_law 2046 = .ok (.ireturn, 1) := by decide +kernel
theorem dL_law_2047 : decode cL_law 2047 = .ok (.iload 6, 2) := by decide +kernel
theorem dL_law_2049 : decode cL_law 2049 = .ok (.ifCond .ne 15, 3) := by decide +kernel
theorem dL_law_2052 : decode cL_law 2052 = .ok (.aload_n 3, 1) := by decide +kernel
theorem dL_law_2053 : decode cL_law 2053 = .ok (.iconst 0, 1) := by decide +kernel
theorem dL_law_2054 : decode cL_law 2054 = .ok (.laload, 1) := by decide +kernel
theorem dL_law_2055 : decode cL_law 2055 = .ok (.iload 7, 2) := by decide +kernel
theorem dL_law_2057 : decode cL_law 2057 = .ok (.i2l, 1) := by decide +kernel
theorem dL_law_2058 : decode cL_law 2058 = .ok (.lcmp, 1) := by decide +kernel
theorem dL_law_2059 : decode cL_law 2059 = .ok (.ifCond .eq 5, 3) := by decide +kernel
theorem dL_law_2062 : decode cL_law 2062 = .ok (.iconst 0, 1) := by decide +kernel
theorem dL_law_2063 : decode cL_law 2063 = .ok (.ireturn, 1) := by decide +kernel
theorem dL_law_2064 : decode cL_law 2064 = .ok (.goto 219, 3) := by decide +kernel
theorem dL_law_2067 : decode cL_law 2067 = .ok (.aload_n 1, 1) := by decide +kernel
theorem dL_law_2068 : decode cL_law 2068 = .ok (.aload_n 3, 1) := by decide +kernel
theorem dL_law_2069 : decode cL_law 2069 = .ok (.invokestatic 229, 3) := by decide +kernel
theorem dL_law_2072 : decode cL_law 2072 = .ok (.istore 6, 2) := by decide +kernel
theorem dL_law_2074 : decode cL_law 2074 = .ok (.aload_n 2, 1) := by decide +kernel
theorem dL_law_2075 : decode cL_law 2075 = .ok (.invokevirtual 231, 3) := by decide +kernel
theorem dL_law_2078 : decode cL_law 2078 = .ok (.istore 7, 2) := by decide +kernel
theorem dL_law_2080 : decode cL_law 2080 = .ok (.aload_n 2, 1) := by decide +kernel
theorem dL_law_2081 : decode cL_law 2081 = .ok (.invokevirtual 137, 3) := by decide +kernel
theorem dL_law_2084 : decode cL_law 2084 = .ok (.iload 6, 2) := by decide +kernel
theorem dL_law_2086 : decode cL_law 2086 = .ok (.if_icmp .eq 5, 3) := by decide +kernel
theorem dL_law_2089 : decode cL_law 2089 = .ok (.iconst 0, 1) := by decide +kernel
theorem dL_law_2090 : decode cL_law 2090 = .ok (.ireturn, 1) := by decide +kernel
theorem dL_law_2091 : decode cL_law 2091 = .ok (.iload 6, 2) := by decide +kernel
theorem dL_law_2093 : decode cL_law 2093 = .ok (.ifCond .ne 15, 3) := by decide +kernel
theorem dL_law_2096 : decode cL_law 2096 = .ok (.aload_n 3, 1) := by decide +kernel
theorem dL_law_2097 : decode cL_law 2097 = .ok (.iconst 0, 1) := by decide +kernel
theorem dL_law_2098 : decode cL_law 2098 = .ok (.laload, 1) := by decide +kernel
theorem dL_law_2099 : decode cL_law 2099 = .ok (.iload 7, 2) := by decide +kernel
theorem dL_law_2101 : decode cL_law 2101 = .ok (.i2l, 1) := by decide +kernel
theorem dL_law_2102 : decode cL_law 2102 = .ok (.lcmp, 1) := by decide +kernel
theorem dL_law_2103 : decode cL_law 2103 = .ok (.ifCond .eq 5, 3) := by decide +kernel
theorem dL_law_2106 : decode cL_law 2106 = .ok (.iconst 0, 1) := by decide +kernel
theorem dL_law_2107 : decode cL_law 2107 = .ok (.ireturn, 1) := by decide +kernel
theorem dL_law_2108 : decode cL_law 2108 = .ok (.goto 175, 3) := by decide +kernel
theorem dL_law_2111 : decode cL_law 2111 = .ok (.aload_n 1, 1) := by decide +kernel
theorem dL_law_2112 : decode cL_law 2112 = .ok (.invokevirtual 232, 3) := by decide +kernel
theorem dL_law_2115 : decode cL_law 2115 = .ok (.aload_n 2, 1) := by decide +kernel
theorem dL_law_2116 : decode cL_law 2116 = .ok (.invokevirtual 236, 3) := by decide +kernel
theorem dL_law_2119 : decode cL_law 2119 = .ok (.lcmp, 1) := by decide +kernel
theorem dL_law_2120 : decode cL_law 2120 = .ok (.ifCond .eq 163, 3) := by decide +kernel
theorem dL_law_2123 : decode cL_law 2123 = .ok (.iconst 0, 1) := by decide +kernel
theorem dL_law_2124 : decode cL_law 2124 = .ok (.ireturn, 1) := by decide +kernel
theorem dL_law_2125 : decode cL_law 2125 = .ok (.aload_n 1, 1) := by decide +kernel
theorem dL_law_2126 : decode cL_law 2126 = .ok (.invokevirtual 237, 3) := by decide +kernel
theorem dL_law_2129 : decode cL_law 2129 = .ok (.aload_n 2, 1) := by decide +kernel
theorem dL_law_2130 : decode cL_law 2130 = .ok (.invokevirtual 240, 3) := by decide +kernel
theorem dL_law_2133 : decode cL_law 2133 = .ok (.lcmp, 1) := by decide +kernel
theorem dL_law_2134 : decode cL_law 2134 = .ok (.ifCond .eq 149, 3) := by decide +kernel
theorem dL_law_2137 : decode cL_law 2137 = .ok (.iconst 0, 1) := by decide +kernel
theorem dL_law_2138 : decode cL_law 2138 = .ok (.ireturn, 1) := by decide +kernel
theorem dL_law_2139 : decode cL_law 2139 = .ok (.aload_n 1, 1) := by decide +kernel
theorem dL_law_2140 : decode cL_law 2140 = .ok (.aload 4, 2) := by decide +kernel
theorem dL_law_2142 : decode cL_law 2142 = .ok (.invokestatic 241, 3) := by decide +kernel
theorem dL_law_2145 : decode cL_law 2145 = .ok (.istore 6, 2) := by decide +kernel
theorem dL_law_2147 : decode cL_law 2147 = .ok (.aload_n 2, 1) := by decide +kernel
theorem dL_law_2148 : decode cL_law 2148 = .ok (.invokevirtual 244, 3) := by decide +kernel
theorem dL_law_2151 : decode cL_law 2151 = .ok (.fstore 7, 2) := by decide +kernel
theorem dL_law_2153 : decode cL_law 2153 = .ok (.aload_n 2, 1) := by decide +kernel
theorem dL_law_2154 : decode cL_law 2154 = .ok (.invokevirtual 137, 3) := by decide +kernel
theorem dL_law_2157 : decode cL_law 2157 = .ok (.iload 6, 2) := by decide +kernel
theorem dL_law_2159 : decode cL_law 2159 = .ok (.if_icmp .eq 5, 3) := by decide +kernel
theorem dL_law_2162 : decode cL_law 2162 = .ok (.iconst 0, 1) := by decide +kernel
theorem dL_law_2163 : decode cL_law 2163 = .ok (.ireturn, 1) := by decide +kernel
theorem dL_law_2164 : decode cL_law 2164 = .ok (.iload 6, 2) := by decide +kernel
theorem dL_law_2166 : decode cL_law 2166 = .ok (.ifCond .ne 36, 3) := by decide +kernel
theorem dL_law_2169 : decode cL_law 2169 = .ok (.aload 4, 2) := by decide +kernel
theorem dL_law_2171 : decode cL_law 2171 = .ok (.iconst 0, 1) := by decide +kernel
theorem dL_law_2172 : decode cL_law 2172 = .ok (.daload, 1) := by decide +kernel
theorem dL_law_2173 : decode cL_law 2173 = .ok (.fload 7, 2) := by decide +kernel
theorem dL_law_2175 : decode cL_law 2175 = .ok (.f2d, 1) := by decide +kernel
theorem dL_law_2176 : decode cL_law 2176 = .ok (.dcmp .l, 1) := by decide +kernel
theorem dL_law_2177 : decode cL_law 2177 = .ok (.ifCond .eq 25, 3) := by decide +kernel
theorem dL_law_2180 : decode cL_law 2180 = .ok (.aload 4, 2) := by decide +kernel
theorem dL_law_2182 : decode cL_law 2182 = .ok (.iconst 0, 1) := by decide +kernel
theorem dL_law_2183 : decode cL_law 2183 = .ok (.daload, 1) := by decide +kernel
theorem dL_law_2184 : decode cL_law 2184 = .ok (.aload 4, 2) := by decide +kernel
theorem dL_law_2186 : decode cL_law 2186 = .ok (.iconst 0, 1) := by decide +kernel
theorem dL_law_2187 : decode cL_law 2187 = .ok (.daload, 1) := by decide +kernel
theorem dL_law_2188 : decode cL_law 2188 = .ok (.dcmp .l, 1) := by decide +kernel
theorem dL_law_2189 : decode cL_law 2189 = .ok (.ifCond .eq 11, 3) := by decide +kernel
theorem dL_law_2192 : decode cL_law 2192 = .ok (.fload 7, 2) := by decide +kernel
theorem dL_law_2194 : decode cL_law 2194 = .ok (.fload 7, 2) := by decide +kernel
theorem dL_law_2196 : decode cL_law 2196 = .ok (.fcmp .l, 1) := by decide +kernel
theorem dL_law_2197 : decode cL_law 2197 = .ok (.ifCond .ne 5, 3) := by decide +kernel
theorem dL_law_2200 : decode cL_law 2200 = .ok (.iconst 0, 1) := by decide +kernel
theorem dL_law_2201 : decode cL_law 2201 = .ok (.ireturn, 1) := by decide +kernel
theorem dL_law_2202 : decode cL_law 2202 = .ok (.goto 81, 3) := by decide +kernel
theorem dL_law_2205 : decode cL_law 2205 = .ok (.aload_n 1, 1) := by decide +kernel
theorem dL_law_2206 : decode cL_law 2206 = .ok (.aload 4, 2) := by decide +kernel
theorem dL_law_2208 : decode cL_law 2208 = .ok (.invokestatic 245, 3) := by decide +kernel
theorem dL_law_2211 : decode cL_law 2211 = .ok (.istore 6, 2) := by decide +kernel
theorem dL_law_2213 : decode cL_law 2213 = .ok (.aload_n 2, 1) := by decide +kernel
theorem dL_law_2214 : decode cL_law 2214 = .ok (.invokevirtual 247, 3) := by decide +kernel
theorem dL_law_2217 : decode cL_law 2217 = .ok (.dstore 7, 2) := by decide +kernel
theorem dL_law_2219 : decode cL_law 2219 = .ok (.aload_n 2, 1) := by decide +kernel
theorem dL_law_2220 : decode cL_law 2220 = .ok (.invokevirtual 137, 3) := by decide +kernel
theorem dL_law_2223 : decode cL_law 2223 = .ok (.iload 6, 2) := by decide +kernel
theorem dL_law_2225 : decode cL_law 2225 = .ok (.if_icmp .eq 5, 3) := by decide +kernel
theorem dL_law_2228 : decode cL_law 2228 = .ok (.iconst 0, 1) := by decide +kernel
theorem dL_law_2229 : decode cL_law 2229 = .ok (.ireturn, 1) := by decide +kernel
theorem dL_law_2230 : decode cL_law 2230 = .ok (.iload 6, 2) := by decide +kernel
theorem dL_law_2232 : decode cL_law 2232 = .ok (.ifCond .ne 35, 3) := by decide +kernel
theorem dL_law_2235 : decode cL_law 2235 = .ok (.aload 4, 2) := by decide +kernel
theorem dL_law_2237 : decode cL_law 2237 = .ok (.iconst 0, 1) := by decide +kernel
theorem dL_law_2238 : decode cL_law 2238 = .ok (.daload, 1) := by decide +kernel
theorem dL_law_2239 : decode cL_law 2239 = .ok (.dload 7, 2) := by decide +kernel
theorem dL_law_2241 : decode cL_law 2241 = .ok (.dcmp .l, 1) := by decide +kernel
theorem dL_law_2242 : decode cL_law 2242 = .ok (.ifCond .eq 25, 3) := by decide +kernel
theorem dL_law_2245 : decode cL_law 2245 = .ok (.aload 4, 2) := by decide +kernel
theorem dL_law_2247 : decode cL_law 2247 = .ok (.iconst 0, 1) := by decide +kernel
theorem dL_law_2248 : decode cL_law 2248 = .ok (.daload, 1) := by decide +kernel
theorem dL_law_2249 : decode cL_law 2249 = .ok (.aload 4, 2) := by decide +kernel
theorem dL_law_2251 : decode cL_law 2251 = .ok (.iconst 0, 1) := by decide +kernel
theorem dL_law_2252 : decode cL_law 2252 = .ok (.daload, 1) := by decide +kernel
theorem dL_law_2253 : decode cL_law 2253 = .ok (.dcmp .l, 1) := by decide +kernel
theorem dL_law_2254 : decode cL_law 2254 = .ok (.ifCond .eq 11, 3) := by decide +kernel
theorem dL_law_2257 : decode cL_law 2257 = .ok (.dload 7, 2) := by decide +kernel
theorem dL_law_2259 : decode cL_law 2259 = .ok (.dload 7, 2) := by decide +kernel
theorem dL_law_2261 : decode cL_law 2261 = .ok (.dcmp .l, 1) := by decide +kernel
theorem dL_law_2262 : decode cL_law 2262 = .ok (.ifCond .ne 5, 3) := by decide +kernel
theorem dL_law_2265 : decode cL_law 2265 = .ok (.iconst 0, 1) := by decide +kernel
theorem dL_law_2266 : decode cL_law 2266 = .ok (.ireturn, 1) := by decide +kernel
theorem dL_law_2267 : decode cL_law 2267 = .ok (.goto 16, 3) := by decide +kernel
theorem dL_law_2270 : decode cL_law 2270 = .ok (.aload_n 1, 1) := by decide +kernel
theorem dL_law_2271 : decode cL_law 2271 = .ok (.invokevirtual 248, 3) := by decide +kernel
theorem dL_law_2274 : decode cL_law 2274 = .ok (.aload_n 2, 1) := by decide +kernel
theorem dL_law_2275 : decode cL_law 2275 = .ok (.invokevirtual 252, 3) := by decide +kernel
theorem dL_law_2278 : decode cL_law 2278 = .ok (.if_icmp .eq 5, 3) := by decide +kernel
theorem dL_law_2281 : decode cL_law 2281 = .ok (.iconst 0, 1) := by decide +kernel
theorem dL_law_2282 : decode cL_law 2282 = .ok (.ireturn, 1) := by decide +kernel
theorem dL_law_2283 : decode cL_law 2283 = .ok (.iinc 5 5, 3) := by decide +kernel
theorem dL_law_2286 : decode cL_law 2286 = .ok (.goto (-2258), 3) := by decide +kernel
theorem dL_law_2289 : decode cL_law 2289 = .ok (.iconst 1, 1) := by decide +kernel
theorem dL_law_2290 : decode cL_law 2290 = .ok (.ireturn, 1) := by decide +kernel
