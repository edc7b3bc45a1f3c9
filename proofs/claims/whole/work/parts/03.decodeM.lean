theorem dX8_init_0 : decode cX8_init 0 = .ok (.aload_n 0, 1) := by decide +kernel
theorem dX8_init_1 : decode cX8_init 1 = .ok (.invokespecial 1, 3) := by decide +kernel
theorem dX8_init_4 : decode cX8_init 4 = .ok (.aload_n 0, 1) := by decide +kernel
theorem dX8_init_5 : decode cX8_init 5 = .ok (.sipush 172, 3) := by decide +kernel
theorem dX8_init_8 : decode cX8_init 8 = .ok (.newarray .int, 2) := by decide +kernel
theorem dX8_init_10 : decode cX8_init 10 = .ok (.putfield 7, 3) := by decide +kernel
theorem dX8_init_13 : decode cX8_init 13 = .ok (.aload_n 0, 1) := by decide +kernel
theorem dX8_init_14 : decode cX8_init 14 = .ok (.sipush 860, 3) := by decide +kernel
theorem dX8_init_17 : decode cX8_init 17 = .ok (.newarray .int, 2) := by decide +kernel
theorem dX8_init_19 : decode cX8_init 19 = .ok (.putfield 13, 3) := by decide +kernel
theorem dX8_init_22 : decode cX8_init 22 = .ok (.aload_n 0, 1) := by decide +kernel
theorem dX8_init_23 : decode cX8_init 23 = .ok (.bipush 60, 2) := by decide +kernel
theorem dX8_init_25 : decode cX8_init 25 = .ok (.newarray .char, 2) := by decide +kernel
theorem dX8_init_27 : decode cX8_init 27 = .ok (.putfield 16, 3) := by decide +kernel
theorem dX8_init_30 : decode cX8_init 30 = .ok (.aload_n 0, 1) := by decide +kernel
theorem dX8_init_31 : decode cX8_init 31 = .ok (.bipush 12, 2) := by decide +kernel
theorem dX8_init_33 : decode cX8_init 33 = .ok (.newarray .int, 2) := by decide +kernel
theorem dX8_init_35 : decode cX8_init 35 = .ok (.putfield 20, 3) := by decide +kernel
theorem dX8_init_38 : decode cX8_init 38 = .ok (.aload_n 0, 1) := by decide +kernel
theorem dX8_init_39 : decode cX8_init 39 = .ok (.bipush 12, 2) := by decide +kernel
theorem dX8_init_41 : decode cX8_init 41 = .ok (.newarray .int, 2) := by decide +kernel
theorem dX8_init_43 : decode cX8_init 43 = .ok (.putfield 23, 3) := by decide +kernel
theorem dX8_init_46 : decode cX8_init 46 = .ok (.aload_n 0, 1) := by decide +kernel
theorem dX8_init_47 : decode cX8_init 47 = .ok (.bipush 12, 2) := by decide +kernel
theorem dX8_init_49 : decode cX8_init 49 = .ok (.newarray .int, 2) := by decide +kernel
theorem dX8_init_51 : decode cX8_init 51 = .ok (.putfield 26, 3) := by decide +kernel
theorem dX8_init_54 : decode cX8_init 54 = .ok (.aload_n 0, 1) := by decide +kernel
theorem dX8_init_55 : decode cX8_init 55 = .ok (.iconst 5, 1) := by decide +kernel
theorem dX8_init_56 : decode cX8_init 56 = .ok (.newarray .int, 2) := by decide +kernel
theorem dX8_init_58 : decode cX8_init 58 = .ok (.putfield 29, 3) := by decide +kernel
theorem dX8_init_61 : decode cX8_init 61 = .ok (.aload_n 0, 1) := by decide +kernel
theorem dX8_init_62 : decode cX8_init 62 = .ok (.getfield 7, 3) := by decide +kernel
theorem dX8_init_65 : decode cX8_init 65 = .ok (.iconst 2, 1) := by decide +kernel
theorem dX8_init_66 : decode cX8_init 66 = .ok (.sipush 200, 3) := by decide +kernel
theorem dX8_init_69 : decode cX8_init 69 = .ok (.iastore, 1) := by decide +kernel
theorem dX8_init_70 : decode cX8_init 70 = .ok (.aload_n 0, 1) := by decide +kernel
theorem dX8_init_71 : decode cX8_init 71 = .ok (.getfield 7, 3) := by decide +kernel
theorem dX8_init_74 : decode cX8_init 74 = .ok (.iconst 3, 1) := by decide +kernel
theorem dX8_init_75 : decode cX8_init 75 = .ok (.bipush 120, 2) := by decide +kernel
theorem dX8_init_77 : decode cX8_init 77 = .ok (.iastore, 1) := by decide +kernel
theorem dX8_init_78 : decode cX8_init 78 = .ok (.aload_n 0, 1) := by decide +kernel
theorem dX8_init_79 : decode cX8_init 79 = .ok (.getfield 7, 3) := by decide +kernel
theorem dX8_init_82 : decode cX8_init 82 = .ok (.iconst 4, 1) := by decide +kernel
theorem dX8_init_83 : decode cX8_init 83 = .ok (.iconst 4, 1) := by decide +kernel
theorem dX8_init_84 : decode cX8_init 84 = .ok (.iastore, 1) := by decide +kernel
theorem dX8_init_85 : decode cX8_init 85 = .ok (.aload_n 0, 1) := by decide +kernel
theorem dX8_init_86 : decode cX8_init 86 = .ok (.getfield 7, 3) := by decide +kernel
theorem dX8_init_89 : decode cX8_init 89 = .ok (.iconst 5, 1) := by decide +kernel
theorem dX8_init_90 : decode cX8_init 90 = .ok (.bipush 6, 2) := by decide +kernel
theorem dX8_init_92 : decode cX8_init 92 = .ok (.iastore, 1) := by decide +kernel
theorem dX8_init_93 : decode cX8_init 93 = .ok (.aload_n 0, 1) := by decide +kernel
theorem dX8_init_94 : decode cX8_init 94 = .ok (.getfield 7, 3) := by decide +kernel
theorem dX8_init_97 : decode cX8_init 97 = .ok (.bipush 6, 2) := by decide +kernel
theorem dX8_init_99 : decode cX8_init 99 = .ok (.iconst 3, 1) := by decide +kernel
theorem dX8_init_100 : decode cX8_init 100 = .ok (.iastore, 1) := by decide +kernel
theorem dX8_init_101 : decode cX8_init 101 = .ok (.aload_n 0, 1) := by decide +kernel
theorem dX8_init_102 : decode cX8_init 102 = .ok (.getfield 7, 3) := by decide +kernel
theorem dX8_init_105 : decode cX8_init 105 = .ok (.bipush 7, 2) := by decide +kernel
theorem dX8_init_107 : decode cX8_init 107 = .ok (.iconst 1, 1) := by decide +kernel
theorem dX8_init_108 : decode cX8_init 108 = .ok (.iastore, 1) := by decide +kernel
theorem dX8_init_109 : decode cX8_init 109 = .ok (.return_, 1) := by decide +kernel
theorem dX8_in_0 : decode cX8_in 0 = .ok (.iload_n 0, 1) := by decide +kernel
theorem dX8_in_1 : decode cX8_in 1 = .ok (.iload_n 1, 1) := by decide +kernel
theorem dX8_in_2 : decode cX8_in 2 = .ok (.if_icmp .lt 12, 3) := by decide +kernel
theorem dX8_in_5 : decode cX8_in 5 = .ok (.iload_n 0, 1) := by decide +kernel
theorem dX8_in_6 : decode cX8_in 6 = .ok (.iload_n 2, 1) := by decide +kernel
theorem dX8_in_7 : decode cX8_in 7 = .ok (.if_icmp .gt 7, 3) := by decide +kernel
theorem dX8_in_10 : decode cX8_in 10 = .ok (.iconst 1, 1) := by decide +kernel
theorem dX8_in_11 : decode cX8_in 11 = .ok (.goto 4, 3) := by decide +kernel
theorem dX8_in_14 : decode cX8_in 14 = .ok (.iconst 0, 1) := by decide +kernel
theorem dX8_in_15 : decode cX8_in 15 = .ok (.ireturn, 1) := by decide +kernel
theorem dX8_half_0 : decode cX8_half 0 = .ok (.iload_n 0, 1) := by decide +kernel
theorem dX8_half_1 : decode cX8_half 1 = .ok (.ifCond .lt 9, 3) := by decide +kernel
theorem dX8_half_4 : decode cX8_half 4 = .ok (.iload_n 0, 1) := by decide +kernel
theorem dX8_half_5 : decode cX8_half 5 = .ok (.iconst 2, 1) := by decide +kernel
theorem dX8_half_6 : decode cX8_half 6 = .ok (.idiv, 1) := by decide +kernel
theorem dX8_half_7 : decode cX8_half 7 = .ok (.goto 9, 3) := by decide +kernel
theorem dX8_half_10 : decode cX8_half 10 = .ok (.iconst 1, 1) := by decide +kernel
theorem dX8_half_11 : decode cX8_half 11 = .ok (.iload_n 0, 1) := by decide +kernel
theorem dX8_half_12 : decode cX8_half 12 = .ok (.isub, 1) := by decide +kernel
theorem dX8_half_13 : decode cX8_half 13 = .ok (.iconst 2, 1) := by decide +kernel
theorem dX8_half_14 : decode cX8_half 14 = .ok (.idiv, 1) := by decide +kernel
theorem dX8_half_15 : decode cX8_half 15 = .ok (.ineg, 1) := by decide +kernel
theorem dX8_half_16 : decode cX8_half 16 = .ok (.ireturn, 1) := by decide +kernel
theorem dX8_isAnchor_0 : decode cX8_isAnchor 0 = .ok (.iload_n 1, 1) := by decide +kernel
theorem dX8_isAnchor_1 : decode cX8_isAnchor 1 = .ok (.iconst 0, 1) := by decide +kernel
theorem dX8_isAnchor_2 : decode cX8_isAnchor 2 = .ok (.aload_n 0, 1) := by decide +kernel
theorem dX8_isAnchor_3 : decode cX8_isAnchor 3 = .ok (.getfield 7, 3) := by decide +kernel
theorem dX8_isAnchor_6 : decode cX8_isAnchor 6 = .ok (.bipush 9, 2) := by decide +kernel
theorem dX8_isAnchor_8 : decode cX8_isAnchor 8 = .ok (.iaload, 1) := by decide +kernel
theorem dX8_isAnchor_9 : decode cX8_isAnchor 9 = .ok (.iconst 1, 1) := by decide +kernel
theorem dX8_isAnchor_10 : decode cX8_isAnchor 10 = .ok (.isub, 1) := by decide +kernel
theorem dX8_isAnchor_11 : decode cX8_isAnchor 11 = .ok (.invokestatic 32, 3) := by decide +kernel
theorem dX8_isAnchor_14 : decode cX8_isAnchor 14 = .ok (.ireturn, 1) := by decide +kernel
theorem dX8_isHint_0 : decode cX8_isHint 0 = .ok (.iload_n 1, 1) := by decide +kernel
theorem dX8_isHint_1 : decode cX8_isHint 1 = .ok (.iconst 0, 1) := by decide +kernel
theorem dX8_isHint_2 : decode cX8_isHint 2 = .ok (.aload_n 0, 1) := by decide +kernel
theorem dX8_isHint_3 : decode cX8_isHint 3 = .ok (.getfield 7, 3) := by decide +kernel
theorem dX8_isHint_6 : decode cX8_isHint 6 = .ok (.bipush 50, 2) := by decide +kernel
theorem dX8_isHint_8 : decode cX8_isHint 8 = .ok (.iaload, 1) := by decide +kernel
theorem dX8_isHint_9 : decode cX8_isHint 9 = .ok (.iconst 1, 1) := by decide +kernel
theorem dX8_isHint_10 : decode cX8_isHint 10 = .ok (.isub, 1) := by decide +kernel
theorem dX8_isHint_11 : decode cX8_isHint 11 = .ok (.invokestatic 32, 3) := by decide +kernel
theorem dX8_isHint_14 : decode cX8_isHint 14 = .ok (.ireturn, 1) := by decide +kernel
theorem dX8_ofAnchor_0 : decode cX8_ofAnchor 0 = .ok (.aload_n 0, 1) := by decide +kernel
theorem dX8_ofAnchor_1 : decode cX8_ofAnchor 1 = .ok (.getfield 7, 3) := by decide +kernel
theorem dX8_ofAnchor_4 : decode cX8_ofAnchor 4 = .ok (.bipush 10, 2) := by decide +kernel
theorem dX8_ofAnchor_6 : decode cX8_ofAnchor 6 = .ok (.bipush 10, 2) := by decide +kernel
theorem dX8_ofAnchor_8 : decode cX8_ofAnchor 8 = .ok (.iload_n 2, 1) := by decide +kernel
theorem dX8_ofAnchor_9 : decode cX8_ofAnchor 9 = .ok (.imul, 1) := by decide +kernel
theorem dX8_ofAnchor_10 : decode cX8_ofAnchor 10 = .ok (.iadd, 1) := by decide +kernel
theorem dX8_ofAnchor_11 : decode cX8_ofAnchor 11 = .ok (.iload_n 1, 1) := by decide +kernel
theorem dX8_ofAnchor_12 : decode cX8_ofAnchor 12 = .ok (.iadd, 1) := by decide +kernel
theorem dX8_ofAnchor_13 : decode cX8_ofAnchor 13 = .ok (.iaload, 1) := by decide +kernel
theorem dX8_ofAnchor_14 : decode cX8_ofAnchor 14 = .ok (.ireturn, 1) := by decide +kernel
theorem dX8_ofHint_0 : decode cX8_ofHint 0 = .ok (.aload_n 0, 1) := by decide +kernel
theorem dX8_ofHint_1 : decode cX8_ofHint 1 = .ok (.getfield 7, 3) := by decide +kernel
theorem dX8_ofHint_4 : decode cX8_ofHint 4 = .ok (.bipush 51, 2) := by decide +kernel
theorem dX8_ofHint_6 : decode cX8_ofHint 6 = .ok (.bipush 12, 2) := by decide +kernel
theorem dX8_ofHint_8 : decode cX8_ofHint 8 = .ok (.iload_n 2, 1) := by decide +kernel
theorem dX8_ofHint_9 : decode cX8_ofHint 9 = .ok (.imul, 1) := by decide +kernel
theorem dX8_ofHint_10 : decode cX8_ofHint 10 = .ok (.iadd, 1) := by decide +kernel
theorem dX8_ofHint_11 : decode cX8_ofHint 11 = .ok (.iload_n 1, 1) := by decide +kernel
theorem dX8_ofHint_12 : decode cX8_ofHint 12 = .ok (.iadd, 1) := by decide +kernel
theorem dX8_ofHint_13 : decode cX8_ofHint 13 = .ok (.iaload, 1) := by decide +kernel
theorem dX8_ofHint_14 : decode cX8_ofHint 14 = .ok (.ireturn, 1) := by decide +kernel
theorem dX8_records_0 : decode cX8_records 0 = .ok (.aload_n 0, 1) := by decide +kernel
theorem dX8_records_1 : decode cX8_records 1 = .ok (.getfield 36, 3) := by decide +kernel
theorem dX8_records_4 : decode cX8_records 4 = .ok (.iconst 5, 1) := by decide +kernel
theorem dX8_records_5 : decode cX8_records 5 = .ok (.if_icmp .ne 44, 3) := by decide +kernel
theorem dX8_records_8 : decode cX8_records 8 = .ok (.iconst 0, 1) := by decide +kernel
theorem dX8_records_9 : decode cX8_records 9 = .ok (.istore_n 1, 1) := by decide +kernel
theorem dX8_records_10 : decode cX8_records 10 = .ok (.iload_n 1, 1) := by decide +kernel
theorem dX8_records_11 : decode cX8_records 11 = .ok (.sipush 688, 3) := by decide +kernel
theorem dX8_records_14 : decode cX8_records 14 = .ok (.if_icmp .ge 25, 3) := by decide +kernel
theorem dX8_records_17 : decode cX8_records 17 = .ok (.aload_n 0, 1) := by decide +kernel
theorem dX8_records_18 : decode cX8_records 18 = .ok (.getfield 13, 3) := by decide +kernel
theorem dX8_records_21 : decode cX8_records 21 = .ok (.iload_n 1, 1) := by decide +kernel
theorem dX8_records_22 : decode cX8_records 22 = .ok (.aload_n 0, 1) := by decide +kernel
theorem dX8_records_23 : decode cX8_records 23 = .ok (.getfield 13, 3) := by decide +kernel
theorem dX8_records_26 : decode cX8_records 26 = .ok (.iload_n 1, 1) := by decide +kernel
theorem dX8_records_27 : decode cX8_records 27 = .ok (.sipush 172, 3) := by decide +kernel
theorem dX8_records_30 : decode cX8_records 30 = .ok (.iadd, 1) := by decide +kernel
theorem dX8_records_31 : decode cX8_records 31 = .ok (.iaload, 1) := by decide +kernel
theorem dX8_records_32 : decode cX8_records 32 = .ok (.iastore, 1) := by decide +kernel
theorem dX8_records_33 : decode cX8_records 33 = .ok (.iinc 1 1, 3) := by decide +kernel
theorem dX8_records_36 : decode cX8_records 36 = .ok (.goto (-26), 3) := by decide +kernel
theorem dX8_records_39 : decode cX8_records 39 = .ok (.aload_n 0, 1) := by decide +kernel
theorem dX8_records_40 : decode cX8_records 40 = .ok (.dup, 1) := by decide +kernel
theorem dX8_records_41 : decode cX8_records 41 = .ok (.getfield 36, 3) := by decide +kernel
theorem dX8_records_44 : decode cX8_records 44 = .ok (.iconst 1, 1) := by decide +kernel
theorem dX8_records_45 : decode cX8_records 45 = .ok (.isub, 1) := by decide +kernel
theorem dX8_records_46 : decode cX8_records 46 = .ok (.putfield 36, 3) := by decide +kernel
theorem dX8_records_49 : decode cX8_records 49 = .ok (.iconst 0, 1) := by decide +kernel
theorem dX8_records_50 : decode cX8_records 50 = .ok (.istore_n 1, 1) := by decide +kernel
theorem dX8_records_51 : decode cX8_records 51 = .ok (.iload_n 1, 1) := by decide +kernel
theorem dX8_records_52 : decode cX8_records 52 = .ok (.sipush 172, 3) := by decide +kernel
theorem dX8_records_55 : decode cX8_records 55 = .ok (.if_icmp .ge 30, 3) := by decide +kernel
theorem dX8_records_58 : decode cX8_records 58 = .ok (.aload_n 0, 1) := by decide +kernel
theorem dX8_records_59 : decode cX8_records 59 = .ok (.getfield 13, 3) := by decide +kernel
theorem dX8_records_62 : decode cX8_records 62 = .ok (.sipush 172, 3) := by decide +kernel
theorem dX8_records_65 : decode cX8_records 65 = .ok (.aload_n 0, 1) := by decide +kernel
theorem dX8_records_66 : decode cX8_records 66 = .ok (.getfield 36, 3) := by decide +kernel
theorem dX8_records_69 : decode cX8_records 69 = .ok (.imul, 1) := by decide +kernel
theorem dX8_records_70 : decode cX8_records 70 = .ok (.iload_n 1, 1) := by decide +kernel
theorem dX8_records_71 : decode cX8_records 71 = .ok (.iadd, 1) := by decide +kernel
theorem dX8_records_72 : decode cX8_records 72 = .ok (.aload_n 0, 1) := by decide +kernel
theorem dX8_records_73 : decode cX8_records 73 = .ok (.getfield 7, 3) := by decide +kernel
theorem dX8_records_76 : decode cX8_records 76 = .ok (.iload_n 1, 1) := by decide +kernel
theorem dX8_records_77 : decode cX8_records 77 = .ok (.iaload, 1) := by decide +kernel
theorem dX8_records_78 : decode cX8_records 78 = .ok (.iastore, 1) := by decide +kernel
theorem dX8_records_79 : decode cX8_records 79 = .ok (.iinc 1 1, 3) := by decide +kernel
theorem dX8_records_82 : decode cX8_records 82 = .ok (.goto (-31), 3) := by decide +kernel
theorem dX8_records_85 : decode cX8_records 85 = .ok (.aload_n 0, 1) := by decide +kernel
theorem dX8_records_86 : decode cX8_records 86 = .ok (.dup, 1) := by decide +kernel
theorem dX8_records_87 : decode cX8_records 87 = .ok (.getfield 36, 3) := by decide +kernel
theorem dX8_records_90 : decode cX8_records 90 = .ok (.iconst 1, 1) := by decide +kernel
theorem dX8_records_91 : decode cX8_records 91 = .ok (.iadd, 1) := by decide +kernel
theorem dX8_records_92 : decode cX8_records 92 = .ok (.putfield 36, 3) := by decide +kernel
theorem dX8_records_95 : decode cX8_records 95 = .ok (.return_, 1) := by decide +kernel
theorem dX8_meets_0 : decode cX8_meets 0 = .ok (.iload_n 0, 1) := by decide +kernel
theorem dX8_meets_1 : decode cX8_meets 1 = .ok (.iload 4, 2) := by decide +kernel
theorem dX8_meets_3 : decode cX8_meets 3 = .ok (.iload 6, 2) := by decide +kernel
theorem dX8_meets_5 : decode cX8_meets 5 = .ok (.iadd, 1) := by decide +kernel
theorem dX8_meets_6 : decode cX8_meets 6 = .ok (.if_icmp .ge 32, 3) := by decide +kernel
theorem dX8_meets_9 : decode cX8_meets 9 = .ok (.iload 4, 2) := by decide +kernel
theorem dX8_meets_11 : decode cX8_meets 11 = .ok (.iload_n 0, 1) := by decide +kernel
theorem dX8_meets_12 : decode cX8_meets 12 = .ok (.iload_n 2, 1) := by decide +kernel
theorem dX8_meets_13 : decode cX8_meets 13 = .ok (.iadd, 1) := by decide +kernel
theorem dX8_meets_14 : decode cX8_meets 14 = .ok (.if_icmp .ge 24, 3) := by decide +kernel
theorem dX8_meets_17 : decode cX8_meets 17 = .ok (.iload_n 1, 1) := by decide +kernel
theorem dX8_meets_18 : decode cX8_meets 18 = .ok (.iload 5, 2) := by decide +kernel
theorem dX8_meets_20 : decode cX8_meets 20 = .ok (.iload 7, 2) := by decide +kernel
theorem dX8_meets_22 : decode cX8_meets 22 = .ok (.iadd, 1) := by decide +kernel
theorem dX8_meets_23 : decode cX8_meets 23 = .ok (.if_icmp .ge 15, 3) := by decide +kernel
theorem dX8_meets_26 : decode cX8_meets 26 = .ok (.iload 5, 2) := by decide +kernel
theorem dX8_meets_28 : decode cX8_meets 28 = .ok (.iload_n 1, 1) := by decide +kernel
theorem dX8_meets_29 : decode cX8_meets 29 = .ok (.iload_n 3, 1) := by decide +kernel
theorem dX8_meets_30 : decode cX8_meets 30 = .ok (.iadd, 1) := by decide +kernel
theorem dX8_meets_31 : decode cX8_meets 31 = .ok (.if_icmp .ge 7, 3) := by decide +kernel
theorem dX8_meets_34 : decode cX8_meets 34 = .ok (.iconst 1, 1) := by decide +kernel
theorem dX8_meets_35 : decode cX8_meets 35 = .ok (.goto 4, 3) := by decide +kernel
theorem dX8_meets_38 : decode cX8_meets 38 = .ok (.iconst 0, 1) := by decide +kernel
theorem dX8_meets_39 : decode cX8_meets 39 = .ok (.ireturn, 1) := by decide +kernel
theorem dX8_isSeen_0 : decode cX8_isSeen 0 = .ok (.aload_n 0, 1) := by decide +kernel
theorem dX8_isSeen_1 : decode cX8_isSeen 1 = .ok (.iload_n 1, 1) := by decide +kernel
theorem dX8_isSeen_2 : decode cX8_isSeen 2 = .ok (.iconst 0, 1) := by decide +kernel
theorem dX8_isSeen_3 : decode cX8_isSeen 3 = .ok (.invokevirtual 40, 3) := by decide +kernel
theorem dX8_isSeen_6 : decode cX8_isSeen 6 = .ok (.aload_n 0, 1) := by decide +kernel
theorem dX8_isSeen_7 : decode cX8_isSeen 7 = .ok (.iload_n 1, 1) := by decide +kernel
theorem dX8_isSeen_8 : decode cX8_isSeen 8 = .ok (.iconst 1, 1) := by decide +kernel
theorem dX8_isSeen_9 : decode cX8_isSeen 9 = .ok (.invokevirtual 40, 3) := by decide +kernel
theorem dX8_isSeen_12 : decode cX8_isSeen 12 = .ok (.aload_n 0, 1) := by decide +kernel
theorem dX8_isSeen_13 : decode cX8_isSeen 13 = .ok (.iload_n 1, 1) := by decide +kernel
theorem dX8_isSeen_14 : decode cX8_isSeen 14 = .ok (.iconst 2, 1) := by decide +kernel
theorem dX8_isSeen_15 : decode cX8_isSeen 15 = .ok (.invokevirtual 40, 3) := by decide +kernel
theorem dX8_isSeen_18 : decode cX8_isSeen 18 = .ok (.aload_n 0, 1) := by decide +kernel
theorem dX8_isSeen_19 : decode cX8_isSeen 19 = .ok (.iload_n 1, 1) := by decide +kernel
theorem dX8_isSeen_20 : decode cX8_isSeen 20 = .ok (.iconst 3, 1) := by decide +kernel
theorem dX8_isSeen_21 : decode cX8_isSeen 21 = .ok (.invokevirtual 40, 3) := by decide +kernel
theorem dX8_isSeen_24 : decode cX8_isSeen 24 = .ok (.aload_n 0, 1) := by decide +kernel
theorem dX8_isSeen_25 : decode cX8_isSeen 25 = .ok (.getfield 7, 3) := by decide +kernel
theorem dX8_isSeen_28 : decode cX8_isSeen 28 = .ok (.iconst 0, 1) := by decide +kernel
theorem dX8_isSeen_29 : decode cX8_isSeen 29 = .ok (.iaload, 1) := by decide +kernel
theorem dX8_isSeen_30 : decode cX8_isSeen 30 = .ok (.aload_n 0, 1) := by decide +kernel
theorem dX8_isSeen_31 : decode cX8_isSeen 31 = .ok (.getfield 7, 3) := by decide +kernel
theorem dX8_isSeen_34 : decode cX8_isSeen 34 = .ok (.iconst 1, 1) := by decide +kernel
theorem dX8_isSeen_35 : decode cX8_isSeen 35 = .ok (.iaload, 1) := by decide +kernel
theorem dX8_isSeen_36 : decode cX8_isSeen 36 = .ok (.aload_n 0, 1) := by decide +kernel
theorem dX8_isSeen_37 : decode cX8_isSeen 37 = .ok (.getfield 7, 3) := by decide +kernel
theorem dX8_isSeen_40 : decode cX8_isSeen 40 = .ok (.iconst 2, 1) := by decide +kernel
theorem dX8_isSeen_41 : decode cX8_isSeen 41 = .ok (.iaload, 1) := by decide +kernel
theorem dX8_isSeen_42 : decode cX8_isSeen 42 = .ok (.aload_n 0, 1) := by decide +kernel
theorem dX8_isSeen_43 : decode cX8_isSeen 43 = .ok (.getfield 7, 3) := by decide +kernel
theorem dX8_isSeen_46 : decode cX8_isSeen 46 = .ok (.iconst 3, 1) := by decide +kernel
theorem dX8_isSeen_47 : decode cX8_isSeen 47 = .ok (.iaload, 1) := by decide +kernel
theorem dX8_isSeen_48 : decode cX8_isSeen 48 = .ok (.invokestatic 44, 3) := by decide +kernel
theorem dX8_isSeen_51 : decode cX8_isSeen 51 = .ok (.ireturn, 1) := by decide +kernel
theorem dX8_isGood_0 : decode cX8_isGood 0 = .ok (.iload_n 1, 1) := by decide +kernel
theorem dX8_isGood_1 : decode cX8_isGood 1 = .ok (.aload_n 0, 1) := by decide +kernel
theorem dX8_isGood_2 : decode cX8_isGood 2 = .ok (.getfield 7, 3) := by decide +kernel
theorem dX8_isGood_5 : decode cX8_isGood 5 = .ok (.iconst 5, 1) := by decide +kernel
theorem dX8_isGood_6 : decode cX8_isGood 6 = .ok (.iaload, 1) := by decide +kernel
theorem dX8_isGood_7 : decode cX8_isGood 7 = .ok (.iload_n 2, 1) := by decide +kernel
theorem dX8_isGood_8 : decode cX8_isGood 8 = .ok (.iconst 1, 1) := by decide +kernel
theorem dX8_isGood_9 : decode cX8_isGood 9 = .ok (.isub, 1) := by decide +kernel
theorem dX8_isGood_10 : decode cX8_isGood 10 = .ok (.aload_n 0, 1) := by decide +kernel
theorem dX8_isGood_11 : decode cX8_isGood 11 = .ok (.getfield 7, 3) := by decide +kernel
theorem dX8_isGood_14 : decode cX8_isGood 14 = .ok (.iconst 5, 1) := by decide +kernel
theorem dX8_isGood_15 : decode cX8_isGood 15 = .ok (.iaload, 1) := by decide +kernel
theorem dX8_isGood_16 : decode cX8_isGood 16 = .ok (.isub, 1) := by decide +kernel
theorem dX8_isGood_17 : decode cX8_isGood 17 = .ok (.invokestatic 32, 3) := by decide +kernel
theorem dX8_isGood_20 : decode cX8_isGood 20 = .ok (.ireturn, 1) := by decide +kernel
theorem dX8_shift_0 : decode cX8_shift 0 = .ok (.iload_n 2, 1) := by decide +kernel
theorem dX8_shift_1 : decode cX8_shift 1 = .ok (.iload 5, 2) := by decide +kernel
theorem dX8_shift_3 : decode cX8_shift 3 = .ok (.if_icmp .le 5, 3) := by decide +kernel
theorem dX8_shift_6 : decode cX8_shift 6 = .ok (.iconst 0, 1) := by decide +kernel
theorem dX8_shift_7 : decode cX8_shift 7 = .ok (.ireturn, 1) := by decide +kernel
theorem dX8_shift_8 : decode cX8_shift 8 = .ok (.iload_n 1, 1) := by decide +kernel
theorem dX8_shift_9 : decode cX8_shift 9 = .ok (.iload 4, 2) := by decide +kernel
theorem dX8_shift_11 : decode cX8_shift 11 = .ok (.if_icmp .ge 10, 3) := by decide +kernel
theorem dX8_shift_14 : decode cX8_shift 14 = .ok (.iload 4, 2) := by decide +kernel
theorem dX8_shift_16 : decode cX8_shift 16 = .ok (.iload_n 1, 1) := by decide +kernel
theorem dX8_shift_17 : decode cX8_shift 17 = .ok (.isub, 1) := by decide +kernel
theorem dX8_shift_18 : decode cX8_shift 18 = .ok (.goto 27, 3) := by decide +kernel
theorem dX8_shift_21 : decode cX8_shift 21 = .ok (.iload_n 1, 1) := by decide +kernel
theorem dX8_shift_22 : decode cX8_shift 22 = .ok (.iload_n 2, 1) := by decide +kernel
theorem dX8_shift_23 : decode cX8_shift 23 = .ok (.iadd, 1) := by decide +kernel
theorem dX8_shift_24 : decode cX8_shift 24 = .ok (.iload 4, 2) := by decide +kernel
theorem dX8_shift_26 : decode cX8_shift 26 = .ok (.iload 5, 2) := by decide +kernel
theorem dX8_shift_28 : decode cX8_shift 28 = .ok (.iadd, 1) := by decide +kernel
theorem dX8_shift_29 : decode cX8_shift 29 = .ok (.if_icmp .le 15, 3) := by decide +kernel
theorem dX8_shift_32 : decode cX8_shift 32 = .ok (.iload 4, 2) := by decide +kernel
theorem dX8_shift_34 : decode cX8_shift 34 = .ok (.iload 5, 2) := by decide +kernel
theorem dX8_shift_36 : decode cX8_shift 36 = .ok (.iadd, 1) := by decide +kernel
theorem dX8_shift_37 : decode cX8_shift 37 = .ok (.iload_n 2, 1) := by decide +kernel
theorem dX8_shift_38 : decode cX8_shift 38 = .ok (.isub, 1) := by decide +kernel
theorem dX8_shift_39 : decode cX8_shift 39 = .ok (.iload_n 1, 1) := by decide +kernel
theorem dX8_shift_40 : decode cX8_shift 40 = .ok (.isub, 1) := by decide +kernel
theorem dX8_shift_41 : decode cX8_shift 41 = .ok (.goto 4, 3) := by decide +kernel
theorem dX8_shift_44 : decode cX8_shift 44 = .ok (.iconst 0, 1) := by decide +kernel
theorem dX8_shift_45 : decode cX8_shift 45 = .ok (.istore 6, 2) := by decide +kernel
theorem dX8_shift_47 : decode cX8_shift 47 = .ok (.aload_n 0, 1) := by decide +kernel
theorem dX8_shift_48 : decode cX8_shift 48 = .ok (.iload_n 3, 1) := by decide +kernel
theorem dX8_shift_49 : decode cX8_shift 49 = .ok (.iload_n 2, 1) := by decide +kernel
theorem dX8_shift_50 : decode cX8_shift 50 = .ok (.invokevirtual 48, 3) := by decide +kernel
theorem dX8_shift_53 : decode cX8_shift 53 = .ok (.ifCond .eq 55, 3) := by decide +kernel
theorem dX8_shift_56 : decode cX8_shift 56 = .ok (.iload_n 3, 1) := by decide +kernel
theorem dX8_shift_57 : decode cX8_shift 57 = .ok (.aload_n 0, 1) := by decide +kernel
theorem dX8_shift_58 : decode cX8_shift 58 = .ok (.getfield 7, 3) := by decide +kernel
theorem dX8_shift_61 : decode cX8_shift 61 = .ok (.iconst 5, 1) := by decide +kernel
theorem dX8_shift_62 : decode cX8_shift 62 = .ok (.iaload, 1) := by decide +kernel
theorem dX8_shift_63 : decode cX8_shift 63 = .ok (.isub, 1) := by decide +kernel
theorem dX8_shift_64 : decode cX8_shift 64 = .ok (.istore 7, 2) := by decide +kernel
theorem dX8_shift_66 : decode cX8_shift 66 = .ok (.iload_n 3, 1) := by decide +kernel
theorem dX8_shift_67 : decode cX8_shift 67 = .ok (.iload_n 2, 1) := by decide +kernel
theorem dX8_shift_68 : decode cX8_shift 68 = .ok (.iconst 1, 1) := by decide +kernel
theorem dX8_shift_69 : decode cX8_shift 69 = .ok (.isub, 1) := by decide +kernel
theorem dX8_shift_70 : decode cX8_shift 70 = .ok (.aload_n 0, 1) := by decide +kernel
theorem dX8_shift_71 : decode cX8_shift 71 = .ok (.getfield 7, 3) := by decide +kernel
theorem dX8_shift_74 : decode cX8_shift 74 = .ok (.iconst 5, 1) := by decide +kernel
theorem dX8_shift_75 : decode cX8_shift 75 = .ok (.iaload, 1) := by decide +kernel
theorem dX8_shift_76 : decode cX8_shift 76 = .ok (.isub, 1) := by decide +kernel
theorem dX8_shift_77 : decode cX8_shift 77 = .ok (.isub, 1) := by decide +kernel
theorem dX8_shift_78 : decode cX8_shift 78 = .ok (.istore 8, 2) := by decide +kernel
theorem dX8_shift_80 : decode cX8_shift 80 = .ok (.iload 6, 2) := by decide +kernel
theorem dX8_shift_82 : decode cX8_shift 82 = .ok (.iload 7, 2) := by decide +kernel
theorem dX8_shift_84 : decode cX8_shift 84 = .ok (.if_icmp .le 8, 3) := by decide +kernel
theorem dX8_shift_87 : decode cX8_shift 87 = .ok (.iload 7, 2) := by decide +kernel
theorem dX8_shift_89 : decode cX8_shift 89 = .ok (.goto 17, 3) := by decide +kernel
theorem dX8_shift_92 : decode cX8_shift 92 = .ok (.iload 6, 2) := by decide +kernel
theorem dX8_shift_94 : decode cX8_shift 94 = .ok (.iload 8, 2) := by decide +kernel
theorem dX8_shift_96 : decode cX8_shift 96 = .ok (.if_icmp .ge 8, 3) := by decide +kernel
theorem dX8_shift_99 : decode cX8_shift 99 = .ok (.iload 8, 2) := by decide +kernel
theorem dX8_shift_101 : decode cX8_shift 101 = .ok (.goto 5, 3) := by decide +kernel
theorem dX8_shift_104 : decode cX8_shift 104 = .ok (.iload 6, 2) := by decide +kernel
theorem dX8_shift_106 : decode cX8_shift 106 = .ok (.istore 6, 2) := by decide +kernel
theorem dX8_shift_108 : decode cX8_shift 108 = .ok (.iload 6, 2) := by decide +kernel
theorem dX8_shift_110 : decode cX8_shift 110 = .ok (.ireturn, 1) := by decide +kernel
theorem dX8_places_0 : decode cX8_places 0 = .ok (.aload_n 0, 1) := by decide +kernel
theorem dX8_places_1 : decode cX8_places 1 = .ok (.iload_n 1, 1) := by decide +kernel
theorem dX8_places_2 : decode cX8_places 2 = .ok (.iconst 0, 1) := by decide +kernel
theorem dX8_places_3 : decode cX8_places 3 = .ok (.invokevirtual 52, 3) := by decide +kernel
theorem dX8_places_6 : decode cX8_places 6 = .ok (.istore_n 3, 1) := by decide +kernel
theorem dX8_places_7 : decode cX8_places 7 = .ok (.iload_n 2, 1) := by decide +kernel
theorem dX8_places_8 : decode cX8_places 8 = .ok (.iconst 2, 1) := by decide +kernel
theorem dX8_places_9 : decode cX8_places 9 = .ok (.irem, 1) := by decide +kernel
theorem dX8_places_10 : decode cX8_places 10 = .ok (.ifCond .ne 7, 3) := by decide +kernel
theorem dX8_places_13 : decode cX8_places 13 = .ok (.iconst 1, 1) := by decide +kernel
theorem dX8_places_14 : decode cX8_places 14 = .ok (.goto 4, 3) := by decide +kernel
theorem dX8_places_17 : decode cX8_places 17 = .ok (.iconst 0, 1) := by decide +kernel
theorem dX8_places_18 : decode cX8_places 18 = .ok (.istore 4, 2) := by decide +kernel
theorem dX8_places_20 : decode cX8_places 20 = .ok (.aload_n 0, 1) := by decide +kernel
theorem dX8_places_21 : decode cX8_places 21 = .ok (.iload_n 3, 1) := by decide +kernel
theorem dX8_places_22 : decode cX8_places 22 = .ok (.iconst 0, 1) := by decide +kernel
theorem dX8_places_23 : decode cX8_places 23 = .ok (.invokevirtual 40, 3) := by decide +kernel
theorem dX8_places_26 : decode cX8_places 26 = .ok (.istore 5, 2) := by decide +kernel
theorem dX8_places_28 : decode cX8_places 28 = .ok (.aload_n 0, 1) := by decide +kernel
theorem dX8_places_29 : decode cX8_places 29 = .ok (.iload_n 3, 1) := by decide +kernel
theorem dX8_places_30 : decode cX8_places 30 = .ok (.iconst 1, 1) := by decide +kernel
theorem dX8_places_31 : decode cX8_places 31 = .ok (.invokevirtual 40, 3) := by decide +kernel
theorem dX8_places_34 : decode cX8_places 34 = .ok (.istore 6, 2) := by decide +kernel
theorem dX8_places_36 : decode cX8_places 36 = .ok (.aload_n 0, 1) := by decide +kernel
theorem dX8_places_37 : decode cX8_places 37 = .ok (.iload_n 1, 1) := by decide +kernel
theorem dX8_places_38 : decode cX8_places 38 = .ok (.iconst 1, 1) := by decide +kernel
theorem dX8_places_39 : decode cX8_places 39 = .ok (.invokevirtual 52, 3) := by decide +kernel
theorem dX8_places_42 : decode cX8_places 42 = .ok (.istore 7, 2) := by decide +kernel
theorem dX8_places_44 : decode cX8_places 44 = .ok (.aload_n 0, 1) := by decide +kernel
theorem dX8_places_45 : decode cX8_places 45 = .ok (.iload_n 1, 1) := by decide +kernel
theorem dX8_places_46 : decode cX8_places 46 = .ok (.iconst 2, 1) := by decide +kernel
theorem dX8_places_47 : decode cX8_places 47 = .ok (.invokevirtual 52, 3) := by decide +kernel
theorem dX8_places_50 : decode cX8_places 50 = .ok (.istore 8, 2) := by decide +kernel
theorem dX8_places_52 : decode cX8_places 52 = .ok (.iload 4, 2) := by decide +kernel
theorem dX8_places_54 : decode cX8_places 54 = .ok (.ifCond .eq 8, 3) := by decide +kernel
theorem dX8_places_57 : decode cX8_places 57 = .ok (.iload 5, 2) := by decide +kernel
theorem dX8_places_59 : decode cX8_places 59 = .ok (.goto 5, 3) := by decide +kernel
theorem dX8_places_62 : decode cX8_places 62 = .ok (.iload 6, 2) := by decide +kernel
theorem dX8_places_64 : decode cX8_places 64 = .ok (.istore 9, 2) := by decide +kernel
theorem dX8_places_66 : decode cX8_places 66 = .ok (.iload 4, 2) := by decide +kernel
theorem dX8_places_68 : decode cX8_places 68 = .ok (.ifCond .eq 12, 3) := by decide +kernel
theorem dX8_places_71 : decode cX8_places 71 = .ok (.aload_n 0, 1) := by decide +kernel
theorem dX8_places_72 : decode cX8_places 72 = .ok (.iload_n 3, 1) := by decide +kernel
theorem dX8_places_73 : decode cX8_places 73 = .ok (.iconst 2, 1) := by decide +kernel
theorem dX8_places_74 : decode cX8_places 74 = .ok (.invokevirtual 40, 3) := by decide +kernel
theorem dX8_places_77 : decode cX8_places 77 = .ok (.goto 9, 3) := by decide +kernel
theorem dX8_places_80 : decode cX8_places 80 = .ok (.aload_n 0, 1) := by decide +kernel
theorem dX8_places_81 : decode cX8_places 81 = .ok (.iload_n 3, 1) := by decide +kernel
theorem dX8_places_82 : decode cX8_places 82 = .ok (.iconst 3, 1) := by decide +kernel
theorem dX8_places_83 : decode cX8_places 83 = .ok (.invokevirtual 40, 3) := by decide +kernel
theorem dX8_places_86 : decode cX8_places 86 = .ok (.istore 10, 2) := by decide +kernel
theorem dX8_places_88 : decode cX8_places 88 = .ok (.iload 4, 2) := by decide +kernel
theorem dX8_places_90 : decode cX8_places 90 = .ok (.ifCond .eq 8, 3) := by decide +kernel
theorem dX8_places_93 : decode cX8_places 93 = .ok (.iload 7, 2) := by decide +kernel
theorem dX8_places_95 : decode cX8_places 95 = .ok (.goto 5, 3) := by decide +kernel
theorem dX8_places_98 : decode cX8_places 98 = .ok (.iload 8, 2) := by decide +kernel
theorem dX8_places_100 : decode cX8_places 100 = .ok (.istore 11, 2) := by decide +kernel
theorem dX8_places_102 : decode cX8_places 102 = .ok (.aload_n 0, 1) := by decide +kernel
theorem dX8_places_103 : decode cX8_places 103 = .ok (.iload_n 1, 1) := by decide +kernel
theorem dX8_places_104 : decode cX8_places 104 = .ok (.iconst 4, 1) := by decide +kernel
theorem dX8_places_105 : decode cX8_places 105 = .ok (.invokevirtual 52, 3) := by decide +kernel
theorem dX8_places_108 : decode cX8_places 108 = .ok (.istore 12, 2) := by decide +kernel
theorem dX8_places_110 : decode cX8_places 110 = .ok (.iload 9, 2) := by decide +kernel
theorem dX8_places_112 : decode cX8_places 112 = .ok (.iload 10, 2) := by decide +kernel
theorem dX8_places_114 : decode cX8_places 114 = .ok (.iconst 2, 1) := by decide +kernel
theorem dX8_places_115 : decode cX8_places 115 = .ok (.idiv, 1) := by decide +kernel
theorem dX8_places_116 : decode cX8_places 116 = .ok (.iadd, 1) := by decide +kernel
theorem dX8_places_117 : decode cX8_places 117 = .ok (.istore 13, 2) := by decide +kernel
theorem dX8_places_119 : decode cX8_places 119 = .ok (.iload 12, 2) := by decide +kernel
theorem dX8_places_121 : decode cX8_places 121 = .ok (.ifCond .ne 8, 3) := by decide +kernel
theorem dX8_places_124 : decode cX8_places 124 = .ok (.iload 9, 2) := by decide +kernel
theorem dX8_places_126 : decode cX8_places 126 = .ok (.goto 31, 3) := by decide +kernel
theorem dX8_places_129 : decode cX8_places 129 = .ok (.iload 12, 2) := by decide +kernel
theorem dX8_places_131 : decode cX8_places 131 = .ok (.iconst 1, 1) := by decide +kernel
theorem dX8_places_132 : decode cX8_places 132 = .ok (.if_icmp .ne 17, 3) := by decide +kernel
theorem dX8_places_135 : decode cX8_places 135 = .ok (.iload 9, 2) := by decide +kernel
theorem dX8_places_137 : decode cX8_places 137 = .ok (.iload 10, 2) := by decide +kernel
theorem dX8_places_139 : decode cX8_places 139 = .ok (.iload 11, 2) := by decide +kernel
theorem dX8_places_141 : decode cX8_places 141 = .ok (.isub, 1) := by decide +kernel
theorem dX8_places_142 : decode cX8_places 142 = .ok (.invokestatic 55, 3) := by decide +kernel
theorem dX8_places_145 : decode cX8_places 145 = .ok (.iadd, 1) := by decide +kernel
theorem dX8_places_146 : decode cX8_places 146 = .ok (.goto 11, 3) := by decide +kernel
theorem dX8_places_149 : decode cX8_places 149 = .ok (.iload 9, 2) := by decide +kernel
theorem dX8_places_151 : decode cX8_places 151 = .ok (.iload 10, 2) := by decide +kernel
theorem dX8_places_153 : decode cX8_places 153 = .ok (.iadd, 1) := by decide +kernel
theorem dX8_places_154 : decode cX8_places 154 = .ok (.iload 11, 2) := by decide +kernel
theorem dX8_places_156 : decode cX8_places 156 = .ok (.isub, 1) := by decide +kernel
theorem dX8_places_157 : decode cX8_places 157 = .ok (.istore 14, 2) := by decide +kernel
theorem dX8_places_159 : decode cX8_places 159 = .ok (.aload_n 0, 1) := by decide +kernel
theorem dX8_places_160 : decode cX8_places 160 = .ok (.iload 13, 2) := by decide +kernel
theorem dX8_places_162 : decode cX8_places 162 = .ok (.iload 14, 2) := by decide +kernel
theorem dX8_places_164 : decode cX8_places 164 = .ok (.isub, 1) := by decide +kernel
theorem dX8_places_165 : decode cX8_places 165 = .ok (.putfield 59, 3) := by decide +kernel
theorem dX8_places_168 : decode cX8_places 168 = .ok (.aload_n 0, 1) := by decide +kernel
theorem dX8_places_169 : decode cX8_places 169 = .ok (.aload_n 0, 1) := by decide +kernel
theorem dX8_places_170 : decode cX8_places 170 = .ok (.iload_n 1, 1) := by decide +kernel
theorem dX8_places_171 : decode cX8_places 171 = .ok (.bipush 6, 2) := by decide +kernel
theorem dX8_places_173 : decode cX8_places 173 = .ok (.invokevirtual 52, 3) := by decide +kernel
theorem dX8_places_176 : decode cX8_places 176 = .ok (.iconst 1, 1) := by decide +kernel
theorem dX8_places_177 : decode cX8_places 177 = .ok (.if_icmp .ne 58, 3) := by decide +kernel
theorem dX8_places_180 : decode cX8_places 180 = .ok (.aload_n 0, 1) := by decide +kernel
theorem dX8_places_181 : decode cX8_places 181 = .ok (.iload 14, 2) := by decide +kernel
theorem dX8_places_183 : decode cX8_places 183 = .ok (.iload 11, 2) := by decide +kernel
theorem dX8_places_185 : decode cX8_places 185 = .ok (.aload_n 0, 1) := by decide +kernel
theorem dX8_places_186 : decode cX8_places 186 = .ok (.getfield 59, 3) := by decide +kernel
theorem dX8_places_189 : decode cX8_places 189 = .ok (.iload 4, 2) := by decide +kernel
theorem dX8_places_191 : decode cX8_places 191 = .ok (.ifCond .eq 12, 3) := by decide +kernel
theorem dX8_places_194 : decode cX8_places 194 = .ok (.aload_n 0, 1) := by decide +kernel
theorem dX8_places_195 : decode cX8_places 195 = .ok (.getfield 7, 3) := by decide +kernel
theorem dX8_places_198 : decode cX8_places 198 = .ok (.iconst 0, 1) := by decide +kernel
theorem dX8_places_199 : decode cX8_places 199 = .ok (.iaload, 1) := by decide +kernel
theorem dX8_places_200 : decode cX8_places 200 = .ok (.goto 9, 3) := by decide +kernel
theorem dX8_places_203 : decode cX8_places 203 = .ok (.aload_n 0, 1) := by decide +kernel
theorem dX8_places_204 : decode cX8_places 204 = .ok (.getfield 7, 3) := by decide +kernel
theorem dX8_places_207 : decode cX8_places 207 = .ok (.iconst 1, 1) := by decide +kernel
theorem dX8_places_208 : decode cX8_places 208 = .ok (.iaload, 1) := by decide +kernel
theorem dX8_places_209 : decode cX8_places 209 = .ok (.iload 4, 2) := by decide +kernel
theorem dX8_places_211 : decode cX8_places 211 = .ok (.ifCond .eq 12, 3) := by decide +kernel
theorem dX8_places_214 : decode cX8_places 214 = .ok (.aload_n 0, 1) := by decide +kernel
theorem dX8_places_215 : decode cX8_places 215 = .ok (.getfield 7, 3) := by decide +kernel
theorem dX8_places_218 : decode cX8_places 218 = .ok (.iconst 2, 1) := by decide +kernel
theorem dX8_places_219 : decode cX8_places 219 = .ok (.iaload, 1) := by decide +kernel
theorem dX8_places_220 : decode cX8_places 220 = .ok (.goto 9, 3) := by decide +kernel
theorem dX8_places_223 : decode cX8_places 223 = .ok (.aload_n 0, 1) := by decide +kernel
theorem dX8_places_224 : decode cX8_places 224 = .ok (.getfield 7, 3) := by decide +kernel
theorem dX8_places_227 : decode cX8_places 227 = .ok (.iconst 3, 1) := by decide +kernel
theorem dX8_places_228 : decode cX8_places 228 = .ok (.iaload, 1) := by decide +kernel
theorem dX8_places_229 : decode cX8_places 229 = .ok (.invokevirtual 62, 3) := by decide +kernel
theorem dX8_places_232 : decode cX8_places 232 = .ok (.goto 4, 3) := by decide +kernel
theorem dX8_places_235 : decode cX8_places 235 = .ok (.iconst 0, 1) := by decide +kernel
theorem dX8_places_236 : decode cX8_places 236 = .ok (.putfield 66, 3) := by decide +kernel
theorem dX8_places_239 : decode cX8_places 239 = .ok (.aload_n 0, 1) := by decide +kernel
theorem dX8_places_240 : decode cX8_places 240 = .ok (.dup, 1) := by decide +kernel
theorem dX8_places_241 : decode cX8_places 241 = .ok (.getfield 59, 3) := by decide +kernel
theorem dX8_places_244 : decode cX8_places 244 = .ok (.aload_n 0, 1) := by decide +kernel
theorem dX8_places_245 : decode cX8_places 245 = .ok (.getfield 66, 3) := by decide +kernel
theorem dX8_places_248 : decode cX8_places 248 = .ok (.isub, 1) := by decide +kernel
theorem dX8_places_249 : decode cX8_places 249 = .ok (.putfield 59, 3) := by decide +kernel
theorem dX8_places_252 : decode cX8_places 252 = .ok (.aload_n 0, 1) := by decide +kernel
theorem dX8_places_253 : decode cX8_places 253 = .ok (.aload_n 0, 1) := by decide +kernel
theorem dX8_places_254 : decode cX8_places 254 = .ok (.aload_n 0, 1) := by decide +kernel
theorem dX8_places_255 : decode cX8_places 255 = .ok (.getfield 59, 3) := by decide +kernel
theorem dX8_places_258 : decode cX8_places 258 = .ok (.iload 11, 2) := by decide +kernel
theorem dX8_places_260 : decode cX8_places 260 = .ok (.invokevirtual 48, 3) := by decide +kernel
theorem dX8_places_263 : decode cX8_places 263 = .ok (.putfield 69, 3) := by decide +kernel
theorem dX8_places_266 : decode cX8_places 266 = .ok (.iload 14, 2) := by decide +kernel
theorem dX8_places_268 : decode cX8_places 268 = .ok (.aload_n 0, 1) := by decide +kernel
theorem dX8_places_269 : decode cX8_places 269 = .ok (.getfield 66, 3) := by decide +kernel
theorem dX8_places_272 : decode cX8_places 272 = .ok (.iadd, 1) := by decide +kernel
theorem dX8_places_273 : decode cX8_places 273 = .ok (.istore 14, 2) := by decide +kernel
theorem dX8_places_275 : decode cX8_places 275 = .ok (.aload_n 0, 1) := by decide +kernel
theorem dX8_places_276 : decode cX8_places 276 = .ok (.iload 4, 2) := by decide +kernel
theorem dX8_places_278 : decode cX8_places 278 = .ok (.ifCond .eq 8, 3) := by decide +kernel
theorem dX8_places_281 : decode cX8_places 281 = .ok (.iload 14, 2) := by decide +kernel
theorem dX8_places_283 : decode cX8_places 283 = .ok (.goto 39, 3) := by decide +kernel
theorem dX8_places_286 : decode cX8_places 286 = .ok (.iload_n 2, 1) := by decide +kernel
theorem dX8_places_287 : decode cX8_places 287 = .ok (.iconst 1, 1) := by decide +kernel
theorem dX8_places_288 : decode cX8_places 288 = .ok (.if_icmp .ne 22, 3) := by decide +kernel
theorem dX8_places_291 : decode cX8_places 291 = .ok (.iload 5, 2) := by decide +kernel
theorem dX8_places_293 : decode cX8_places 293 = .ok (.aload_n 0, 1) := by decide +kernel
theorem dX8_places_294 : decode cX8_places 294 = .ok (.iload_n 3, 1) := by decide +kernel
theorem dX8_places_295 : decode cX8_places 295 = .ok (.iconst 2, 1) := by decide +kernel
theorem dX8_places_296 : decode cX8_places 296 = .ok (.invokevirtual 40, 3) := by decide +kernel
theorem dX8_places_299 : decode cX8_places 299 = .ok (.iadd, 1) := by decide +kernel
theorem dX8_places_300 : decode cX8_places 300 = .ok (.aload_n 0, 1) := by decide +kernel
theorem dX8_places_301 : decode cX8_places 301 = .ok (.getfield 7, 3) := by decide +kernel
theorem dX8_places_304 : decode cX8_places 304 = .ok (.iconst 4, 1) := by decide +kernel
theorem dX8_places_305 : decode cX8_places 305 = .ok (.iaload, 1) := by decide +kernel
theorem dX8_places_306 : decode cX8_places 306 = .ok (.iadd, 1) := by decide +kernel
theorem dX8_places_307 : decode cX8_places 307 = .ok (.goto 15, 3) := by decide +kernel
theorem dX8_places_310 : decode cX8_places 310 = .ok (.iload 5, 2) := by decide +kernel
theorem dX8_places_312 : decode cX8_places 312 = .ok (.aload_n 0, 1) := by decide +kernel
theorem dX8_places_313 : decode cX8_places 313 = .ok (.getfield 7, 3) := by decide +kernel
theorem dX8_places_316 : decode cX8_places 316 = .ok (.iconst 4, 1) := by decide +kernel
theorem dX8_places_317 : decode cX8_places 317 = .ok (.iaload, 1) := by decide +kernel
theorem dX8_places_318 : decode cX8_places 318 = .ok (.isub, 1) := by decide +kernel
theorem dX8_places_319 : decode cX8_places 319 = .ok (.iload 7, 2) := by decide +kernel
theorem dX8_places_321 : decode cX8_places 321 = .ok (.isub, 1) := by decide +kernel
theorem dX8_places_322 : decode cX8_places 322 = .ok (.putfield 73, 3) := by decide +kernel
theorem dX8_places_325 : decode cX8_places 325 = .ok (.aload_n 0, 1) := by decide +kernel
theorem dX8_places_326 : decode cX8_places 326 = .ok (.iload 4, 2) := by decide +kernel
theorem dX8_places_328 : decode cX8_places 328 = .ok (.ifCond .ne 8, 3) := by decide +kernel
theorem dX8_places_331 : decode cX8_places 331 = .ok (.iload 14, 2) := by decide +kernel
theorem dX8_places_333 : decode cX8_places 333 = .ok (.goto 39, 3) := by decide +kernel
theorem dX8_places_336 : decode cX8_places 336 = .ok (.iload_n 2, 1) := by decide +kernel
theorem dX8_places_337 : decode cX8_places 337 = .ok (.iconst 2, 1) := by decide +kernel
theorem dX8_places_338 : decode cX8_places 338 = .ok (.if_icmp .ne 22, 3) := by decide +kernel
theorem dX8_places_341 : decode cX8_places 341 = .ok (.iload 6, 2) := by decide +kernel
theorem dX8_places_343 : decode cX8_places 343 = .ok (.aload_n 0, 1) := by decide +kernel
theorem dX8_places_344 : decode cX8_places 344 = .ok (.iload_n 3, 1) := by decide +kernel
theorem dX8_places_345 : decode cX8_places 345 = .ok (.iconst 3, 1) := by decide +kernel
theorem dX8_places_346 : decode cX8_places 346 = .ok (.invokevirtual 40, 3) := by decide +kernel
theorem dX8_places_349 : decode cX8_places 349 = .ok (.iadd, 1) := by decide +kernel
theorem dX8_places_350 : decode cX8_places 350 = .ok (.aload_n 0, 1) := by decide +kernel
theorem dX8_places_351 : decode cX8_places 351 = .ok (.getfield 7, 3) := by decide +kernel
theorem dX8_places_354 : decode cX8_places 354 = .ok (.iconst 4, 1) := by decide +kernel
theorem dX8_places_355 : decode cX8_places 355 = .ok (.iaload, 1) := by decide +kernel
theorem dX8_places_356 : decode cX8_places 356 = .ok (.iadd, 1) := by decide +kernel
theorem dX8_places_357 : decode cX8_places 357 = .ok (.goto 15, 3) := by decide +kernel
theorem dX8_places_360 : decode cX8_places 360 = .ok (.iload 6, 2) := by decide +kernel
theorem dX8_places_362 : decode cX8_places 362 = .ok (.aload_n 0, 1) := by decide +kernel
theorem dX8_places_363 : decode cX8_places 363 = .ok (.getfield 7, 3) := by decide +kernel
theorem dX8_places_366 : decode cX8_places 366 = .ok (.iconst 4, 1) := by decide +kernel
theorem dX8_places_367 : decode cX8_places 367 = .ok (.iaload, 1) := by decide +kernel
theorem dX8_places_368 : decode cX8_places 368 = .ok (.isub, 1) := by decide +kernel
theorem dX8_places_369 : decode cX8_places 369 = .ok (.iload 8, 2) := by decide +kernel
theorem dX8_places_371 : decode cX8_places 371 = .ok (.isub, 1) := by decide +kernel
theorem dX8_places_372 : decode cX8_places 372 = .ok (.putfield 76, 3) := by decide +kernel
theorem dX8_places_375 : decode cX8_places 375 = .ok (.return_, 1) := by decide +kernel
theorem dX8_isIn_0 : decode cX8_isIn 0 = .ok (.aload_n 0, 1) := by decide +kernel
theorem dX8_isIn_1 : decode cX8_isIn 1 = .ok (.iload_n 1, 1) := by decide +kernel
theorem dX8_isIn_2 : decode cX8_isIn 2 = .ok (.iload_n 2, 1) := by decide +kernel
theorem dX8_isIn_3 : decode cX8_isIn 3 = .ok (.invokevirtual 79, 3) := by decide +kernel
theorem dX8_isIn_6 : decode cX8_isIn 6 = .ok (.aload_n 0, 1) := by decide +kernel
theorem dX8_isIn_7 : decode cX8_isIn 7 = .ok (.getfield 73, 3) := by decide +kernel
theorem dX8_isIn_10 : decode cX8_isIn 10 = .ok (.aload_n 0, 1) := by decide +kernel
theorem dX8_isIn_11 : decode cX8_isIn 11 = .ok (.getfield 7, 3) := by decide +kernel
theorem dX8_isIn_14 : decode cX8_isIn 14 = .ok (.iconst 0, 1) := by decide +kernel
theorem dX8_isIn_15 : decode cX8_isIn 15 = .ok (.iaload, 1) := by decide +kernel
theorem dX8_isIn_16 : decode cX8_isIn 16 = .ok (.if_icmp .lt 74, 3) := by decide +kernel
theorem dX8_isIn_19 : decode cX8_isIn 19 = .ok (.aload_n 0, 1) := by decide +kernel
theorem dX8_isIn_20 : decode cX8_isIn 20 = .ok (.getfield 73, 3) := by decide +kernel
theorem dX8_isIn_23 : decode cX8_isIn 23 = .ok (.aload_n 0, 1) := by decide +kernel
theorem dX8_isIn_24 : decode cX8_isIn 24 = .ok (.iload_n 1, 1) := by decide +kernel
theorem dX8_isIn_25 : decode cX8_isIn 25 = .ok (.iconst 1, 1) := by decide +kernel
theorem dX8_isIn_26 : decode cX8_isIn 26 = .ok (.invokevirtual 52, 3) := by decide +kernel
theorem dX8_isIn_29 : decode cX8_isIn 29 = .ok (.iadd, 1) := by decide +kernel
theorem dX8_isIn_30 : decode cX8_isIn 30 = .ok (.aload_n 0, 1) := by decide +kernel
theorem dX8_isIn_31 : decode cX8_isIn 31 = .ok (.getfield 7, 3) := by decide +kernel
theorem dX8_isIn_34 : decode cX8_isIn 34 = .ok (.iconst 0, 1) := by decide +kernel
theorem dX8_isIn_35 : decode cX8_isIn 35 = .ok (.iaload, 1) := by decide +kernel
theorem dX8_isIn_36 : decode cX8_isIn 36 = .ok (.aload_n 0, 1) := by decide +kernel
theorem dX8_isIn_37 : decode cX8_isIn 37 = .ok (.getfield 7, 3) := by decide +kernel
theorem dX8_isIn_40 : decode cX8_isIn 40 = .ok (.iconst 2, 1) := by decide +kernel
theorem dX8_isIn_41 : decode cX8_isIn 41 = .ok (.iaload, 1) := by decide +kernel
theorem dX8_isIn_42 : decode cX8_isIn 42 = .ok (.iadd, 1) := by decide +kernel
theorem dX8_isIn_43 : decode cX8_isIn 43 = .ok (.if_icmp .gt 47, 3) := by decide +kernel
theorem dX8_isIn_46 : decode cX8_isIn 46 = .ok (.aload_n 0, 1) := by decide +kernel
theorem dX8_isIn_47 : decode cX8_isIn 47 = .ok (.getfield 76, 3) := by decide +kernel
theorem dX8_isIn_50 : decode cX8_isIn 50 = .ok (.aload_n 0, 1) := by decide +kernel
theorem dX8_isIn_51 : decode cX8_isIn 51 = .ok (.getfield 7, 3) := by decide +kernel
theorem dX8_isIn_54 : decode cX8_isIn 54 = .ok (.iconst 1, 1) := by decide +kernel
theorem dX8_isIn_55 : decode cX8_isIn 55 = .ok (.iaload, 1) := by decide +kernel
theorem dX8_isIn_56 : decode cX8_isIn 56 = .ok (.if_icmp .lt 34, 3) := by decide +kernel
theorem dX8_isIn_59 : decode cX8_isIn 59 = .ok (.aload_n 0, 1) := by decide +kernel
theorem dX8_isIn_60 : decode cX8_isIn 60 = .ok (.getfield 76, 3) := by decide +kernel
theorem dX8_isIn_63 : decode cX8_isIn 63 = .ok (.aload_n 0, 1) := by decide +kernel
theorem dX8_isIn_64 : decode cX8_isIn 64 = .ok (.iload_n 1, 1) := by decide +kernel
theorem dX8_isIn_65 : decode cX8_isIn 65 = .ok (.iconst 2, 1) := by decide +kernel
theorem dX8_isIn_66 : decode cX8_isIn 66 = .ok (.invokevirtual 52, 3) := by decide +kernel
theorem dX8_isIn_69 : decode cX8_isIn 69 = .ok (.iadd, 1) := by decide +kernel
theorem dX8_isIn_70 : decode cX8_isIn 70 = .ok (.aload_n 0, 1) := by decide +kernel
theorem dX8_isIn_71 : decode cX8_isIn 71 = .ok (.getfield 7, 3) := by decide +kernel
theorem dX8_isIn_74 : decode cX8_isIn 74 = .ok (.iconst 1, 1) := by decide +kernel
theorem dX8_isIn_75 : decode cX8_isIn 75 = .ok (.iaload, 1) := by decide +kernel
theorem dX8_isIn_76 : decode cX8_isIn 76 = .ok (.aload_n 0, 1) := by decide +kernel
theorem dX8_isIn_77 : decode cX8_isIn 77 = .ok (.getfield 7, 3) := by decide +kernel
theorem dX8_isIn_80 : decode cX8_isIn 80 = .ok (.iconst 3, 1) := by decide +kernel
theorem dX8_isIn_81 : decode cX8_isIn 81 = .ok (.iaload, 1) := by decide +kernel
theorem dX8_isIn_82 : decode cX8_isIn 82 = .ok (.iadd, 1) := by decide +kernel
theorem dX8_isIn_83 : decode cX8_isIn 83 = .ok (.if_icmp .gt 7, 3) := by decide +kernel
theorem dX8_isIn_86 : decode cX8_isIn 86 = .ok (.iconst 1, 1) := by decide +kernel
theorem dX8_isIn_87 : decode cX8_isIn 87 = .ok (.goto 4, 3) := by decide +kernel
theorem dX8_isIn_90 : decode cX8_isIn 90 = .ok (.iconst 0, 1) := by decide +kernel
theorem dX8_isIn_91 : decode cX8_isIn 91 = .ok (.ireturn, 1) := by decide +kernel
theorem dX8_addTry_0 : decode cX8_addTry 0 = .ok (.iconst 0, 1) := by decide +kernel
theorem dX8_addTry_1 : decode cX8_addTry 1 = .ok (.istore_n 2, 1) := by decide +kernel
theorem dX8_addTry_2 : decode cX8_addTry 2 = .ok (.iconst 0, 1) := by decide +kernel
theorem dX8_addTry_3 : decode cX8_addTry 3 = .ok (.istore_n 3, 1) := by decide +kernel
theorem dX8_addTry_4 : decode cX8_addTry 4 = .ok (.iload_n 3, 1) := by decide +kernel
theorem dX8_addTry_5 : decode cX8_addTry 5 = .ok (.aload_n 0, 1) := by decide +kernel
theorem dX8_addTry_6 : decode cX8_addTry 6 = .ok (.getfield 83, 3) := by decide +kernel
theorem dX8_addTry_9 : decode cX8_addTry 9 = .ok (.if_icmp .ge 29, 3) := by decide +kernel
theorem dX8_addTry_12 : decode cX8_addTry 12 = .ok (.iload_n 2, 1) := by decide +kernel
theorem dX8_addTry_13 : decode cX8_addTry 13 = .ok (.ifCond .ne 13, 3) := by decide +kernel
theorem dX8_addTry_16 : decode cX8_addTry 16 = .ok (.aload_n 0, 1) := by decide +kernel
theorem dX8_addTry_17 : decode cX8_addTry 17 = .ok (.getfield 29, 3) := by decide +kernel
theorem dX8_addTry_20 : decode cX8_addTry 20 = .ok (.iload_n 3, 1) := by decide +kernel
theorem dX8_addTry_21 : decode cX8_addTry 21 = .ok (.iaload, 1) := by decide +kernel
theorem dX8_addTry_22 : decode cX8_addTry 22 = .ok (.iload_n 1, 1) := by decide +kernel
theorem dX8_addTry_23 : decode cX8_addTry 23 = .ok (.if_icmp .ne 7, 3) := by decide +kernel
theorem dX8_addTry_26 : decode cX8_addTry 26 = .ok (.iconst 1, 1) := by decide +kernel
theorem dX8_addTry_27 : decode cX8_addTry 27 = .ok (.goto 4, 3) := by decide +kernel
theorem dX8_addTry_30 : decode cX8_addTry 30 = .ok (.iconst 0, 1) := by decide +kernel
theorem dX8_addTry_31 : decode cX8_addTry 31 = .ok (.istore_n 2, 1) := by decide +kernel
theorem dX8_addTry_32 : decode cX8_addTry 32 = .ok (.iinc 3 1, 3) := by decide +kernel
theorem dX8_addTry_35 : decode cX8_addTry 35 = .ok (.goto (-31), 3) := by decide +kernel
theorem dX8_addTry_38 : decode cX8_addTry 38 = .ok (.iload_n 2, 1) := by decide +kernel
theorem dX8_addTry_39 : decode cX8_addTry 39 = .ok (.ifCond .ne 23, 3) := by decide +kernel
theorem dX8_addTry_42 : decode cX8_addTry 42 = .ok (.aload_n 0, 1) := by decide +kernel
theorem dX8_addTry_43 : decode cX8_addTry 43 = .ok (.getfield 29, 3) := by decide +kernel
theorem dX8_addTry_46 : decode cX8_addTry 46 = .ok (.aload_n 0, 1) := by decide +kernel
theorem dX8_addTry_47 : decode cX8_addTry 47 = .ok (.getfield 83, 3) := by decide +kernel
theorem dX8_addTry_50 : decode cX8_addTry 50 = .ok (.iload_n 1, 1) := by decide +kernel
theorem dX8_addTry_51 : decode cX8_addTry 51 = .ok (.iastore, 1) := by decide +kernel
theorem dX8_addTry_52 : decode cX8_addTry 52 = .ok (.aload_n 0, 1) := by decide +kernel
theorem dX8_addTry_53 : decode cX8_addTry 53 = .ok (.dup, 1) := by decide +kernel
theorem dX8_addTry_54 : decode cX8_addTry 54 = .ok (.getfield 83, 3) := by decide +kernel
theorem dX8_addTry_57 : decode cX8_addTry 57 = .ok (.iconst 1, 1) := by decide +kernel
theorem dX8_addTry_58 : decode cX8_addTry 58 = .ok (.iadd, 1) := by decide +kernel
theorem dX8_addTry_59 : decode cX8_addTry 59 = .ok (.putfield 83, 3) := by decide +kernel
theorem dX8_addTry_62 : decode cX8_addTry 62 = .ok (.return_, 1) := by decide +kernel
theorem dX8_lists_0 : decode cX8_lists 0 = .ok (.aload_n 0, 1) := by decide +kernel
theorem dX8_lists_1 : decode cX8_lists 1 = .ok (.iconst 0, 1) := by decide +kernel
theorem dX8_lists_2 : decode cX8_lists 2 = .ok (.putfield 83, 3) := by decide +kernel
theorem dX8_lists_5 : decode cX8_lists 5 = .ok (.aload_n 0, 1) := by decide +kernel
theorem dX8_lists_6 : decode cX8_lists 6 = .ok (.getfield 7, 3) := by decide +kernel
theorem dX8_lists_9 : decode cX8_lists 9 = .ok (.bipush 7, 2) := by decide +kernel
theorem dX8_lists_11 : decode cX8_lists 11 = .ok (.iaload, 1) := by decide +kernel
theorem dX8_lists_12 : decode cX8_lists 12 = .ok (.iconst 1, 1) := by decide +kernel
theorem dX8_lists_13 : decode cX8_lists 13 = .ok (.if_icmp .ne 31, 3) := by decide +kernel
theorem dX8_lists_16 : decode cX8_lists 16 = .ok (.aload_n 0, 1) := by decide +kernel
theorem dX8_lists_17 : decode cX8_lists 17 = .ok (.getfield 7, 3) := by decide +kernel
theorem dX8_lists_20 : decode cX8_lists 20 = .ok (.sipush 160, 3) := by decide +kernel
theorem dX8_lists_23 : decode cX8_lists 23 = .ok (.iload_n 1, 1) := by decide +kernel
theorem dX8_lists_24 : decode cX8_lists 24 = .ok (.iadd, 1) := by decide +kernel
theorem dX8_lists_25 : decode cX8_lists 25 = .ok (.iaload, 1) := by decide +kernel
theorem dX8_lists_26 : decode cX8_lists 26 = .ok (.iconst (-1), 1) := by decide +kernel
theorem dX8_lists_27 : decode cX8_lists 27 = .ok (.if_icmp .eq 17, 3) := by decide +kernel
theorem dX8_lists_30 : decode cX8_lists 30 = .ok (.aload_n 0, 1) := by decide +kernel
theorem dX8_lists_31 : decode cX8_lists 31 = .ok (.aload_n 0, 1) := by decide +kernel
theorem dX8_lists_32 : decode cX8_lists 32 = .ok (.getfield 7, 3) := by decide +kernel
theorem dX8_lists_35 : decode cX8_lists 35 = .ok (.sipush 160, 3) := by decide +kernel
theorem dX8_lists_38 : decode cX8_lists 38 = .ok (.iload_n 1, 1) := by decide +kernel
theorem dX8_lists_39 : decode cX8_lists 39 = .ok (.iadd, 1) := by decide +kernel
theorem dX8_lists_40 : decode cX8_lists 40 = .ok (.iaload, 1) := by decide +kernel
theorem dX8_lists_41 : decode cX8_lists 41 = .ok (.invokevirtual 86, 3) := by decide +kernel
theorem dX8_lists_44 : decode cX8_lists 44 = .ok (.aload_n 0, 1) := by decide +kernel
theorem dX8_lists_45 : decode cX8_lists 45 = .ok (.iload_n 1, 1) := by decide +kernel
theorem dX8_lists_46 : decode cX8_lists 46 = .ok (.iconst 3, 1) := by decide +kernel
theorem dX8_lists_47 : decode cX8_lists 47 = .ok (.invokevirtual 52, 3) := by decide +kernel
theorem dX8_lists_50 : decode cX8_lists 50 = .ok (.istore_n 2, 1) := by decide +kernel
theorem dX8_lists_51 : decode cX8_lists 51 = .ok (.aload_n 0, 1) := by decide +kernel
theorem dX8_lists_52 : decode cX8_lists 52 = .ok (.iload_n 2, 1) := by decide +kernel
theorem dX8_lists_53 : decode cX8_lists 53 = .ok (.invokevirtual 86, 3) := by decide +kernel
theorem dX8_lists_56 : decode cX8_lists 56 = .ok (.aload_n 0, 1) := by decide +kernel
theorem dX8_lists_57 : decode cX8_lists 57 = .ok (.iload_n 1, 1) := by decide +kernel
theorem dX8_lists_58 : decode cX8_lists 58 = .ok (.iconst 5, 1) := by decide +kernel
theorem dX8_lists_59 : decode cX8_lists 59 = .ok (.invokevirtual 52, 3) := by decide +kernel
theorem dX8_lists_62 : decode cX8_lists 62 = .ok (.ifCond .le 12, 3) := by decide +kernel
theorem dX8_lists_65 : decode cX8_lists 65 = .ok (.aload_n 0, 1) := by decide +kernel
theorem dX8_lists_66 : decode cX8_lists 66 = .ok (.iload_n 2, 1) := by decide +kernel
theorem dX8_lists_67 : decode cX8_lists 67 = .ok (.iconst 2, 1) := by decide +kernel
theorem dX8_lists_68 : decode cX8_lists 68 = .ok (.iadd, 1) := by decide +kernel
theorem dX8_lists_69 : decode cX8_lists 69 = .ok (.iconst 4, 1) := by decide +kernel
theorem dX8_lists_70 : decode cX8_lists 70 = .ok (.irem, 1) := by decide +kernel
theorem dX8_lists_71 : decode cX8_lists 71 = .ok (.invokevirtual 86, 3) := by decide +kernel
theorem dX8_lists_74 : decode cX8_lists 74 = .ok (.aload_n 0, 1) := by decide +kernel
theorem dX8_lists_75 : decode cX8_lists 75 = .ok (.iload_n 1, 1) := by decide +kernel
theorem dX8_lists_76 : decode cX8_lists 76 = .ok (.iconst 5, 1) := by decide +kernel
theorem dX8_lists_77 : decode cX8_lists 77 = .ok (.invokevirtual 52, 3) := by decide +kernel
theorem dX8_lists_80 : decode cX8_lists 80 = .ok (.iconst 2, 1) := by decide +kernel
theorem dX8_lists_81 : decode cX8_lists 81 = .ok (.if_icmp .ne 21, 3) := by decide +kernel
theorem dX8_lists_84 : decode cX8_lists 84 = .ok (.aload_n 0, 1) := by decide +kernel
theorem dX8_lists_85 : decode cX8_lists 85 = .ok (.iload_n 2, 1) := by decide +kernel
theorem dX8_lists_86 : decode cX8_lists 86 = .ok (.iconst 1, 1) := by decide +kernel
theorem dX8_lists_87 : decode cX8_lists 87 = .ok (.iadd, 1) := by decide +kernel
theorem dX8_lists_88 : decode cX8_lists 88 = .ok (.iconst 4, 1) := by decide +kernel
theorem dX8_lists_89 : decode cX8_lists 89 = .ok (.irem, 1) := by decide +kernel
theorem dX8_lists_90 : decode cX8_lists 90 = .ok (.invokevirtual 86, 3) := by decide +kernel
theorem dX8_lists_93 : decode cX8_lists 93 = .ok (.aload_n 0, 1) := by decide +kernel
theorem dX8_lists_94 : decode cX8_lists 94 = .ok (.iload_n 2, 1) := by decide +kernel
theorem dX8_lists_95 : decode cX8_lists 95 = .ok (.iconst 3, 1) := by decide +kernel
theorem dX8_lists_96 : decode cX8_lists 96 = .ok (.iadd, 1) := by decide +kernel
theorem dX8_lists_97 : decode cX8_lists 97 = .ok (.iconst 4, 1) := by decide +kernel
theorem dX8_lists_98 : decode cX8_lists 98 = .ok (.irem, 1) := by decide +kernel
theorem dX8_lists_99 : decode cX8_lists 99 = .ok (.invokevirtual 86, 3) := by decide +kernel
theorem dX8_lists_102 : decode cX8_lists 102 = .ok (.return_, 1) := by decide +kernel
theorem dX8_isBarred_0 : decode cX8_isBarred 0 = .ok (.aload_n 0, 1) := by decide +kernel
theorem dX8_isBarred_1 : decode cX8_isBarred 1 = .ok (.getfield 73, 3) := by decide +kernel
theorem dX8_isBarred_4 : decode cX8_isBarred 4 = .ok (.istore_n 2, 1) := by decide +kernel
theorem dX8_isBarred_5 : decode cX8_isBarred 5 = .ok (.aload_n 0, 1) := by decide +kernel
theorem dX8_isBarred_6 : decode cX8_isBarred 6 = .ok (.getfield 76, 3) := by decide +kernel
theorem dX8_isBarred_9 : decode cX8_isBarred 9 = .ok (.istore_n 3, 1) := by decide +kernel
theorem dX8_isBarred_10 : decode cX8_isBarred 10 = .ok (.aload_n 0, 1) := by decide +kernel
theorem dX8_isBarred_11 : decode cX8_isBarred 11 = .ok (.iload_n 1, 1) := by decide +kernel
theorem dX8_isBarred_12 : decode cX8_isBarred 12 = .ok (.iconst 1, 1) := by decide +kernel
theorem dX8_isBarred_13 : decode cX8_isBarred 13 = .ok (.invokevirtual 52, 3) := by decide +kernel
theorem dX8_isBarred_16 : decode cX8_isBarred 16 = .ok (.istore 4, 2) := by decide +kernel
theorem dX8_isBarred_18 : decode cX8_isBarred 18 = .ok (.aload_n 0, 1) := by decide +kernel
theorem dX8_isBarred_19 : decode cX8_isBarred 19 = .ok (.iload_n 1, 1) := by decide +kernel
theorem dX8_isBarred_20 : decode cX8_isBarred 20 = .ok (.iconst 2, 1) := by decide +kernel
theorem dX8_isBarred_21 : decode cX8_isBarred 21 = .ok (.invokevirtual 52, 3) := by decide +kernel
theorem dX8_isBarred_24 : decode cX8_isBarred 24 = .ok (.istore 5, 2) := by decide +kernel
theorem dX8_isBarred_26 : decode cX8_isBarred 26 = .ok (.iconst 0, 1) := by decide +kernel
theorem dX8_isBarred_27 : decode cX8_isBarred 27 = .ok (.istore 6, 2) := by decide +kernel
theorem dX8_isBarred_29 : decode cX8_isBarred 29 = .ok (.iconst 0, 1) := by decide +kernel
theorem dX8_isBarred_30 : decode cX8_isBarred 30 = .ok (.istore 7, 2) := by decide +kernel
theorem dX8_isBarred_32 : decode cX8_isBarred 32 = .ok (.iload 7, 2) := by decide +kernel
theorem dX8_isBarred_34 : decode cX8_isBarred 34 = .ok (.aload_n 0, 1) := by decide +kernel
theorem dX8_isBarred_35 : decode cX8_isBarred 35 = .ok (.getfield 7, 3) := by decide +kernel
theorem dX8_isBarred_38 : decode cX8_isBarred 38 = .ok (.bipush 9, 2) := by decide +kernel
theorem dX8_isBarred_40 : decode cX8_isBarred 40 = .ok (.iaload, 1) := by decide +kernel
theorem dX8_isBarred_41 : decode cX8_isBarred 41 = .ok (.if_icmp .ge 72, 3) := by decide +kernel
theorem dX8_isBarred_44 : decode cX8_isBarred 44 = .ok (.iload 6, 2) := by decide +kernel
theorem dX8_isBarred_46 : decode cX8_isBarred 46 = .ok (.ifCond .ne 54, 3) := by decide +kernel
theorem dX8_isBarred_49 : decode cX8_isBarred 49 = .ok (.aload_n 0, 1) := by decide +kernel
theorem dX8_isBarred_50 : decode cX8_isBarred 50 = .ok (.getfield 7, 3) := by decide +kernel
theorem dX8_isBarred_53 : decode cX8_isBarred 53 = .ok (.bipush 8, 2) := by decide +kernel
theorem dX8_isBarred_55 : decode cX8_isBarred 55 = .ok (.iaload, 1) := by decide +kernel
theorem dX8_isBarred_56 : decode cX8_isBarred 56 = .ok (.iconst 1, 1) := by decide +kernel
theorem dX8_isBarred_57 : decode cX8_isBarred 57 = .ok (.if_icmp .ne 47, 3) := by decide +kernel
theorem dX8_isBarred_60 : decode cX8_isBarred 60 = .ok (.iload_n 2, 1) := by decide +kernel
theorem dX8_isBarred_61 : decode cX8_isBarred 61 = .ok (.iload_n 3, 1) := by decide +kernel
theorem dX8_isBarred_62 : decode cX8_isBarred 62 = .ok (.iload 4, 2) := by decide +kernel
theorem dX8_isBarred_64 : decode cX8_isBarred 64 = .ok (.iload 5, 2) := by decide +kernel
theorem dX8_isBarred_66 : decode cX8_isBarred 66 = .ok (.aload_n 0, 1) := by decide +kernel
theorem dX8_isBarred_67 : decode cX8_isBarred 67 = .ok (.iload 7, 2) := by decide +kernel
theorem dX8_isBarred_69 : decode cX8_isBarred 69 = .ok (.iconst 0, 1) := by decide +kernel
theorem dX8_isBarred_70 : decode cX8_isBarred 70 = .ok (.invokevirtual 40, 3) := by decide +kernel
theorem dX8_isBarred_73 : decode cX8_isBarred 73 = .ok (.aload_n 0, 1) := by decide +kernel
theorem dX8_isBarred_74 : decode cX8_isBarred 74 = .ok (.iload 7, 2) := by decide +kernel
theorem dX8_isBarred_76 : decode cX8_isBarred 76 = .ok (.iconst 1, 1) := by decide +kernel
theorem dX8_isBarred_77 : decode cX8_isBarred 77 = .ok (.invokevirtual 40, 3) := by decide +kernel
theorem dX8_isBarred_80 : decode cX8_isBarred 80 = .ok (.aload_n 0, 1) := by decide +kernel
theorem dX8_isBarred_81 : decode cX8_isBarred 81 = .ok (.iload 7, 2) := by decide +kernel
theorem dX8_isBarred_83 : decode cX8_isBarred 83 = .ok (.iconst 2, 1) := by decide +kernel
theorem dX8_isBarred_84 : decode cX8_isBarred 84 = .ok (.invokevirtual 40, 3) := by decide +kernel
theorem dX8_isBarred_87 : decode cX8_isBarred 87 = .ok (.aload_n 0, 1) := by decide +kernel
theorem dX8_isBarred_88 : decode cX8_isBarred 88 = .ok (.iload 7, 2) := by decide +kernel
theorem dX8_isBarred_90 : decode cX8_isBarred 90 = .ok (.iconst 3, 1) := by decide +kernel
theorem dX8_isBarred_91 : decode cX8_isBarred 91 = .ok (.invokevirtual 40, 3) := by decide +kernel
theorem dX8_isBarred_94 : decode cX8_isBarred 94 = .ok (.invokestatic 44, 3) := by decide +kernel
theorem dX8_isBarred_97 : decode cX8_isBarred 97 = .ok (.ifCond .eq 7, 3) := by decide +kernel
theorem dX8_isBarred_100 : decode cX8_isBarred 100 = .ok (.iconst 1, 1) := by decide +kernel
theorem dX8_isBarred_101 : decode cX8_isBarred 101 = .ok (.goto 4, 3) := by decide +kernel
theorem dX8_isBarred_104 : decode cX8_isBarred 104 = .ok (.iconst 0, 1) := by decide +kernel
theorem dX8_isBarred_105 : decode cX8_isBarred 105 = .ok (.istore 6, 2) := by decide +kernel
theorem dX8_isBarred_107 : decode cX8_isBarred 107 = .ok (.iinc 7 1, 3) := by decide +kernel
theorem dX8_isBarred_110 : decode cX8_isBarred 110 = .ok (.goto (-78), 3) := by decide +kernel
theorem dX8_isBarred_113 : decode cX8_isBarred 113 = .ok (.iconst 0, 1) := by decide +kernel
theorem dX8_isBarred_114 : decode cX8_isBarred 114 = .ok (.istore 7, 2) := by decide +kernel
theorem dX8_isBarred_116 : decode cX8_isBarred 116 = .ok (.iload 7, 2) := by decide +kernel
theorem dX8_isBarred_118 : decode cX8_isBarred 118 = .ok (.aload_n 0, 1) := by decide +kernel
theorem dX8_isBarred_119 : decode cX8_isBarred 119 = .ok (.getfield 7, 3) := by decide +kernel
theorem dX8_isBarred_122 : decode cX8_isBarred 122 = .ok (.bipush 50, 2) := by decide +kernel
theorem dX8_isBarred_124 : decode cX8_isBarred 124 = .ok (.iaload, 1) := by decide +kernel
theorem dX8_isBarred_125 : decode cX8_isBarred 125 = .ok (.if_icmp .ge 79, 3) := by decide +kernel
theorem dX8_isBarred_128 : decode cX8_isBarred 128 = .ok (.aload_n 0, 1) := by decide +kernel
theorem dX8_isBarred_129 : decode cX8_isBarred 129 = .ok (.getfield 26, 3) := by decide +kernel
theorem dX8_isBarred_132 : decode cX8_isBarred 132 = .ok (.iload 7, 2) := by decide +kernel
theorem dX8_isBarred_134 : decode cX8_isBarred 134 = .ok (.iaload, 1) := by decide +kernel
theorem dX8_isBarred_135 : decode cX8_isBarred 135 = .ok (.iconst (-1), 1) := by decide +kernel
theorem dX8_isBarred_136 : decode cX8_isBarred 136 = .ok (.if_icmp .eq 62, 3) := by decide +kernel
theorem dX8_isBarred_139 : decode cX8_isBarred 139 = .ok (.aload_n 0, 1) := by decide +kernel
theorem dX8_isBarred_140 : decode cX8_isBarred 140 = .ok (.iload 7, 2) := by decide +kernel
theorem dX8_isBarred_142 : decode cX8_isBarred 142 = .ok (.aload_n 0, 1) := by decide +kernel
theorem dX8_isBarred_143 : decode cX8_isBarred 143 = .ok (.getfield 26, 3) := by decide +kernel
theorem dX8_isBarred_146 : decode cX8_isBarred 146 = .ok (.iload 7, 2) := by decide +kernel
theorem dX8_isBarred_148 : decode cX8_isBarred 148 = .ok (.iaload, 1) := by decide +kernel
theorem dX8_isBarred_149 : decode cX8_isBarred 149 = .ok (.invokevirtual 79, 3) := by decide +kernel
theorem dX8_isBarred_152 : decode cX8_isBarred 152 = .ok (.iload 6, 2) := by decide +kernel
theorem dX8_isBarred_154 : decode cX8_isBarred 154 = .ok (.ifCond .ne 37, 3) := by decide +kernel
theorem dX8_isBarred_157 : decode cX8_isBarred 157 = .ok (.iload_n 2, 1) := by decide +kernel
theorem dX8_isBarred_158 : decode cX8_isBarred 158 = .ok (.iload_n 3, 1) := by decide +kernel
theorem dX8_isBarred_159 : decode cX8_isBarred 159 = .ok (.iload 4, 2) := by decide +kernel
theorem dX8_isBarred_161 : decode cX8_isBarred 161 = .ok (.iload 5, 2) := by decide +kernel
theorem dX8_isBarred_163 : decode cX8_isBarred 163 = .ok (.aload_n 0, 1) := by decide +kernel
theorem dX8_isBarred_164 : decode cX8_isBarred 164 = .ok (.getfield 73, 3) := by decide +kernel
theorem dX8_isBarred_167 : decode cX8_isBarred 167 = .ok (.aload_n 0, 1) := by decide +kernel
theorem dX8_isBarred_168 : decode cX8_isBarred 168 = .ok (.getfield 76, 3) := by decide +kernel
theorem dX8_isBarred_171 : decode cX8_isBarred 171 = .ok (.aload_n 0, 1) := by decide +kernel
theorem dX8_isBarred_172 : decode cX8_isBarred 172 = .ok (.iload 7, 2) := by decide +kernel
theorem dX8_isBarred_174 : decode cX8_isBarred 174 = .ok (.iconst 1, 1) := by decide +kernel
theorem dX8_isBarred_175 : decode cX8_isBarred 175 = .ok (.invokevirtual 52, 3) := by decide +kernel
theorem dX8_isBarred_178 : decode cX8_isBarred 178 = .ok (.aload_n 0, 1) := by decide +kernel
theorem dX8_isBarred_179 : decode cX8_isBarred 179 = .ok (.iload 7, 2) := by decide +kernel
theorem dX8_isBarred_181 : decode cX8_isBarred 181 = .ok (.iconst 2, 1) := by decide +kernel
theorem dX8_isBarred_182 : decode cX8_isBarred 182 = .ok (.invokevirtual 52, 3) := by decide +kernel
theorem dX8_isBarred_185 : decode cX8_isBarred 185 = .ok (.invokestatic 44, 3) := by decide +kernel
theorem dX8_isBarred_188 : decode cX8_isBarred 188 = .ok (.ifCond .eq 7, 3) := by decide +kernel
theorem dX8_isBarred_191 : decode cX8_isBarred 191 = .ok (.iconst 1, 1) := by decide +kernel
theorem dX8_isBarred_192 : decode cX8_isBarred 192 = .ok (.goto 4, 3) := by decide +kernel
theorem dX8_isBarred_195 : decode cX8_isBarred 195 = .ok (.iconst 0, 1) := by decide +kernel
theorem dX8_isBarred_196 : decode cX8_isBarred 196 = .ok (.istore 6, 2) := by decide +kernel
theorem dX8_isBarred_198 : decode cX8_isBarred 198 = .ok (.iinc 7 1, 3) := by decide +kernel
theorem dX8_isBarred_201 : decode cX8_isBarred 201 = .ok (.goto (-85), 3) := by decide +kernel
theorem dX8_isBarred_204 : decode cX8_isBarred 204 = .ok (.iload 6, 2) := by decide +kernel
theorem dX8_isBarred_206 : decode cX8_isBarred 206 = .ok (.ireturn, 1) := by decide +kernel
theorem dX8_finds_0 : decode cX8_finds 0 = .ok (.aload_n 0, 1) := by decide +kernel
theorem dX8_finds_1 : decode cX8_finds 1 = .ok (.iload_n 1, 1) := by decide +kernel
theorem dX8_finds_2 : decode cX8_finds 2 = .ok (.invokevirtual 90, 3) := by decide +kernel
theorem dX8_finds_5 : decode cX8_finds 5 = .ok (.aload_n 0, 1) := by decide +kernel
theorem dX8_finds_6 : decode cX8_finds 6 = .ok (.getfield 23, 3) := by decide +kernel
theorem dX8_finds_9 : decode cX8_finds 9 = .ok (.iload_n 1, 1) := by decide +kernel
theorem dX8_finds_10 : decode cX8_finds 10 = .ok (.iconst 3, 1) := by decide +kernel
theorem dX8_finds_11 : decode cX8_finds 11 = .ok (.iastore, 1) := by decide +kernel
theorem dX8_finds_12 : decode cX8_finds 12 = .ok (.iconst 0, 1) := by decide +kernel
theorem dX8_finds_13 : decode cX8_finds 13 = .ok (.istore_n 2, 1) := by decide +kernel
theorem dX8_finds_14 : decode cX8_finds 14 = .ok (.iload_n 2, 1) := by decide +kernel
theorem dX8_finds_15 : decode cX8_finds 15 = .ok (.aload_n 0, 1) := by decide +kernel
theorem dX8_finds_16 : decode cX8_finds 16 = .ok (.getfield 83, 3) := by decide +kernel
theorem dX8_finds_19 : decode cX8_finds 19 = .ok (.if_icmp .ge 74, 3) := by decide +kernel
theorem dX8_finds_22 : decode cX8_finds 22 = .ok (.aload_n 0, 1) := by decide +kernel
theorem dX8_finds_23 : decode cX8_finds 23 = .ok (.getfield 26, 3) := by decide +kernel
theorem dX8_finds_26 : decode cX8_finds 26 = .ok (.iload_n 1, 1) := by decide +kernel
theorem dX8_finds_27 : decode cX8_finds 27 = .ok (.iaload, 1) := by decide +kernel
theorem dX8_finds_28 : decode cX8_finds 28 = .ok (.iconst (-1), 1) := by decide +kernel
theorem dX8_finds_29 : decode cX8_finds 29 = .ok (.if_icmp .ne 64, 3) := by decide +kernel
theorem dX8_finds_32 : decode cX8_finds 32 = .ok (.aload_n 0, 1) := by decide +kernel
theorem dX8_finds_33 : decode cX8_finds 33 = .ok (.iload_n 1, 1) := by decide +kernel
theorem dX8_finds_34 : decode cX8_finds 34 = .ok (.aload_n 0, 1) := by decide +kernel
theorem dX8_finds_35 : decode cX8_finds 35 = .ok (.getfield 29, 3) := by decide +kernel
theorem dX8_finds_38 : decode cX8_finds 38 = .ok (.iload_n 2, 1) := by decide +kernel
theorem dX8_finds_39 : decode cX8_finds 39 = .ok (.iaload, 1) := by decide +kernel
theorem dX8_finds_40 : decode cX8_finds 40 = .ok (.invokevirtual 93, 3) := by decide +kernel
theorem dX8_finds_43 : decode cX8_finds 43 = .ok (.ifCond .eq 44, 3) := by decide +kernel
theorem dX8_finds_46 : decode cX8_finds 46 = .ok (.aload_n 0, 1) := by decide +kernel
theorem dX8_finds_47 : decode cX8_finds 47 = .ok (.iload_n 1, 1) := by decide +kernel
theorem dX8_finds_48 : decode cX8_finds 48 = .ok (.invokevirtual 96, 3) := by decide +kernel
theorem dX8_finds_51 : decode cX8_finds 51 = .ok (.istore_n 3, 1) := by decide +kernel
theorem dX8_finds_52 : decode cX8_finds 52 = .ok (.aload_n 0, 1) := by decide +kernel
theorem dX8_finds_53 : decode cX8_finds 53 = .ok (.getfield 23, 3) := by decide +kernel
theorem dX8_finds_56 : decode cX8_finds 56 = .ok (.iload_n 1, 1) := by decide +kernel
theorem dX8_finds_57 : decode cX8_finds 57 = .ok (.iload_n 3, 1) := by decide +kernel
theorem dX8_finds_58 : decode cX8_finds 58 = .ok (.ifCond .eq 7, 3) := by decide +kernel
theorem dX8_finds_61 : decode cX8_finds 61 = .ok (.iconst 4, 1) := by decide +kernel
theorem dX8_finds_62 : decode cX8_finds 62 = .ok (.goto 4, 3) := by decide +kernel
theorem dX8_finds_65 : decode cX8_finds 65 = .ok (.iconst 0, 1) := by decide +kernel
theorem dX8_finds_66 : decode cX8_finds 66 = .ok (.iastore, 1) := by decide +kernel
theorem dX8_finds_67 : decode cX8_finds 67 = .ok (.aload_n 0, 1) := by decide +kernel
theorem dX8_finds_68 : decode cX8_finds 68 = .ok (.getfield 26, 3) := by decide +kernel
theorem dX8_finds_71 : decode cX8_finds 71 = .ok (.iload_n 1, 1) := by decide +kernel
theorem dX8_finds_72 : decode cX8_finds 72 = .ok (.iload_n 3, 1) := by decide +kernel
theorem dX8_finds_73 : decode cX8_finds 73 = .ok (.ifCond .eq 7, 3) := by decide +kernel
theorem dX8_finds_76 : decode cX8_finds 76 = .ok (.iconst (-1), 1) := by decide +kernel
theorem dX8_finds_77 : decode cX8_finds 77 = .ok (.goto 9, 3) := by decide +kernel
theorem dX8_finds_80 : decode cX8_finds 80 = .ok (.aload_n 0, 1) := by decide +kernel
theorem dX8_finds_81 : decode cX8_finds 81 = .ok (.getfield 29, 3) := by decide +kernel
theorem dX8_finds_84 : decode cX8_finds 84 = .ok (.iload_n 2, 1) := by decide +kernel
theorem dX8_finds_85 : decode cX8_finds 85 = .ok (.iaload, 1) := by decide +kernel
theorem dX8_finds_86 : decode cX8_finds 86 = .ok (.iastore, 1) := by decide +kernel
theorem dX8_finds_87 : decode cX8_finds 87 = .ok (.iinc 2 1, 3) := by decide +kernel
theorem dX8_finds_90 : decode cX8_finds 90 = .ok (.goto (-76), 3) := by decide +kernel
theorem dX8_finds_93 : decode cX8_finds 93 = .ok (.return_, 1) := by decide +kernel
theorem dX8_sorts_0 : decode cX8_sorts 0 = .ok (.iconst 0, 1) := by decide +kernel
theorem dX8_sorts_1 : decode cX8_sorts 1 = .ok (.istore_n 1, 1) := by decide +kernel
theorem dX8_sorts_2 : decode cX8_sorts 2 = .ok (.iload_n 1, 1) := by decide +kernel
theorem dX8_sorts_3 : decode cX8_sorts 3 = .ok (.aload_n 0, 1) := by decide +kernel
theorem dX8_sorts_4 : decode cX8_sorts 4 = .ok (.getfield 7, 3) := by decide +kernel
theorem dX8_sorts_7 : decode cX8_sorts 7 = .ok (.sipush 147, 3) := by decide +kernel
theorem dX8_sorts_10 : decode cX8_sorts 10 = .ok (.iaload, 1) := by decide +kernel
theorem dX8_sorts_11 : decode cX8_sorts 11 = .ok (.if_icmp .ge 77, 3) := by decide +kernel
theorem dX8_sorts_14 : decode cX8_sorts 14 = .ok (.aload_n 0, 1) := by decide +kernel
theorem dX8_sorts_15 : decode cX8_sorts 15 = .ok (.getfield 7, 3) := by decide +kernel
theorem dX8_sorts_18 : decode cX8_sorts 18 = .ok (.sipush 148, 3) := by decide +kernel
theorem dX8_sorts_21 : decode cX8_sorts 21 = .ok (.iload_n 1, 1) := by decide +kernel
theorem dX8_sorts_22 : decode cX8_sorts 22 = .ok (.iadd, 1) := by decide +kernel
theorem dX8_sorts_23 : decode cX8_sorts 23 = .ok (.iaload, 1) := by decide +kernel
theorem dX8_sorts_24 : decode cX8_sorts 24 = .ok (.istore_n 2, 1) := by decide +kernel
theorem dX8_sorts_25 : decode cX8_sorts 25 = .ok (.iload_n 1, 1) := by decide +kernel
theorem dX8_sorts_26 : decode cX8_sorts 26 = .ok (.istore_n 3, 1) := by decide +kernel
theorem dX8_sorts_27 : decode cX8_sorts 27 = .ok (.iload_n 3, 1) := by decide +kernel
theorem dX8_sorts_28 : decode cX8_sorts 28 = .ok (.ifCond .le 47, 3) := by decide +kernel
theorem dX8_sorts_31 : decode cX8_sorts 31 = .ok (.aload_n 0, 1) := by decide +kernel
theorem dX8_sorts_32 : decode cX8_sorts 32 = .ok (.aload_n 0, 1) := by decide +kernel
theorem dX8_sorts_33 : decode cX8_sorts 33 = .ok (.getfield 20, 3) := by decide +kernel
theorem dX8_sorts_36 : decode cX8_sorts 36 = .ok (.iload_n 3, 1) := by decide +kernel
theorem dX8_sorts_37 : decode cX8_sorts 37 = .ok (.iconst 1, 1) := by decide +kernel
theorem dX8_sorts_38 : decode cX8_sorts 38 = .ok (.isub, 1) := by decide +kernel
theorem dX8_sorts_39 : decode cX8_sorts 39 = .ok (.iaload, 1) := by decide +kernel
theorem dX8_sorts_40 : decode cX8_sorts 40 = .ok (.bipush 7, 2) := by decide +kernel
theorem dX8_sorts_42 : decode cX8_sorts 42 = .ok (.invokevirtual 52, 3) := by decide +kernel
theorem dX8_sorts_45 : decode cX8_sorts 45 = .ok (.aload_n 0, 1) := by decide +kernel
theorem dX8_sorts_46 : decode cX8_sorts 46 = .ok (.iload_n 2, 1) := by decide +kernel
theorem dX8_sorts_47 : decode cX8_sorts 47 = .ok (.bipush 7, 2) := by decide +kernel
theorem dX8_sorts_49 : decode cX8_sorts 49 = .ok (.invokevirtual 52, 3) := by decide +kernel
theorem dX8_sorts_52 : decode cX8_sorts 52 = .ok (.if_icmp .ge 23, 3) := by decide +kernel
theorem dX8_sorts_55 : decode cX8_sorts 55 = .ok (.aload_n 0, 1) := by decide +kernel
theorem dX8_sorts_56 : decode cX8_sorts 56 = .ok (.getfield 20, 3) := by decide +kernel
theorem dX8_sorts_59 : decode cX8_sorts 59 = .ok (.iload_n 3, 1) := by decide +kernel
theorem dX8_sorts_60 : decode cX8_sorts 60 = .ok (.aload_n 0, 1) := by decide +kernel
theorem dX8_sorts_61 : decode cX8_sorts 61 = .ok (.getfield 20, 3) := by decide +kernel
theorem dX8_sorts_64 : decode cX8_sorts 64 = .ok (.iload_n 3, 1) := by decide +kernel
theorem dX8_sorts_65 : decode cX8_sorts 65 = .ok (.iconst 1, 1) := by decide +kernel
theorem dX8_sorts_66 : decode cX8_sorts 66 = .ok (.isub, 1) := by decide +kernel
theorem dX8_sorts_67 : decode cX8_sorts 67 = .ok (.iaload, 1) := by decide +kernel
theorem dX8_sorts_68 : decode cX8_sorts 68 = .ok (.iastore, 1) := by decide +kernel
theorem dX8_sorts_69 : decode cX8_sorts 69 = .ok (.iinc 3 (-1), 3) := by decide +kernel
theorem dX8_sorts_72 : decode cX8_sorts 72 = .ok (.goto (-45), 3) := by decide +kernel
theorem dX8_sorts_75 : decode cX8_sorts 75 = .ok (.aload_n 0, 1) := by decide +kernel
theorem dX8_sorts_76 : decode cX8_sorts 76 = .ok (.getfield 20, 3) := by decide +kernel
theorem dX8_sorts_79 : decode cX8_sorts 79 = .ok (.iload_n 3, 1) := by decide +kernel
theorem dX8_sorts_80 : decode cX8_sorts 80 = .ok (.iload_n 2, 1) := by decide +kernel
theorem dX8_sorts_81 : decode cX8_sorts 81 = .ok (.iastore, 1) := by decide +kernel
theorem dX8_sorts_82 : decode cX8_sorts 82 = .ok (.iinc 1 1, 3) := by decide +kernel
theorem dX8_sorts_85 : decode cX8_sorts 85 = .ok (.goto (-83), 3) := by decide +kernel
theorem dX8_sorts_88 : decode cX8_sorts 88 = .ok (.return_, 1) := by decide +kernel
theorem dX8_shows_0 : decode cX8_shows 0 = .ok (.iconst 0, 1) := by decide +kernel
theorem dX8_shows_1 : decode cX8_shows 1 = .ok (.istore_n 1, 1) := by decide +kernel
theorem dX8_shows_2 : decode cX8_shows 2 = .ok (.iload_n 1, 1) := by decide +kernel
theorem dX8_shows_3 : decode cX8_shows 3 = .ok (.bipush 12, 2) := by decide +kernel
theorem dX8_shows_5 : decode cX8_shows 5 = .ok (.if_icmp .ge 23, 3) := by decide +kernel
theorem dX8_shows_8 : decode cX8_shows 8 = .ok (.aload_n 0, 1) := by decide +kernel
theorem dX8_shows_9 : decode cX8_shows 9 = .ok (.getfield 23, 3) := by decide +kernel
theorem dX8_shows_12 : decode cX8_shows 12 = .ok (.iload_n 1, 1) := by decide +kernel
theorem dX8_shows_13 : decode cX8_shows 13 = .ok (.iconst 1, 1) := by decide +kernel
theorem dX8_shows_14 : decode cX8_shows 14 = .ok (.iastore, 1) := by decide +kernel
theorem dX8_shows_15 : decode cX8_shows 15 = .ok (.aload_n 0, 1) := by decide +kernel
theorem dX8_shows_16 : decode cX8_shows 16 = .ok (.getfield 26, 3) := by decide +kernel
theorem dX8_shows_19 : decode cX8_shows 19 = .ok (.iload_n 1, 1) := by decide +kernel
theorem dX8_shows_20 : decode cX8_shows 20 = .ok (.iconst (-1), 1) := by decide +kernel
theorem dX8_shows_21 : decode cX8_shows 21 = .ok (.iastore, 1) := by decide +kernel
theorem dX8_shows_22 : decode cX8_shows 22 = .ok (.iinc 1 1, 3) := by decide +kernel
theorem dX8_shows_25 : decode cX8_shows 25 = .ok (.goto (-23), 3) := by decide +kernel
theorem dX8_shows_28 : decode cX8_shows 28 = .ok (.aload_n 0, 1) := by decide +kernel
theorem dX8_shows_29 : decode cX8_shows 29 = .ok (.iconst 0, 1) := by decide +kernel
theorem dX8_shows_30 : decode cX8_shows 30 = .ok (.putfield 100, 3) := by decide +kernel
theorem dX8_shows_33 : decode cX8_shows 33 = .ok (.aload_n 0, 1) := by decide +kernel
theorem dX8_shows_34 : decode cX8_shows 34 = .ok (.invokevirtual 103, 3) := by decide +kernel
theorem dX8_shows_37 : decode cX8_shows 37 = .ok (.iconst 0, 1) := by decide +kernel
theorem dX8_shows_38 : decode cX8_shows 38 = .ok (.istore_n 1, 1) := by decide +kernel
theorem dX8_shows_39 : decode cX8_shows 39 = .ok (.iload_n 1, 1) := by decide +kernel
theorem dX8_shows_40 : decode cX8_shows 40 = .ok (.aload_n 0, 1) := by decide +kernel
theorem dX8_shows_41 : decode cX8_shows 41 = .ok (.getfield 7, 3) := by decide +kernel
theorem dX8_shows_44 : decode cX8_shows 44 = .ok (.sipush 147, 3) := by decide +kernel
theorem dX8_shows_47 : decode cX8_shows 47 = .ok (.iaload, 1) := by decide +kernel
theorem dX8_shows_48 : decode cX8_shows 48 = .ok (.if_icmp .ge 92, 3) := by decide +kernel
theorem dX8_shows_51 : decode cX8_shows 51 = .ok (.aload_n 0, 1) := by decide +kernel
theorem dX8_shows_52 : decode cX8_shows 52 = .ok (.getfield 20, 3) := by decide +kernel
theorem dX8_shows_55 : decode cX8_shows 55 = .ok (.iload_n 1, 1) := by decide +kernel
theorem dX8_shows_56 : decode cX8_shows 56 = .ok (.iaload, 1) := by decide +kernel
theorem dX8_shows_57 : decode cX8_shows 57 = .ok (.istore_n 2, 1) := by decide +kernel
theorem dX8_shows_58 : decode cX8_shows 58 = .ok (.aload_n 0, 1) := by decide +kernel
theorem dX8_shows_59 : decode cX8_shows 59 = .ok (.aload_n 0, 1) := by decide +kernel
theorem dX8_shows_60 : decode cX8_shows 60 = .ok (.iload_n 2, 1) := by decide +kernel
theorem dX8_shows_61 : decode cX8_shows 61 = .ok (.iconst 0, 1) := by decide +kernel
theorem dX8_shows_62 : decode cX8_shows 62 = .ok (.invokevirtual 52, 3) := by decide +kernel
theorem dX8_shows_65 : decode cX8_shows 65 = .ok (.invokevirtual 106, 3) := by decide +kernel
theorem dX8_shows_68 : decode cX8_shows 68 = .ok (.ifCond .ne 13, 3) := by decide +kernel
theorem dX8_shows_71 : decode cX8_shows 71 = .ok (.aload_n 0, 1) := by decide +kernel
theorem dX8_shows_72 : decode cX8_shows 72 = .ok (.getfield 23, 3) := by decide +kernel
theorem dX8_shows_75 : decode cX8_shows 75 = .ok (.iload_n 2, 1) := by decide +kernel
theorem dX8_shows_76 : decode cX8_shows 76 = .ok (.iconst 2, 1) := by decide +kernel
theorem dX8_shows_77 : decode cX8_shows 77 = .ok (.iastore, 1) := by decide +kernel
theorem dX8_shows_78 : decode cX8_shows 78 = .ok (.goto 56, 3) := by decide +kernel
theorem dX8_shows_81 : decode cX8_shows 81 = .ok (.aload_n 0, 1) := by decide +kernel
theorem dX8_shows_82 : decode cX8_shows 82 = .ok (.getfield 100, 3) := by decide +kernel
theorem dX8_shows_85 : decode cX8_shows 85 = .ok (.aload_n 0, 1) := by decide +kernel
theorem dX8_shows_86 : decode cX8_shows 86 = .ok (.getfield 7, 3) := by decide +kernel
theorem dX8_shows_89 : decode cX8_shows 89 = .ok (.bipush 6, 2) := by decide +kernel
theorem dX8_shows_91 : decode cX8_shows 91 = .ok (.iaload, 1) := by decide +kernel
theorem dX8_shows_92 : decode cX8_shows 92 = .ok (.if_icmp .lt 13, 3) := by decide +kernel
theorem dX8_shows_95 : decode cX8_shows 95 = .ok (.aload_n 0, 1) := by decide +kernel
theorem dX8_shows_96 : decode cX8_shows 96 = .ok (.getfield 23, 3) := by decide +kernel
theorem dX8_shows_99 : decode cX8_shows 99 = .ok (.iload_n 2, 1) := by decide +kernel
theorem dX8_shows_100 : decode cX8_shows 100 = .ok (.iconst 5, 1) := by decide +kernel
theorem dX8_shows_101 : decode cX8_shows 101 = .ok (.iastore, 1) := by decide +kernel
theorem dX8_shows_102 : decode cX8_shows 102 = .ok (.goto 32, 3) := by decide +kernel
theorem dX8_shows_105 : decode cX8_shows 105 = .ok (.aload_n 0, 1) := by decide +kernel
theorem dX8_shows_106 : decode cX8_shows 106 = .ok (.iload_n 2, 1) := by decide +kernel
theorem dX8_shows_107 : decode cX8_shows 107 = .ok (.invokevirtual 109, 3) := by decide +kernel
theorem dX8_shows_110 : decode cX8_shows 110 = .ok (.aload_n 0, 1) := by decide +kernel
theorem dX8_shows_111 : decode cX8_shows 111 = .ok (.dup, 1) := by decide +kernel
theorem dX8_shows_112 : decode cX8_shows 112 = .ok (.getfield 100, 3) := by decide +kernel
theorem dX8_shows_115 : decode cX8_shows 115 = .ok (.aload_n 0, 1) := by decide +kernel
theorem dX8_shows_116 : decode cX8_shows 116 = .ok (.getfield 26, 3) := by decide +kernel
theorem dX8_shows_119 : decode cX8_shows 119 = .ok (.iload_n 2, 1) := by decide +kernel
theorem dX8_shows_120 : decode cX8_shows 120 = .ok (.iaload, 1) := by decide +kernel
theorem dX8_shows_121 : decode cX8_shows 121 = .ok (.iconst (-1), 1) := by decide +kernel
theorem dX8_shows_122 : decode cX8_shows 122 = .ok (.if_icmp .ne 7, 3) := by decide +kernel
theorem dX8_shows_125 : decode cX8_shows 125 = .ok (.iconst 0, 1) := by decide +kernel
theorem dX8_shows_126 : decode cX8_shows 126 = .ok (.goto 4, 3) := by decide +kernel
theorem dX8_shows_129 : decode cX8_shows 129 = .ok (.iconst 1, 1) := by decide +kernel
theorem dX8_shows_130 : decode cX8_shows 130 = .ok (.iadd, 1) := by decide +kernel
theorem dX8_shows_131 : decode cX8_shows 131 = .ok (.putfield 100, 3) := by decide +kernel
theorem dX8_shows_134 : decode cX8_shows 134 = .ok (.iinc 1 1, 3) := by decide +kernel
theorem dX8_shows_137 : decode cX8_shows 137 = .ok (.goto (-98), 3) := by decide +kernel
theorem dX8_shows_140 : decode cX8_shows 140 = .ok (.return_, 1) := by decide +kernel
theorem dX8_many_0 : decode cX8_many 0 = .ok (.aload_n 0, 1) := by decide +kernel
theorem dX8_many_1 : decode cX8_many 1 = .ok (.invokevirtual 112, 3) := by decide +kernel
theorem dX8_many_4 : decode cX8_many 4 = .ok (.aload_n 0, 1) := by decide +kernel
theorem dX8_many_5 : decode cX8_many 5 = .ok (.getfield 100, 3) := by decide +kernel
theorem dX8_many_8 : decode cX8_many 8 = .ok (.ireturn, 1) := by decide +kernel
theorem dX8_view_0 : decode cX8_view 0 = .ok (.iload_n 1, 1) := by decide +kernel
theorem dX8_view_1 : decode cX8_view 1 = .ok (.bipush 20, 2) := by decide +kernel
theorem dX8_view_3 : decode cX8_view 3 = .ok (.sipush 400, 3) := by decide +kernel
theorem dX8_view_6 : decode cX8_view 6 = .ok (.invokestatic 32, 3) := by decide +kernel
theorem dX8_view_9 : decode cX8_view 9 = .ok (.ifCond .eq 15, 3) := by decide +kernel
theorem dX8_view_12 : decode cX8_view 12 = .ok (.iload_n 2, 1) := by decide +kernel
theorem dX8_view_13 : decode cX8_view 13 = .ok (.bipush 20, 2) := by decide +kernel
theorem dX8_view_15 : decode cX8_view 15 = .ok (.sipush 400, 3) := by decide +kernel
theorem dX8_view_18 : decode cX8_view 18 = .ok (.invokestatic 32, 3) := by decide +kernel
theorem dX8_view_21 : decode cX8_view 21 = .ok (.ifCond .ne 7, 3) := by decide +kernel
theorem dX8_view_24 : decode cX8_view 24 = .ok (.sipush (-10001), 3) := by decide +kernel
theorem dX8_view_27 : decode cX8_view 27 = .ok (.ireturn, 1) := by decide +kernel
theorem dX8_view_28 : decode cX8_view 28 = .ok (.aload_n 0, 1) := by decide +kernel
theorem dX8_view_29 : decode cX8_view 29 = .ok (.invokevirtual 115, 3) := by decide +kernel
theorem dX8_view_32 : decode cX8_view 32 = .ok (.aload_n 0, 1) := by decide +kernel
theorem dX8_view_33 : decode cX8_view 33 = .ok (.getfield 7, 3) := by decide +kernel
theorem dX8_view_36 : decode cX8_view 36 = .ok (.iconst 2, 1) := by decide +kernel
theorem dX8_view_37 : decode cX8_view 37 = .ok (.iload_n 1, 1) := by decide +kernel
theorem dX8_view_38 : decode cX8_view 38 = .ok (.iastore, 1) := by decide +kernel
theorem dX8_view_39 : decode cX8_view 39 = .ok (.aload_n 0, 1) := by decide +kernel
theorem dX8_view_40 : decode cX8_view 40 = .ok (.getfield 7, 3) := by decide +kernel
theorem dX8_view_43 : decode cX8_view 43 = .ok (.iconst 3, 1) := by decide +kernel
theorem dX8_view_44 : decode cX8_view 44 = .ok (.iload_n 2, 1) := by decide +kernel
theorem dX8_view_45 : decode cX8_view 45 = .ok (.iastore, 1) := by decide +kernel
theorem dX8_view_46 : decode cX8_view 46 = .ok (.aload_n 0, 1) := by decide +kernel
theorem dX8_view_47 : decode cX8_view 47 = .ok (.invokevirtual 118, 3) := by decide +kernel
theorem dX8_view_50 : decode cX8_view 50 = .ok (.ireturn, 1) := by decide +kernel
theorem dX8_canScroll_0 : decode cX8_canScroll 0 = .ok (.aload_n 0, 1) := by decide +kernel
theorem dX8_canScroll_1 : decode cX8_canScroll 1 = .ok (.getfield 7, 3) := by decide +kernel
theorem dX8_canScroll_4 : decode cX8_canScroll 4 = .ok (.iconst 0, 1) := by decide +kernel
theorem dX8_canScroll_5 : decode cX8_canScroll 5 = .ok (.iaload, 1) := by decide +kernel
theorem dX8_canScroll_6 : decode cX8_canScroll 6 = .ok (.iload_n 1, 1) := by decide +kernel
theorem dX8_canScroll_7 : decode cX8_canScroll 7 = .ok (.iadd, 1) := by decide +kernel
theorem dX8_canScroll_8 : decode cX8_canScroll 8 = .ok (.sipush (-2000), 3) := by decide +kernel
theorem dX8_canScroll_11 : decode cX8_canScroll 11 = .ok (.sipush 2000, 3) := by decide +kernel
theorem dX8_canScroll_14 : decode cX8_canScroll 14 = .ok (.invokestatic 32, 3) := by decide +kernel
theorem dX8_canScroll_17 : decode cX8_canScroll 17 = .ok (.ifCond .eq 27, 3) := by decide +kernel
theorem dX8_canScroll_20 : decode cX8_canScroll 20 = .ok (.aload_n 0, 1) := by decide +kernel
theorem dX8_canScroll_21 : decode cX8_canScroll 21 = .ok (.getfield 7, 3) := by decide +kernel
theorem dX8_canScroll_24 : decode cX8_canScroll 24 = .ok (.iconst 1, 1) := by decide +kernel
theorem dX8_canScroll_25 : decode cX8_canScroll 25 = .ok (.iaload, 1) := by decide +kernel
theorem dX8_canScroll_26 : decode cX8_canScroll 26 = .ok (.iload_n 2, 1) := by decide +kernel
theorem dX8_canScroll_27 : decode cX8_canScroll 27 = .ok (.iadd, 1) := by decide +kernel
theorem dX8_canScroll_28 : decode cX8_canScroll 28 = .ok (.sipush (-2000), 3) := by decide +kernel
theorem dX8_canScroll_31 : decode cX8_canScroll 31 = .ok (.sipush 2000, 3) := by decide +kernel
theorem dX8_canScroll_34 : decode cX8_canScroll 34 = .ok (.invokestatic 32, 3) := by decide +kernel
theorem dX8_canScroll_37 : decode cX8_canScroll 37 = .ok (.ifCond .eq 7, 3) := by decide +kernel
theorem dX8_canScroll_40 : decode cX8_canScroll 40 = .ok (.iconst 1, 1) := by decide +kernel
theorem dX8_canScroll_41 : decode cX8_canScroll 41 = .ok (.goto 4, 3) := by decide +kernel
theorem dX8_canScroll_44 : decode cX8_canScroll 44 = .ok (.iconst 0, 1) := by decide +kernel
theorem dX8_canScroll_45 : decode cX8_canScroll 45 = .ok (.ireturn, 1) := by decide +kernel
theorem dX8_scroll_0 : decode cX8_scroll 0 = .ok (.iload_n 1, 1) := by decide +kernel
theorem dX8_scroll_1 : decode cX8_scroll 1 = .ok (.sipush (-1000), 3) := by decide +kernel
theorem dX8_scroll_4 : decode cX8_scroll 4 = .ok (.sipush 1000, 3) := by decide +kernel
theorem dX8_scroll_7 : decode cX8_scroll 7 = .ok (.invokestatic 32, 3) := by decide +kernel
theorem dX8_scroll_10 : decode cX8_scroll 10 = .ok (.ifCond .eq 16, 3) := by decide +kernel
theorem dX8_scroll_13 : decode cX8_scroll 13 = .ok (.iload_n 2, 1) := by decide +kernel
theorem dX8_scroll_14 : decode cX8_scroll 14 = .ok (.sipush (-1000), 3) := by decide +kernel
theorem dX8_scroll_17 : decode cX8_scroll 17 = .ok (.sipush 1000, 3) := by decide +kernel
theorem dX8_scroll_20 : decode cX8_scroll 20 = .ok (.invokestatic 32, 3) := by decide +kernel
theorem dX8_scroll_23 : decode cX8_scroll 23 = .ok (.ifCond .ne 7, 3) := by decide +kernel
theorem dX8_scroll_26 : decode cX8_scroll 26 = .ok (.sipush (-10001), 3) := by decide +kernel
theorem dX8_scroll_29 : decode cX8_scroll 29 = .ok (.ireturn, 1) := by decide +kernel
theorem dX8_scroll_30 : decode cX8_scroll 30 = .ok (.aload_n 0, 1) := by decide +kernel
theorem dX8_scroll_31 : decode cX8_scroll 31 = .ok (.iload_n 1, 1) := by decide +kernel
theorem dX8_scroll_32 : decode cX8_scroll 32 = .ok (.iload_n 2, 1) := by decide +kernel
theorem dX8_scroll_33 : decode cX8_scroll 33 = .ok (.invokevirtual 122, 3) := by decide +kernel
theorem dX8_scroll_36 : decode cX8_scroll 36 = .ok (.ifCond .ne 7, 3) := by decide +kernel
theorem dX8_scroll_39 : decode cX8_scroll 39 = .ok (.sipush (-10002), 3) := by decide +kernel
theorem dX8_scroll_42 : decode cX8_scroll 42 = .ok (.ireturn, 1) := by decide +kernel
theorem dX8_scroll_43 : decode cX8_scroll 43 = .ok (.aload_n 0, 1) := by decide +kernel
theorem dX8_scroll_44 : decode cX8_scroll 44 = .ok (.invokevirtual 115, 3) := by decide +kernel
theorem dX8_scroll_47 : decode cX8_scroll 47 = .ok (.aload_n 0, 1) := by decide +kernel
theorem dX8_scroll_48 : decode cX8_scroll 48 = .ok (.getfield 7, 3) := by decide +kernel
theorem dX8_scroll_51 : decode cX8_scroll 51 = .ok (.iconst 0, 1) := by decide +kernel
theorem dX8_scroll_52 : decode cX8_scroll 52 = .ok (.dup2, 1) := by decide +kernel
theorem dX8_scroll_53 : decode cX8_scroll 53 = .ok (.iaload, 1) := by decide +kernel
theorem dX8_scroll_54 : decode cX8_scroll 54 = .ok (.iload_n 1, 1) := by decide +kernel
theorem dX8_scroll_55 : decode cX8_scroll 55 = .ok (.iadd, 1) := by decide +kernel
theorem dX8_scroll_56 : decode cX8_scroll 56 = .ok (.iastore, 1) := by decide +kernel
theorem dX8_scroll_57 : decode cX8_scroll 57 = .ok (.aload_n 0, 1) := by decide +kernel
theorem dX8_scroll_58 : decode cX8_scroll 58 = .ok (.getfield 7, 3) := by decide +kernel
theorem dX8_scroll_61 : decode cX8_scroll 61 = .ok (.iconst 1, 1) := by decide +kernel
theorem dX8_scroll_62 : decode cX8_scroll 62 = .ok (.dup2, 1) := by decide +kernel
theorem dX8_scroll_63 : decode cX8_scroll 63 = .ok (.iaload, 1) := by decide +kernel
theorem dX8_scroll_64 : decode cX8_scroll 64 = .ok (.iload_n 2, 1) := by decide +kernel
theorem dX8_scroll_65 : decode cX8_scroll 65 = .ok (.iadd, 1) := by decide +kernel
theorem dX8_scroll_66 : decode cX8_scroll 66 = .ok (.iastore, 1) := by decide +kernel
theorem dX8_scroll_67 : decode cX8_scroll 67 = .ok (.aload_n 0, 1) := by decide +kernel
theorem dX8_scroll_68 : decode cX8_scroll 68 = .ok (.invokevirtual 118, 3) := by decide +kernel
theorem dX8_scroll_71 : decode cX8_scroll 71 = .ok (.ireturn, 1) := by decide +kernel
theorem dX8_anchor_0 : decode cX8_anchor 0 = .ok (.iload_n 1, 1) := by decide +kernel
theorem dX8_anchor_1 : decode cX8_anchor 1 = .ok (.sipush (-1000), 3) := by decide +kernel
theorem dX8_anchor_4 : decode cX8_anchor 4 = .ok (.sipush 1000, 3) := by decide +kernel
theorem dX8_anchor_7 : decode cX8_anchor 7 = .ok (.invokestatic 32, 3) := by decide +kernel
theorem dX8_anchor_10 : decode cX8_anchor 10 = .ok (.ifCond .eq 39, 3) := by decide +kernel
theorem dX8_anchor_13 : decode cX8_anchor 13 = .ok (.iload_n 2, 1) := by decide +kernel
theorem dX8_anchor_14 : decode cX8_anchor 14 = .ok (.sipush (-1000), 3) := by decide +kernel
theorem dX8_anchor_17 : decode cX8_anchor 17 = .ok (.sipush 1000, 3) := by decide +kernel
theorem dX8_anchor_20 : decode cX8_anchor 20 = .ok (.invokestatic 32, 3) := by decide +kernel
theorem dX8_anchor_23 : decode cX8_anchor 23 = .ok (.ifCond .eq 26, 3) := by decide +kernel
theorem dX8_anchor_26 : decode cX8_anchor 26 = .ok (.iload_n 3, 1) := by decide +kernel
theorem dX8_anchor_27 : decode cX8_anchor 27 = .ok (.iconst 1, 1) := by decide +kernel
theorem dX8_anchor_28 : decode cX8_anchor 28 = .ok (.sipush 200, 3) := by decide +kernel
theorem dX8_anchor_31 : decode cX8_anchor 31 = .ok (.invokestatic 32, 3) := by decide +kernel
theorem dX8_anchor_34 : decode cX8_anchor 34 = .ok (.ifCond .eq 15, 3) := by decide +kernel
theorem dX8_anchor_37 : decode cX8_anchor 37 = .ok (.iload 4, 2) := by decide +kernel
theorem dX8_anchor_39 : decode cX8_anchor 39 = .ok (.iconst 1, 1) := by decide +kernel
theorem dX8_anchor_40 : decode cX8_anchor 40 = .ok (.sipush 200, 3) := by decide +kernel
theorem dX8_anchor_43 : decode cX8_anchor 43 = .ok (.invokestatic 32, 3) := by decide +kernel
theorem dX8_anchor_46 : decode cX8_anchor 46 = .ok (.ifCond .ne 7, 3) := by decide +kernel
theorem dX8_anchor_49 : decode cX8_anchor 49 = .ok (.sipush (-10001), 3) := by decide +kernel
theorem dX8_anchor_52 : decode cX8_anchor 52 = .ok (.ireturn, 1) := by decide +kernel
theorem dX8_anchor_53 : decode cX8_anchor 53 = .ok (.aload_n 0, 1) := by decide +kernel
theorem dX8_anchor_54 : decode cX8_anchor 54 = .ok (.getfield 7, 3) := by decide +kernel
theorem dX8_anchor_57 : decode cX8_anchor 57 = .ok (.bipush 9, 2) := by decide +kernel
theorem dX8_anchor_59 : decode cX8_anchor 59 = .ok (.iaload, 1) := by decide +kernel
theorem dX8_anchor_60 : decode cX8_anchor 60 = .ok (.istore 5, 2) := by decide +kernel
theorem dX8_anchor_62 : decode cX8_anchor 62 = .ok (.iload 5, 2) := by decide +kernel
theorem dX8_anchor_64 : decode cX8_anchor 64 = .ok (.bipush 10, 2) := by decide +kernel
theorem dX8_anchor_66 : decode cX8_anchor 66 = .ok (.if_icmp .ne 7, 3) := by decide +kernel
theorem dX8_anchor_69 : decode cX8_anchor 69 = .ok (.sipush (-10003), 3) := by decide +kernel
theorem dX8_anchor_72 : decode cX8_anchor 72 = .ok (.ireturn, 1) := by decide +kernel
theorem dX8_anchor_73 : decode cX8_anchor 73 = .ok (.aload_n 0, 1) := by decide +kernel
theorem dX8_anchor_74 : decode cX8_anchor 74 = .ok (.invokevirtual 115, 3) := by decide +kernel
theorem dX8_anchor_77 : decode cX8_anchor 77 = .ok (.aload_n 0, 1) := by decide +kernel
theorem dX8_anchor_78 : decode cX8_anchor 78 = .ok (.getfield 7, 3) := by decide +kernel
theorem dX8_anchor_81 : decode cX8_anchor 81 = .ok (.bipush 10, 2) := by decide +kernel
theorem dX8_anchor_83 : decode cX8_anchor 83 = .ok (.iload 5, 2) := by decide +kernel
theorem dX8_anchor_85 : decode cX8_anchor 85 = .ok (.iadd, 1) := by decide +kernel
theorem dX8_anchor_86 : decode cX8_anchor 86 = .ok (.iload_n 1, 1) := by decide +kernel
theorem dX8_anchor_87 : decode cX8_anchor 87 = .ok (.iastore, 1) := by decide +kernel
theorem dX8_anchor_88 : decode cX8_anchor 88 = .ok (.aload_n 0, 1) := by decide +kernel
theorem dX8_anchor_89 : decode cX8_anchor 89 = .ok (.getfield 7, 3) := by decide +kernel
theorem dX8_anchor_92 : decode cX8_anchor 92 = .ok (.bipush 20, 2) := by decide +kernel
theorem dX8_anchor_94 : decode cX8_anchor 94 = .ok (.iload 5, 2) := by decide +kernel
theorem dX8_anchor_96 : decode cX8_anchor 96 = .ok (.iadd, 1) := by decide +kernel
theorem dX8_anchor_97 : decode cX8_anchor 97 = .ok (.iload_n 2, 1) := by decide +kernel
theorem dX8_anchor_98 : decode cX8_anchor 98 = .ok (.iastore, 1) := by decide +kernel
theorem dX8_anchor_99 : decode cX8_anchor 99 = .ok (.aload_n 0, 1) := by decide +kernel
theorem dX8_anchor_100 : decode cX8_anchor 100 = .ok (.getfield 7, 3) := by decide +kernel
theorem dX8_anchor_103 : decode cX8_anchor 103 = .ok (.bipush 30, 2) := by decide +kernel
theorem dX8_anchor_105 : decode cX8_anchor 105 = .ok (.iload 5, 2) := by decide +kernel
theorem dX8_anchor_107 : decode cX8_anchor 107 = .ok (.iadd, 1) := by decide +kernel
theorem dX8_anchor_108 : decode cX8_anchor 108 = .ok (.iload_n 3, 1) := by decide +kernel
theorem dX8_anchor_109 : decode cX8_anchor 109 = .ok (.iastore, 1) := by decide +kernel
theorem dX8_anchor_110 : decode cX8_anchor 110 = .ok (.aload_n 0, 1) := by decide +kernel
theorem dX8_anchor_111 : decode cX8_anchor 111 = .ok (.getfield 7, 3) := by decide +kernel
theorem dX8_anchor_114 : decode cX8_anchor 114 = .ok (.bipush 40, 2) := by decide +kernel
theorem dX8_anchor_116 : decode cX8_anchor 116 = .ok (.iload 5, 2) := by decide +kernel
theorem dX8_anchor_118 : decode cX8_anchor 118 = .ok (.iadd, 1) := by decide +kernel
theorem dX8_anchor_119 : decode cX8_anchor 119 = .ok (.iload 4, 2) := by decide +kernel
theorem dX8_anchor_121 : decode cX8_anchor 121 = .ok (.iastore, 1) := by decide +kernel
theorem dX8_anchor_122 : decode cX8_anchor 122 = .ok (.aload_n 0, 1) := by decide +kernel
theorem dX8_anchor_123 : decode cX8_anchor 123 = .ok (.getfield 7, 3) := by decide +kernel
theorem dX8_anchor_126 : decode cX8_anchor 126 = .ok (.bipush 9, 2) := by decide +kernel
theorem dX8_anchor_128 : decode cX8_anchor 128 = .ok (.dup2, 1) := by decide +kernel
theorem dX8_anchor_129 : decode cX8_anchor 129 = .ok (.iaload, 1) := by decide +kernel
theorem dX8_anchor_130 : decode cX8_anchor 130 = .ok (.iconst 1, 1) := by decide +kernel
theorem dX8_anchor_131 : decode cX8_anchor 131 = .ok (.iadd, 1) := by decide +kernel
theorem dX8_anchor_132 : decode cX8_anchor 132 = .ok (.iastore, 1) := by decide +kernel
theorem dX8_anchor_133 : decode cX8_anchor 133 = .ok (.iload 5, 2) := by decide +kernel
theorem dX8_anchor_135 : decode cX8_anchor 135 = .ok (.ireturn, 1) := by decide +kernel
theorem dX8_moveAnchor_0 : decode cX8_moveAnchor 0 = .ok (.aload_n 0, 1) := by decide +kernel
theorem dX8_moveAnchor_1 : decode cX8_moveAnchor 1 = .ok (.iload_n 1, 1) := by decide +kernel
theorem dX8_moveAnchor_2 : decode cX8_moveAnchor 2 = .ok (.invokevirtual 125, 3) := by decide +kernel
theorem dX8_moveAnchor_5 : decode cX8_moveAnchor 5 = .ok (.ifCond .eq 29, 3) := by decide +kernel
theorem dX8_moveAnchor_8 : decode cX8_moveAnchor 8 = .ok (.iload_n 2, 1) := by decide +kernel
theorem dX8_moveAnchor_9 : decode cX8_moveAnchor 9 = .ok (.sipush (-1000), 3) := by decide +kernel
theorem dX8_moveAnchor_12 : decode cX8_moveAnchor 12 = .ok (.sipush 1000, 3) := by decide +kernel
theorem dX8_moveAnchor_15 : decode cX8_moveAnchor 15 = .ok (.invokestatic 32, 3) := by decide +kernel
theorem dX8_moveAnchor_18 : decode cX8_moveAnchor 18 = .ok (.ifCond .eq 16, 3) := by decide +kernel
theorem dX8_moveAnchor_21 : decode cX8_moveAnchor 21 = .ok (.iload_n 3, 1) := by decide +kernel
theorem dX8_moveAnchor_22 : decode cX8_moveAnchor 22 = .ok (.sipush (-1000), 3) := by decide +kernel
theorem dX8_moveAnchor_25 : decode cX8_moveAnchor 25 = .ok (.sipush 1000, 3) := by decide +kernel
theorem dX8_moveAnchor_28 : decode cX8_moveAnchor 28 = .ok (.invokestatic 32, 3) := by decide +kernel
theorem dX8_moveAnchor_31 : decode cX8_moveAnchor 31 = .ok (.ifCond .ne 7, 3) := by decide +kernel
theorem dX8_moveAnchor_34 : decode cX8_moveAnchor 34 = .ok (.sipush (-10001), 3) := by decide +kernel
theorem dX8_moveAnchor_37 : decode cX8_moveAnchor 37 = .ok (.ireturn, 1) := by decide +kernel
theorem dX8_moveAnchor_38 : decode cX8_moveAnchor 38 = .ok (.aload_n 0, 1) := by decide +kernel
theorem dX8_moveAnchor_39 : decode cX8_moveAnchor 39 = .ok (.invokevirtual 115, 3) := by decide +kernel
theorem dX8_moveAnchor_42 : decode cX8_moveAnchor 42 = .ok (.aload_n 0, 1) := by decide +kernel
theorem dX8_moveAnchor_43 : decode cX8_moveAnchor 43 = .ok (.getfield 7, 3) := by decide +kernel
theorem dX8_moveAnchor_46 : decode cX8_moveAnchor 46 = .ok (.bipush 10, 2) := by decide +kernel
theorem dX8_moveAnchor_48 : decode cX8_moveAnchor 48 = .ok (.iload_n 1, 1) := by decide +kernel
theorem dX8_moveAnchor_49 : decode cX8_moveAnchor 49 = .ok (.iadd, 1) := by decide +kernel
theorem dX8_moveAnchor_50 : decode cX8_moveAnchor 50 = .ok (.iload_n 2, 1) := by decide +kernel
theorem dX8_moveAnchor_51 : decode cX8_moveAnchor 51 = .ok (.iastore, 1) := by decide +kernel
theorem dX8_moveAnchor_52 : decode cX8_moveAnchor 52 = .ok (.aload_n 0, 1) := by decide +kernel
theorem dX8_moveAnchor_53 : decode cX8_moveAnchor 53 = .ok (.getfield 7, 3) := by decide +kernel
theorem dX8_moveAnchor_56 : decode cX8_moveAnchor 56 = .ok (.bipush 20, 2) := by decide +kernel
theorem dX8_moveAnchor_58 : decode cX8_moveAnchor 58 = .ok (.iload_n 1, 1) := by decide +kernel
theorem dX8_moveAnchor_59 : decode cX8_moveAnchor 59 = .ok (.iadd, 1) := by decide +kernel
theorem dX8_moveAnchor_60 : decode cX8_moveAnchor 60 = .ok (.iload_n 3, 1) := by decide +kernel
theorem dX8_moveAnchor_61 : decode cX8_moveAnchor 61 = .ok (.iastore, 1) := by decide +kernel
theorem dX8_moveAnchor_62 : decode cX8_moveAnchor 62 = .ok (.aload_n 0, 1) := by decide +kernel
theorem dX8_moveAnchor_63 : decode cX8_moveAnchor 63 = .ok (.invokevirtual 118, 3) := by decide +kernel
theorem dX8_moveAnchor_66 : decode cX8_moveAnchor 66 = .ok (.ireturn, 1) := by decide +kernel
theorem dX8_anchorOf_0 : decode cX8_anchorOf 0 = .ok (.aload_n 0, 1) := by decide +kernel
theorem dX8_anchorOf_1 : decode cX8_anchorOf 1 = .ok (.iload_n 1, 1) := by decide +kernel
theorem dX8_anchorOf_2 : decode cX8_anchorOf 2 = .ok (.invokevirtual 125, 3) := by decide +kernel
theorem dX8_anchorOf_5 : decode cX8_anchorOf 5 = .ok (.ifCond .eq 13, 3) := by decide +kernel
theorem dX8_anchorOf_8 : decode cX8_anchorOf 8 = .ok (.iload_n 2, 1) := by decide +kernel
theorem dX8_anchorOf_9 : decode cX8_anchorOf 9 = .ok (.iconst 0, 1) := by decide +kernel
theorem dX8_anchorOf_10 : decode cX8_anchorOf 10 = .ok (.bipush 6, 2) := by decide +kernel
theorem dX8_anchorOf_12 : decode cX8_anchorOf 12 = .ok (.invokestatic 32, 3) := by decide +kernel
theorem dX8_anchorOf_15 : decode cX8_anchorOf 15 = .ok (.ifCond .ne 7, 3) := by decide +kernel
theorem dX8_anchorOf_18 : decode cX8_anchorOf 18 = .ok (.sipush (-10001), 3) := by decide +kernel
theorem dX8_anchorOf_21 : decode cX8_anchorOf 21 = .ok (.ireturn, 1) := by decide +kernel
theorem dX8_anchorOf_22 : decode cX8_anchorOf 22 = .ok (.iload_n 2, 1) := by decide +kernel
theorem dX8_anchorOf_23 : decode cX8_anchorOf 23 = .ok (.iconst 4, 1) := by decide +kernel
theorem dX8_anchorOf_24 : decode cX8_anchorOf 24 = .ok (.if_icmp .ge 10, 3) := by decide +kernel
theorem dX8_anchorOf_27 : decode cX8_anchorOf 27 = .ok (.aload_n 0, 1) := by decide +kernel
theorem dX8_anchorOf_28 : decode cX8_anchorOf 28 = .ok (.iload_n 1, 1) := by decide +kernel
theorem dX8_anchorOf_29 : decode cX8_anchorOf 29 = .ok (.iload_n 2, 1) := by decide +kernel
theorem dX8_anchorOf_30 : decode cX8_anchorOf 30 = .ok (.invokevirtual 40, 3) := by decide +kernel
theorem dX8_anchorOf_33 : decode cX8_anchorOf 33 = .ok (.ireturn, 1) := by decide +kernel
theorem dX8_anchorOf_34 : decode cX8_anchorOf 34 = .ok (.iload_n 2, 1) := by decide +kernel
theorem dX8_anchorOf_35 : decode cX8_anchorOf 35 = .ok (.iconst 4, 1) := by decide +kernel
theorem dX8_anchorOf_36 : decode cX8_anchorOf 36 = .ok (.if_icmp .ne 17, 3) := by decide +kernel
theorem dX8_anchorOf_39 : decode cX8_anchorOf 39 = .ok (.aload_n 0, 1) := by decide +kernel
theorem dX8_anchorOf_40 : decode cX8_anchorOf 40 = .ok (.iload_n 1, 1) := by decide +kernel
theorem dX8_anchorOf_41 : decode cX8_anchorOf 41 = .ok (.invokevirtual 106, 3) := by decide +kernel
theorem dX8_anchorOf_44 : decode cX8_anchorOf 44 = .ok (.ifCond .eq 7, 3) := by decide +kernel
theorem dX8_anchorOf_47 : decode cX8_anchorOf 47 = .ok (.iconst 1, 1) := by decide +kernel
theorem dX8_anchorOf_48 : decode cX8_anchorOf 48 = .ok (.goto 4, 3) := by decide +kernel
theorem dX8_anchorOf_51 : decode cX8_anchorOf 51 = .ok (.iconst 0, 1) := by decide +kernel
theorem dX8_anchorOf_52 : decode cX8_anchorOf 52 = .ok (.ireturn, 1) := by decide +kernel
theorem dX8_anchorOf_53 : decode cX8_anchorOf 53 = .ok (.aload_n 0, 1) := by decide +kernel
theorem dX8_anchorOf_54 : decode cX8_anchorOf 54 = .ok (.invokevirtual 112, 3) := by decide +kernel
theorem dX8_anchorOf_57 : decode cX8_anchorOf 57 = .ok (.iconst 0, 1) := by decide +kernel
theorem dX8_anchorOf_58 : decode cX8_anchorOf 58 = .ok (.istore_n 3, 1) := by decide +kernel
theorem dX8_anchorOf_59 : decode cX8_anchorOf 59 = .ok (.iconst 0, 1) := by decide +kernel
theorem dX8_anchorOf_60 : decode cX8_anchorOf 60 = .ok (.istore 4, 2) := by decide +kernel
theorem dX8_anchorOf_62 : decode cX8_anchorOf 62 = .ok (.iload 4, 2) := by decide +kernel
theorem dX8_anchorOf_64 : decode cX8_anchorOf 64 = .ok (.aload_n 0, 1) := by decide +kernel
theorem dX8_anchorOf_65 : decode cX8_anchorOf 65 = .ok (.getfield 7, 3) := by decide +kernel
theorem dX8_anchorOf_68 : decode cX8_anchorOf 68 = .ok (.bipush 50, 2) := by decide +kernel
theorem dX8_anchorOf_70 : decode cX8_anchorOf 70 = .ok (.iaload, 1) := by decide +kernel
theorem dX8_anchorOf_71 : decode cX8_anchorOf 71 = .ok (.if_icmp .ge 44, 3) := by decide +kernel
theorem dX8_anchorOf_74 : decode cX8_anchorOf 74 = .ok (.iload_n 3, 1) := by decide +kernel
theorem dX8_anchorOf_75 : decode cX8_anchorOf 75 = .ok (.aload_n 0, 1) := by decide +kernel
theorem dX8_anchorOf_76 : decode cX8_anchorOf 76 = .ok (.iload 4, 2) := by decide +kernel
theorem dX8_anchorOf_78 : decode cX8_anchorOf 78 = .ok (.iconst 0, 1) := by decide +kernel
theorem dX8_anchorOf_79 : decode cX8_anchorOf 79 = .ok (.invokevirtual 52, 3) := by decide +kernel
theorem dX8_anchorOf_82 : decode cX8_anchorOf 82 = .ok (.iload_n 1, 1) := by decide +kernel
theorem dX8_anchorOf_83 : decode cX8_anchorOf 83 = .ok (.if_icmp .ne 23, 3) := by decide +kernel
theorem dX8_anchorOf_86 : decode cX8_anchorOf 86 = .ok (.iload_n 2, 1) := by decide +kernel
theorem dX8_anchorOf_87 : decode cX8_anchorOf 87 = .ok (.iconst 5, 1) := by decide +kernel
theorem dX8_anchorOf_88 : decode cX8_anchorOf 88 = .ok (.if_icmp .eq 14, 3) := by decide +kernel
theorem dX8_anchorOf_91 : decode cX8_anchorOf 91 = .ok (.aload_n 0, 1) := by decide +kernel
theorem dX8_anchorOf_92 : decode cX8_anchorOf 92 = .ok (.getfield 26, 3) := by decide +kernel
theorem dX8_anchorOf_95 : decode cX8_anchorOf 95 = .ok (.iload 4, 2) := by decide +kernel
theorem dX8_anchorOf_97 : decode cX8_anchorOf 97 = .ok (.iaload, 1) := by decide +kernel
theorem dX8_anchorOf_98 : decode cX8_anchorOf 98 = .ok (.iconst (-1), 1) := by decide +kernel
theorem dX8_anchorOf_99 : decode cX8_anchorOf 99 = .ok (.if_icmp .eq 7, 3) := by decide +kernel
theorem dX8_anchorOf_102 : decode cX8_anchorOf 102 = .ok (.iconst 1, 1) := by decide +kernel
theorem dX8_anchorOf_103 : decode cX8_anchorOf 103 = .ok (.goto 4, 3) := by decide +kernel
theorem dX8_anchorOf_106 : decode cX8_anchorOf 106 = .ok (.iconst 0, 1) := by decide +kernel
theorem dX8_anchorOf_107 : decode cX8_anchorOf 107 = .ok (.iadd, 1) := by decide +kernel
theorem dX8_anchorOf_108 : decode cX8_anchorOf 108 = .ok (.istore_n 3, 1) := by decide +kernel
theorem dX8_anchorOf_109 : decode cX8_anchorOf 109 = .ok (.iinc 4 1, 3) := by decide +kernel
theorem dX8_anchorOf_112 : decode cX8_anchorOf 112 = .ok (.goto (-50), 3) := by decide +kernel
theorem dX8_anchorOf_115 : decode cX8_anchorOf 115 = .ok (.iload_n 3, 1) := by decide +kernel
theorem dX8_anchorOf_116 : decode cX8_anchorOf 116 = .ok (.ireturn, 1) := by decide +kernel
theorem dX8_isSetting_0 : decode cX8_isSetting 0 = .ok (.iload_n 0, 1) := by decide +kernel
theorem dX8_isSetting_1 : decode cX8_isSetting 1 = .ok (.tableswitch 66 0 4 #[35, 43, 51, 59, 59], 35) := by decide +kernel
theorem dX8_isSetting_36 : decode cX8_isSetting 36 = .ok (.iload_n 1, 1) := by decide +kernel
theorem dX8_isSetting_37 : decode cX8_isSetting 37 = .ok (.iconst 0, 1) := by decide +kernel
theorem dX8_isSetting_38 : decode cX8_isSetting 38 = .ok (.bipush 30, 2) := by decide +kernel
theorem dX8_isSetting_40 : decode cX8_isSetting 40 = .ok (.invokestatic 32, 3) := by decide +kernel
theorem dX8_isSetting_43 : decode cX8_isSetting 43 = .ok (.ireturn, 1) := by decide +kernel
theorem dX8_isSetting_44 : decode cX8_isSetting 44 = .ok (.iload_n 1, 1) := by decide +kernel
theorem dX8_isSetting_45 : decode cX8_isSetting 45 = .ok (.iconst 0, 1) := by decide +kernel
theorem dX8_isSetting_46 : decode cX8_isSetting 46 = .ok (.bipush 20, 2) := by decide +kernel
theorem dX8_isSetting_48 : decode cX8_isSetting 48 = .ok (.invokestatic 32, 3) := by decide +kernel
theorem dX8_isSetting_51 : decode cX8_isSetting 51 = .ok (.ireturn, 1) := by decide +kernel
theorem dX8_isSetting_52 : decode cX8_isSetting 52 = .ok (.iload_n 1, 1) := by decide +kernel
theorem dX8_isSetting_53 : decode cX8_isSetting 53 = .ok (.iconst 1, 1) := by decide +kernel
theorem dX8_isSetting_54 : decode cX8_isSetting 54 = .ok (.bipush 6, 2) := by decide +kernel
theorem dX8_isSetting_56 : decode cX8_isSetting 56 = .ok (.invokestatic 32, 3) := by decide +kernel
theorem dX8_isSetting_59 : decode cX8_isSetting 59 = .ok (.ireturn, 1) := by decide +kernel
theorem dX8_isSetting_60 : decode cX8_isSetting 60 = .ok (.iload_n 1, 1) := by decide +kernel
theorem dX8_isSetting_61 : decode cX8_isSetting 61 = .ok (.iconst 0, 1) := by decide +kernel
theorem dX8_isSetting_62 : decode cX8_isSetting 62 = .ok (.iconst 1, 1) := by decide +kernel
theorem dX8_isSetting_63 : decode cX8_isSetting 63 = .ok (.invokestatic 32, 3) := by decide +kernel
theorem dX8_isSetting_66 : decode cX8_isSetting 66 = .ok (.ireturn, 1) := by decide +kernel
theorem dX8_isSetting_67 : decode cX8_isSetting 67 = .ok (.iconst 0, 1) := by decide +kernel
theorem dX8_isSetting_68 : decode cX8_isSetting 68 = .ok (.ireturn, 1) := by decide +kernel
theorem dX8_set_0 : decode cX8_set 0 = .ok (.iload_n 1, 1) := by decide +kernel
theorem dX8_set_1 : decode cX8_set 1 = .ok (.iload_n 2, 1) := by decide +kernel
theorem dX8_set_2 : decode cX8_set 2 = .ok (.invokestatic 128, 3) := by decide +kernel
theorem dX8_set_5 : decode cX8_set 5 = .ok (.ifCond .ne 7, 3) := by decide +kernel
theorem dX8_set_8 : decode cX8_set 8 = .ok (.sipush (-10001), 3) := by decide +kernel
theorem dX8_set_11 : decode cX8_set 11 = .ok (.ireturn, 1) := by decide +kernel
theorem dX8_set_12 : decode cX8_set 12 = .ok (.aload_n 0, 1) := by decide +kernel
theorem dX8_set_13 : decode cX8_set 13 = .ok (.invokevirtual 115, 3) := by decide +kernel
theorem dX8_set_16 : decode cX8_set 16 = .ok (.aload_n 0, 1) := by decide +kernel
theorem dX8_set_17 : decode cX8_set 17 = .ok (.getfield 7, 3) := by decide +kernel
theorem dX8_set_20 : decode cX8_set 20 = .ok (.iconst 4, 1) := by decide +kernel
theorem dX8_set_21 : decode cX8_set 21 = .ok (.iload_n 1, 1) := by decide +kernel
theorem dX8_set_22 : decode cX8_set 22 = .ok (.iadd, 1) := by decide +kernel
theorem dX8_set_23 : decode cX8_set 23 = .ok (.iaload, 1) := by decide +kernel
theorem dX8_set_24 : decode cX8_set 24 = .ok (.istore_n 3, 1) := by decide +kernel
theorem dX8_set_25 : decode cX8_set 25 = .ok (.aload_n 0, 1) := by decide +kernel
theorem dX8_set_26 : decode cX8_set 26 = .ok (.getfield 7, 3) := by decide +kernel
theorem dX8_set_29 : decode cX8_set 29 = .ok (.iconst 4, 1) := by decide +kernel
theorem dX8_set_30 : decode cX8_set 30 = .ok (.iload_n 1, 1) := by decide +kernel
theorem dX8_set_31 : decode cX8_set 31 = .ok (.iadd, 1) := by decide +kernel
theorem dX8_set_32 : decode cX8_set 32 = .ok (.iload_n 2, 1) := by decide +kernel
theorem dX8_set_33 : decode cX8_set 33 = .ok (.iastore, 1) := by decide +kernel
theorem dX8_set_34 : decode cX8_set 34 = .ok (.iload_n 3, 1) := by decide +kernel
theorem dX8_set_35 : decode cX8_set 35 = .ok (.ireturn, 1) := by decide +kernel
theorem dX8_covered_0 : decode cX8_covered 0 = .ok (.iconst 0, 1) := by decide +kernel
theorem dX8_covered_1 : decode cX8_covered 1 = .ok (.istore_n 2, 1) := by decide +kernel
theorem dX8_covered_2 : decode cX8_covered 2 = .ok (.iconst 0, 1) := by decide +kernel
theorem dX8_covered_3 : decode cX8_covered 3 = .ok (.istore_n 3, 1) := by decide +kernel
theorem dX8_covered_4 : decode cX8_covered 4 = .ok (.iload_n 3, 1) := by decide +kernel
theorem dX8_covered_5 : decode cX8_covered 5 = .ok (.aload_n 0, 1) := by decide +kernel
theorem dX8_covered_6 : decode cX8_covered 6 = .ok (.getfield 7, 3) := by decide +kernel
theorem dX8_covered_9 : decode cX8_covered 9 = .ok (.bipush 50, 2) := by decide +kernel
theorem dX8_covered_11 : decode cX8_covered 11 = .ok (.iaload, 1) := by decide +kernel
theorem dX8_covered_12 : decode cX8_covered 12 = .ok (.if_icmp .ge 47, 3) := by decide +kernel
theorem dX8_covered_15 : decode cX8_covered 15 = .ok (.iload_n 2, 1) := by decide +kernel
theorem dX8_covered_16 : decode cX8_covered 16 = .ok (.aload_n 0, 1) := by decide +kernel
theorem dX8_covered_17 : decode cX8_covered 17 = .ok (.getfield 26, 3) := by decide +kernel
theorem dX8_covered_20 : decode cX8_covered 20 = .ok (.iload_n 3, 1) := by decide +kernel
theorem dX8_covered_21 : decode cX8_covered 21 = .ok (.iaload, 1) := by decide +kernel
theorem dX8_covered_22 : decode cX8_covered 22 = .ok (.iconst (-1), 1) := by decide +kernel
theorem dX8_covered_23 : decode cX8_covered 23 = .ok (.if_icmp .ne 7, 3) := by decide +kernel
theorem dX8_covered_26 : decode cX8_covered 26 = .ok (.iconst 0, 1) := by decide +kernel
theorem dX8_covered_27 : decode cX8_covered 27 = .ok (.goto 24, 3) := by decide +kernel
theorem dX8_covered_30 : decode cX8_covered 30 = .ok (.iload_n 1, 1) := by decide +kernel
theorem dX8_covered_31 : decode cX8_covered 31 = .ok (.ifCond .eq 7, 3) := by decide +kernel
theorem dX8_covered_34 : decode cX8_covered 34 = .ok (.iconst 1, 1) := by decide +kernel
theorem dX8_covered_35 : decode cX8_covered 35 = .ok (.goto 16, 3) := by decide +kernel
theorem dX8_covered_38 : decode cX8_covered 38 = .ok (.aload_n 0, 1) := by decide +kernel
theorem dX8_covered_39 : decode cX8_covered 39 = .ok (.iload_n 3, 1) := by decide +kernel
theorem dX8_covered_40 : decode cX8_covered 40 = .ok (.iconst 1, 1) := by decide +kernel
theorem dX8_covered_41 : decode cX8_covered 41 = .ok (.invokevirtual 52, 3) := by decide +kernel
theorem dX8_covered_44 : decode cX8_covered 44 = .ok (.aload_n 0, 1) := by decide +kernel
theorem dX8_covered_45 : decode cX8_covered 45 = .ok (.iload_n 3, 1) := by decide +kernel
theorem dX8_covered_46 : decode cX8_covered 46 = .ok (.iconst 2, 1) := by decide +kernel
theorem dX8_covered_47 : decode cX8_covered 47 = .ok (.invokevirtual 52, 3) := by decide +kernel
theorem dX8_covered_50 : decode cX8_covered 50 = .ok (.imul, 1) := by decide +kernel
theorem dX8_covered_51 : decode cX8_covered 51 = .ok (.iadd, 1) := by decide +kernel
theorem dX8_covered_52 : decode cX8_covered 52 = .ok (.istore_n 2, 1) := by decide +kernel
theorem dX8_covered_53 : decode cX8_covered 53 = .ok (.iinc 3 1, 3) := by decide +kernel
theorem dX8_covered_56 : decode cX8_covered 56 = .ok (.goto (-52), 3) := by decide +kernel
theorem dX8_covered_59 : decode cX8_covered 59 = .ok (.iload_n 2, 1) := by decide +kernel
theorem dX8_covered_60 : decode cX8_covered 60 = .ok (.ireturn, 1) := by decide +kernel
theorem dX8_count_0 : decode cX8_count 0 = .ok (.aload_n 0, 1) := by decide +kernel
theorem dX8_count_1 : decode cX8_count 1 = .ok (.invokevirtual 112, 3) := by decide +kernel
theorem dX8_count_4 : decode cX8_count 4 = .ok (.iconst 0, 1) := by decide +kernel
theorem dX8_count_5 : decode cX8_count 5 = .ok (.istore_n 2, 1) := by decide +kernel
theorem dX8_count_6 : decode cX8_count 6 = .ok (.iconst 0, 1) := by decide +kernel
theorem dX8_count_7 : decode cX8_count 7 = .ok (.istore_n 3, 1) := by decide +kernel
theorem dX8_count_8 : decode cX8_count 8 = .ok (.iload_n 3, 1) := by decide +kernel
theorem dX8_count_9 : decode cX8_count 9 = .ok (.aload_n 0, 1) := by decide +kernel
theorem dX8_count_10 : decode cX8_count 10 = .ok (.getfield 7, 3) := by decide +kernel
theorem dX8_count_13 : decode cX8_count 13 = .ok (.bipush 50, 2) := by decide +kernel
theorem dX8_count_15 : decode cX8_count 15 = .ok (.iaload, 1) := by decide +kernel
theorem dX8_count_16 : decode cX8_count 16 = .ok (.if_icmp .ge 31, 3) := by decide +kernel
theorem dX8_count_19 : decode cX8_count 19 = .ok (.iload_n 2, 1) := by decide +kernel
theorem dX8_count_20 : decode cX8_count 20 = .ok (.aload_n 0, 1) := by decide +kernel
theorem dX8_count_21 : decode cX8_count 21 = .ok (.getfield 7, 3) := by decide +kernel
theorem dX8_count_24 : decode cX8_count 24 = .ok (.sipush 160, 3) := by decide +kernel
theorem dX8_count_27 : decode cX8_count 27 = .ok (.iload_n 3, 1) := by decide +kernel
theorem dX8_count_28 : decode cX8_count 28 = .ok (.iadd, 1) := by decide +kernel
theorem dX8_count_29 : decode cX8_count 29 = .ok (.iaload, 1) := by decide +kernel
theorem dX8_count_30 : decode cX8_count 30 = .ok (.iconst (-1), 1) := by decide +kernel
theorem dX8_count_31 : decode cX8_count 31 = .ok (.if_icmp .ne 7, 3) := by decide +kernel
theorem dX8_count_34 : decode cX8_count 34 = .ok (.iconst 0, 1) := by decide +kernel
theorem dX8_count_35 : decode cX8_count 35 = .ok (.goto 4, 3) := by decide +kernel
theorem dX8_count_38 : decode cX8_count 38 = .ok (.iconst 1, 1) := by decide +kernel
theorem dX8_count_39 : decode cX8_count 39 = .ok (.iadd, 1) := by decide +kernel
theorem dX8_count_40 : decode cX8_count 40 = .ok (.istore_n 2, 1) := by decide +kernel
theorem dX8_count_41 : decode cX8_count 41 = .ok (.iinc 3 1, 3) := by decide +kernel
theorem dX8_count_44 : decode cX8_count 44 = .ok (.goto (-36), 3) := by decide +kernel
theorem dX8_count_47 : decode cX8_count 47 = .ok (.iload_n 1, 1) := by decide +kernel
theorem dX8_count_48 : decode cX8_count 48 = .ok (.tableswitch 163 0 17 #[88, 88, 88, 88, 95, 103, 111, 120, 125, 127, 132, 137, 137, 137, 137, 137, 147, 147], 88) := by decide +kernel
theorem dX8_count_136 : decode cX8_count 136 = .ok (.aload_n 0, 1) := by decide +kernel
theorem dX8_count_137 : decode cX8_count 137 = .ok (.getfield 7, 3) := by decide +kernel
theorem dX8_count_140 : decode cX8_count 140 = .ok (.iload_n 1, 1) := by decide +kernel
theorem dX8_count_141 : decode cX8_count 141 = .ok (.iaload, 1) := by decide +kernel
theorem dX8_count_142 : decode cX8_count 142 = .ok (.ireturn, 1) := by decide +kernel
theorem dX8_count_143 : decode cX8_count 143 = .ok (.aload_n 0, 1) := by decide +kernel
theorem dX8_count_144 : decode cX8_count 144 = .ok (.getfield 7, 3) := by decide +kernel
theorem dX8_count_147 : decode cX8_count 147 = .ok (.bipush 9, 2) := by decide +kernel
theorem dX8_count_149 : decode cX8_count 149 = .ok (.iaload, 1) := by decide +kernel
theorem dX8_count_150 : decode cX8_count 150 = .ok (.ireturn, 1) := by decide +kernel
theorem dX8_count_151 : decode cX8_count 151 = .ok (.aload_n 0, 1) := by decide +kernel
theorem dX8_count_152 : decode cX8_count 152 = .ok (.getfield 7, 3) := by decide +kernel
theorem dX8_count_155 : decode cX8_count 155 = .ok (.bipush 50, 2) := by decide +kernel
theorem dX8_count_157 : decode cX8_count 157 = .ok (.iaload, 1) := by decide +kernel
theorem dX8_count_158 : decode cX8_count 158 = .ok (.ireturn, 1) := by decide +kernel
theorem dX8_count_159 : decode cX8_count 159 = .ok (.aload_n 0, 1) := by decide +kernel
theorem dX8_count_160 : decode cX8_count 160 = .ok (.getfield 7, 3) := by decide +kernel
theorem dX8_count_163 : decode cX8_count 163 = .ok (.sipush 147, 3) := by decide +kernel
theorem dX8_count_166 : decode cX8_count 166 = .ok (.iaload, 1) := by decide +kernel
theorem dX8_count_167 : decode cX8_count 167 = .ok (.ireturn, 1) := by decide +kernel
theorem dX8_count_168 : decode cX8_count 168 = .ok (.aload_n 0, 1) := by decide +kernel
theorem dX8_count_169 : decode cX8_count 169 = .ok (.getfield 100, 3) := by decide +kernel
theorem dX8_count_172 : decode cX8_count 172 = .ok (.ireturn, 1) := by decide +kernel
theorem dX8_count_173 : decode cX8_count 173 = .ok (.iload_n 2, 1) := by decide +kernel
theorem dX8_count_174 : decode cX8_count 174 = .ok (.ireturn, 1) := by decide +kernel
theorem dX8_count_175 : decode cX8_count 175 = .ok (.aload_n 0, 1) := by decide +kernel
theorem dX8_count_176 : decode cX8_count 176 = .ok (.getfield 36, 3) := by decide +kernel
theorem dX8_count_179 : decode cX8_count 179 = .ok (.ireturn, 1) := by decide +kernel
theorem dX8_count_180 : decode cX8_count 180 = .ok (.aload_n 0, 1) := by decide +kernel
theorem dX8_count_181 : decode cX8_count 181 = .ok (.getfield 131, 3) := by decide +kernel
theorem dX8_count_184 : decode cX8_count 184 = .ok (.ireturn, 1) := by decide +kernel
theorem dX8_count_185 : decode cX8_count 185 = .ok (.aload_n 0, 1) := by decide +kernel
theorem dX8_count_186 : decode cX8_count 186 = .ok (.getfield 7, 3) := by decide +kernel
theorem dX8_count_189 : decode cX8_count 189 = .ok (.iload_n 1, 1) := by decide +kernel
theorem dX8_count_190 : decode cX8_count 190 = .ok (.bipush 7, 2) := by decide +kernel
theorem dX8_count_192 : decode cX8_count 192 = .ok (.isub, 1) := by decide +kernel
theorem dX8_count_193 : decode cX8_count 193 = .ok (.iaload, 1) := by decide +kernel
theorem dX8_count_194 : decode cX8_count 194 = .ok (.ireturn, 1) := by decide +kernel
theorem dX8_count_195 : decode cX8_count 195 = .ok (.aload_n 0, 1) := by decide +kernel
theorem dX8_count_196 : decode cX8_count 196 = .ok (.iload_n 1, 1) := by decide +kernel
theorem dX8_count_197 : decode cX8_count 197 = .ok (.bipush 17, 2) := by decide +kernel
theorem dX8_count_199 : decode cX8_count 199 = .ok (.if_icmp .ne 7, 3) := by decide +kernel
theorem dX8_count_202 : decode cX8_count 202 = .ok (.iconst 1, 1) := by decide +kernel
theorem dX8_count_203 : decode cX8_count 203 = .ok (.goto 4, 3) := by decide +kernel
theorem dX8_count_206 : decode cX8_count 206 = .ok (.iconst 0, 1) := by decide +kernel
theorem dX8_count_207 : decode cX8_count 207 = .ok (.invokevirtual 134, 3) := by decide +kernel
theorem dX8_count_210 : decode cX8_count 210 = .ok (.ireturn, 1) := by decide +kernel
theorem dX8_count_211 : decode cX8_count 211 = .ok (.sipush (-10001), 3) := by decide +kernel
theorem dX8_count_214 : decode cX8_count 214 = .ok (.ireturn, 1) := by decide +kernel
theorem dX8_hint_0 : decode cX8_hint 0 = .ok (.aload_n 0, 1) := by decide +kernel
theorem dX8_hint_1 : decode cX8_hint 1 = .ok (.iload_n 1, 1) := by decide +kernel
theorem dX8_hint_2 : decode cX8_hint 2 = .ok (.invokevirtual 125, 3) := by decide +kernel
theorem dX8_hint_5 : decode cX8_hint 5 = .ok (.ifCond .eq 45, 3) := by decide +kernel
theorem dX8_hint_8 : decode cX8_hint 8 = .ok (.iload_n 2, 1) := by decide +kernel
theorem dX8_hint_9 : decode cX8_hint 9 = .ok (.iconst 1, 1) := by decide +kernel
theorem dX8_hint_10 : decode cX8_hint 10 = .ok (.sipush 200, 3) := by decide +kernel
theorem dX8_hint_13 : decode cX8_hint 13 = .ok (.invokestatic 32, 3) := by decide +kernel
theorem dX8_hint_16 : decode cX8_hint 16 = .ok (.ifCond .eq 34, 3) := by decide +kernel
theorem dX8_hint_19 : decode cX8_hint 19 = .ok (.iload_n 3, 1) := by decide +kernel
theorem dX8_hint_20 : decode cX8_hint 20 = .ok (.iconst 1, 1) := by decide +kernel
theorem dX8_hint_21 : decode cX8_hint 21 = .ok (.sipush 200, 3) := by decide +kernel
theorem dX8_hint_24 : decode cX8_hint 24 = .ok (.invokestatic 32, 3) := by decide +kernel
theorem dX8_hint_27 : decode cX8_hint 27 = .ok (.ifCond .eq 23, 3) := by decide +kernel
theorem dX8_hint_30 : decode cX8_hint 30 = .ok (.iload 4, 2) := by decide +kernel
theorem dX8_hint_32 : decode cX8_hint 32 = .ok (.iconst 0, 1) := by decide +kernel
theorem dX8_hint_33 : decode cX8_hint 33 = .ok (.iconst 3, 1) := by decide +kernel
theorem dX8_hint_34 : decode cX8_hint 34 = .ok (.invokestatic 32, 3) := by decide +kernel
theorem dX8_hint_37 : decode cX8_hint 37 = .ok (.ifCond .eq 13, 3) := by decide +kernel
theorem dX8_hint_40 : decode cX8_hint 40 = .ok (.iload 5, 2) := by decide +kernel
theorem dX8_hint_42 : decode cX8_hint 42 = .ok (.iconst 0, 1) := by decide +kernel
theorem dX8_hint_43 : decode cX8_hint 43 = .ok (.iconst 2, 1) := by decide +kernel
theorem dX8_hint_44 : decode cX8_hint 44 = .ok (.invokestatic 32, 3) := by decide +kernel
theorem dX8_hint_47 : decode cX8_hint 47 = .ok (.ifCond .ne 7, 3) := by decide +kernel
theorem dX8_hint_50 : decode cX8_hint 50 = .ok (.sipush (-10001), 3) := by decide +kernel
theorem dX8_hint_53 : decode cX8_hint 53 = .ok (.ireturn, 1) := by decide +kernel
theorem dX8_hint_54 : decode cX8_hint 54 = .ok (.aload_n 0, 1) := by decide +kernel
theorem dX8_hint_55 : decode cX8_hint 55 = .ok (.getfield 7, 3) := by decide +kernel
theorem dX8_hint_58 : decode cX8_hint 58 = .ok (.bipush 50, 2) := by decide +kernel
theorem dX8_hint_60 : decode cX8_hint 60 = .ok (.iaload, 1) := by decide +kernel
theorem dX8_hint_61 : decode cX8_hint 61 = .ok (.istore 6, 2) := by decide +kernel
theorem dX8_hint_63 : decode cX8_hint 63 = .ok (.iload 6, 2) := by decide +kernel
theorem dX8_hint_65 : decode cX8_hint 65 = .ok (.bipush 12, 2) := by decide +kernel
theorem dX8_hint_67 : decode cX8_hint 67 = .ok (.if_icmp .ne 7, 3) := by decide +kernel
theorem dX8_hint_70 : decode cX8_hint 70 = .ok (.sipush (-10003), 3) := by decide +kernel
theorem dX8_hint_73 : decode cX8_hint 73 = .ok (.ireturn, 1) := by decide +kernel
theorem dX8_hint_74 : decode cX8_hint 74 = .ok (.aload_n 0, 1) := by decide +kernel
theorem dX8_hint_75 : decode cX8_hint 75 = .ok (.invokevirtual 115, 3) := by decide +kernel
theorem dX8_hint_78 : decode cX8_hint 78 = .ok (.aload_n 0, 1) := by decide +kernel
theorem dX8_hint_79 : decode cX8_hint 79 = .ok (.getfield 7, 3) := by decide +kernel
theorem dX8_hint_82 : decode cX8_hint 82 = .ok (.bipush 51, 2) := by decide +kernel
theorem dX8_hint_84 : decode cX8_hint 84 = .ok (.iload 6, 2) := by decide +kernel
theorem dX8_hint_86 : decode cX8_hint 86 = .ok (.iadd, 1) := by decide +kernel
theorem dX8_hint_87 : decode cX8_hint 87 = .ok (.iload_n 1, 1) := by decide +kernel
theorem dX8_hint_88 : decode cX8_hint 88 = .ok (.iastore, 1) := by decide +kernel
theorem dX8_hint_89 : decode cX8_hint 89 = .ok (.aload_n 0, 1) := by decide +kernel
theorem dX8_hint_90 : decode cX8_hint 90 = .ok (.getfield 7, 3) := by decide +kernel
theorem dX8_hint_93 : decode cX8_hint 93 = .ok (.bipush 63, 2) := by decide +kernel
theorem dX8_hint_95 : decode cX8_hint 95 = .ok (.iload 6, 2) := by decide +kernel
theorem dX8_hint_97 : decode cX8_hint 97 = .ok (.iadd, 1) := by decide +kernel
theorem dX8_hint_98 : decode cX8_hint 98 = .ok (.iload_n 2, 1) := by decide +kernel
theorem dX8_hint_99 : decode cX8_hint 99 = .ok (.iastore, 1) := by decide +kernel
theorem dX8_hint_100 : decode cX8_hint 100 = .ok (.aload_n 0, 1) := by decide +kernel
theorem dX8_hint_101 : decode cX8_hint 101 = .ok (.getfield 7, 3) := by decide +kernel
theorem dX8_hint_104 : decode cX8_hint 104 = .ok (.bipush 75, 2) := by decide +kernel
theorem dX8_hint_106 : decode cX8_hint 106 = .ok (.iload 6, 2) := by decide +kernel
theorem dX8_hint_108 : decode cX8_hint 108 = .ok (.iadd, 1) := by decide +kernel
theorem dX8_hint_109 : decode cX8_hint 109 = .ok (.iload_n 3, 1) := by decide +kernel
theorem dX8_hint_110 : decode cX8_hint 110 = .ok (.iastore, 1) := by decide +kernel
theorem dX8_hint_111 : decode cX8_hint 111 = .ok (.aload_n 0, 1) := by decide +kernel
theorem dX8_hint_112 : decode cX8_hint 112 = .ok (.getfield 7, 3) := by decide +kernel
theorem dX8_hint_115 : decode cX8_hint 115 = .ok (.bipush 87, 2) := by decide +kernel
theorem dX8_hint_117 : decode cX8_hint 117 = .ok (.iload 6, 2) := by decide +kernel
theorem dX8_hint_119 : decode cX8_hint 119 = .ok (.iadd, 1) := by decide +kernel
theorem dX8_hint_120 : decode cX8_hint 120 = .ok (.iload 4, 2) := by decide +kernel
theorem dX8_hint_122 : decode cX8_hint 122 = .ok (.iastore, 1) := by decide +kernel
theorem dX8_hint_123 : decode cX8_hint 123 = .ok (.aload_n 0, 1) := by decide +kernel
theorem dX8_hint_124 : decode cX8_hint 124 = .ok (.getfield 7, 3) := by decide +kernel
theorem dX8_hint_127 : decode cX8_hint 127 = .ok (.bipush 99, 2) := by decide +kernel
theorem dX8_hint_129 : decode cX8_hint 129 = .ok (.iload 6, 2) := by decide +kernel
theorem dX8_hint_131 : decode cX8_hint 131 = .ok (.iadd, 1) := by decide +kernel
theorem dX8_hint_132 : decode cX8_hint 132 = .ok (.iload 5, 2) := by decide +kernel
theorem dX8_hint_134 : decode cX8_hint 134 = .ok (.iastore, 1) := by decide +kernel
theorem dX8_hint_135 : decode cX8_hint 135 = .ok (.iconst 5, 1) := by decide +kernel
theorem dX8_hint_136 : decode cX8_hint 136 = .ok (.istore 7, 2) := by decide +kernel
theorem dX8_hint_138 : decode cX8_hint 138 = .ok (.iload 7, 2) := by decide +kernel
theorem dX8_hint_140 : decode cX8_hint 140 = .ok (.bipush 8, 2) := by decide +kernel
theorem dX8_hint_142 : decode cX8_hint 142 = .ok (.if_icmp .ge 26, 3) := by decide +kernel
theorem dX8_hint_145 : decode cX8_hint 145 = .ok (.aload_n 0, 1) := by decide +kernel
theorem dX8_hint_146 : decode cX8_hint 146 = .ok (.getfield 7, 3) := by decide +kernel
theorem dX8_hint_149 : decode cX8_hint 149 = .ok (.bipush 51, 2) := by decide +kernel
theorem dX8_hint_151 : decode cX8_hint 151 = .ok (.bipush 12, 2) := by decide +kernel
theorem dX8_hint_153 : decode cX8_hint 153 = .ok (.iload 7, 2) := by decide +kernel
theorem dX8_hint_155 : decode cX8_hint 155 = .ok (.imul, 1) := by decide +kernel
theorem dX8_hint_156 : decode cX8_hint 156 = .ok (.iadd, 1) := by decide +kernel
theorem dX8_hint_157 : decode cX8_hint 157 = .ok (.iload 6, 2) := by decide +kernel
theorem dX8_hint_159 : decode cX8_hint 159 = .ok (.iadd, 1) := by decide +kernel
theorem dX8_hint_160 : decode cX8_hint 160 = .ok (.iconst 0, 1) := by decide +kernel
theorem dX8_hint_161 : decode cX8_hint 161 = .ok (.iastore, 1) := by decide +kernel
theorem dX8_hint_162 : decode cX8_hint 162 = .ok (.iinc 7 1, 3) := by decide +kernel
theorem dX8_hint_165 : decode cX8_hint 165 = .ok (.goto (-27), 3) := by decide +kernel
theorem dX8_hint_168 : decode cX8_hint 168 = .ok (.aload_n 0, 1) := by decide +kernel
theorem dX8_hint_169 : decode cX8_hint 169 = .ok (.getfield 7, 3) := by decide +kernel
theorem dX8_hint_172 : decode cX8_hint 172 = .ok (.sipush 160, 3) := by decide +kernel
theorem dX8_hint_175 : decode cX8_hint 175 = .ok (.iload 6, 2) := by decide +kernel
theorem dX8_hint_177 : decode cX8_hint 177 = .ok (.iadd, 1) := by decide +kernel
theorem dX8_hint_178 : decode cX8_hint 178 = .ok (.iconst (-1), 1) := by decide +kernel
theorem dX8_hint_179 : decode cX8_hint 179 = .ok (.iastore, 1) := by decide +kernel
theorem dX8_hint_180 : decode cX8_hint 180 = .ok (.aload_n 0, 1) := by decide +kernel
theorem dX8_hint_181 : decode cX8_hint 181 = .ok (.getfield 7, 3) := by decide +kernel
theorem dX8_hint_184 : decode cX8_hint 184 = .ok (.bipush 50, 2) := by decide +kernel
theorem dX8_hint_186 : decode cX8_hint 186 = .ok (.dup2, 1) := by decide +kernel
theorem dX8_hint_187 : decode cX8_hint 187 = .ok (.iaload, 1) := by decide +kernel
theorem dX8_hint_188 : decode cX8_hint 188 = .ok (.iconst 1, 1) := by decide +kernel
theorem dX8_hint_189 : decode cX8_hint 189 = .ok (.iadd, 1) := by decide +kernel
theorem dX8_hint_190 : decode cX8_hint 190 = .ok (.iastore, 1) := by decide +kernel
theorem dX8_hint_191 : decode cX8_hint 191 = .ok (.iload 6, 2) := by decide +kernel
theorem dX8_hint_193 : decode cX8_hint 193 = .ok (.ireturn, 1) := by decide +kernel
theorem dX8_isOf_0 : decode cX8_isOf 0 = .ok (.iload_n 1, 1) := by decide +kernel
theorem dX8_isOf_1 : decode cX8_isOf 1 = .ok (.tableswitch 91 0 7 #[47, 53, 53, 62, 69, 69, 76, 83], 47) := by decide +kernel
theorem dX8_isOf_48 : decode cX8_isOf 48 = .ok (.aload_n 0, 1) := by decide +kernel
theorem dX8_isOf_49 : decode cX8_isOf 49 = .ok (.iload_n 2, 1) := by decide +kernel
theorem dX8_isOf_50 : decode cX8_isOf 50 = .ok (.invokevirtual 125, 3) := by decide +kernel
theorem dX8_isOf_53 : decode cX8_isOf 53 = .ok (.ireturn, 1) := by decide +kernel
theorem dX8_isOf_54 : decode cX8_isOf 54 = .ok (.iload_n 2, 1) := by decide +kernel
theorem dX8_isOf_55 : decode cX8_isOf 55 = .ok (.iconst 1, 1) := by decide +kernel
theorem dX8_isOf_56 : decode cX8_isOf 56 = .ok (.sipush 200, 3) := by decide +kernel
theorem dX8_isOf_59 : decode cX8_isOf 59 = .ok (.invokestatic 32, 3) := by decide +kernel
theorem dX8_isOf_62 : decode cX8_isOf 62 = .ok (.ireturn, 1) := by decide +kernel
theorem dX8_isOf_63 : decode cX8_isOf 63 = .ok (.iload_n 2, 1) := by decide +kernel
theorem dX8_isOf_64 : decode cX8_isOf 64 = .ok (.iconst 0, 1) := by decide +kernel
theorem dX8_isOf_65 : decode cX8_isOf 65 = .ok (.iconst 3, 1) := by decide +kernel
theorem dX8_isOf_66 : decode cX8_isOf 66 = .ok (.invokestatic 32, 3) := by decide +kernel
theorem dX8_isOf_69 : decode cX8_isOf 69 = .ok (.ireturn, 1) := by decide +kernel
theorem dX8_isOf_70 : decode cX8_isOf 70 = .ok (.iload_n 2, 1) := by decide +kernel
theorem dX8_isOf_71 : decode cX8_isOf 71 = .ok (.iconst 0, 1) := by decide +kernel
theorem dX8_isOf_72 : decode cX8_isOf 72 = .ok (.iconst 2, 1) := by decide +kernel
theorem dX8_isOf_73 : decode cX8_isOf 73 = .ok (.invokestatic 32, 3) := by decide +kernel
theorem dX8_isOf_76 : decode cX8_isOf 76 = .ok (.ireturn, 1) := by decide +kernel
theorem dX8_isOf_77 : decode cX8_isOf 77 = .ok (.iload_n 2, 1) := by decide +kernel
theorem dX8_isOf_78 : decode cX8_isOf 78 = .ok (.iconst 0, 1) := by decide +kernel
theorem dX8_isOf_79 : decode cX8_isOf 79 = .ok (.iconst 1, 1) := by decide +kernel
theorem dX8_isOf_80 : decode cX8_isOf 80 = .ok (.invokestatic 32, 3) := by decide +kernel
theorem dX8_isOf_83 : decode cX8_isOf 83 = .ok (.ireturn, 1) := by decide +kernel
theorem dX8_isOf_84 : decode cX8_isOf 84 = .ok (.iload_n 2, 1) := by decide +kernel
theorem dX8_isOf_85 : decode cX8_isOf 85 = .ok (.iconst 0, 1) := by decide +kernel
theorem dX8_isOf_86 : decode cX8_isOf 86 = .ok (.bipush 9, 2) := by decide +kernel
theorem dX8_isOf_88 : decode cX8_isOf 88 = .ok (.invokestatic 32, 3) := by decide +kernel
theorem dX8_isOf_91 : decode cX8_isOf 91 = .ok (.ireturn, 1) := by decide +kernel
theorem dX8_isOf_92 : decode cX8_isOf 92 = .ok (.iconst 0, 1) := by decide +kernel
theorem dX8_isOf_93 : decode cX8_isOf 93 = .ok (.ireturn, 1) := by decide +kernel
theorem dX8_alter_0 : decode cX8_alter 0 = .ok (.aload_n 0, 1) := by decide +kernel
theorem dX8_alter_1 : decode cX8_alter 1 = .ok (.iload_n 1, 1) := by decide +kernel
theorem dX8_alter_2 : decode cX8_alter 2 = .ok (.invokevirtual 138, 3) := by decide +kernel
theorem dX8_alter_5 : decode cX8_alter 5 = .ok (.ifCond .eq 12, 3) := by decide +kernel
theorem dX8_alter_8 : decode cX8_alter 8 = .ok (.aload_n 0, 1) := by decide +kernel
theorem dX8_alter_9 : decode cX8_alter 9 = .ok (.iload_n 2, 1) := by decide +kernel
theorem dX8_alter_10 : decode cX8_alter 10 = .ok (.iload_n 3, 1) := by decide +kernel
theorem dX8_alter_11 : decode cX8_alter 11 = .ok (.invokevirtual 141, 3) := by decide +kernel
theorem dX8_alter_14 : decode cX8_alter 14 = .ok (.ifCond .ne 7, 3) := by decide +kernel
theorem dX8_alter_17 : decode cX8_alter 17 = .ok (.sipush (-10001), 3) := by decide +kernel
theorem dX8_alter_20 : decode cX8_alter 20 = .ok (.ireturn, 1) := by decide +kernel
theorem dX8_alter_21 : decode cX8_alter 21 = .ok (.aload_n 0, 1) := by decide +kernel
theorem dX8_alter_22 : decode cX8_alter 22 = .ok (.invokevirtual 115, 3) := by decide +kernel
theorem dX8_alter_25 : decode cX8_alter 25 = .ok (.aload_n 0, 1) := by decide +kernel
theorem dX8_alter_26 : decode cX8_alter 26 = .ok (.iload_n 1, 1) := by decide +kernel
theorem dX8_alter_27 : decode cX8_alter 27 = .ok (.iload_n 2, 1) := by decide +kernel
theorem dX8_alter_28 : decode cX8_alter 28 = .ok (.invokevirtual 52, 3) := by decide +kernel
theorem dX8_alter_31 : decode cX8_alter 31 = .ok (.istore 4, 2) := by decide +kernel
theorem dX8_alter_33 : decode cX8_alter 33 = .ok (.aload_n 0, 1) := by decide +kernel
theorem dX8_alter_34 : decode cX8_alter 34 = .ok (.getfield 7, 3) := by decide +kernel
theorem dX8_alter_37 : decode cX8_alter 37 = .ok (.bipush 51, 2) := by decide +kernel
theorem dX8_alter_39 : decode cX8_alter 39 = .ok (.bipush 12, 2) := by decide +kernel
theorem dX8_alter_41 : decode cX8_alter 41 = .ok (.iload_n 2, 1) := by decide +kernel
theorem dX8_alter_42 : decode cX8_alter 42 = .ok (.imul, 1) := by decide +kernel
theorem dX8_alter_43 : decode cX8_alter 43 = .ok (.iadd, 1) := by decide +kernel
theorem dX8_alter_44 : decode cX8_alter 44 = .ok (.iload_n 1, 1) := by decide +kernel
theorem dX8_alter_45 : decode cX8_alter 45 = .ok (.iadd, 1) := by decide +kernel
theorem dX8_alter_46 : decode cX8_alter 46 = .ok (.iload_n 3, 1) := by decide +kernel
theorem dX8_alter_47 : decode cX8_alter 47 = .ok (.iastore, 1) := by decide +kernel
theorem dX8_alter_48 : decode cX8_alter 48 = .ok (.aload_n 0, 1) := by decide +kernel
theorem dX8_alter_49 : decode cX8_alter 49 = .ok (.getfield 7, 3) := by decide +kernel
theorem dX8_alter_52 : decode cX8_alter 52 = .ok (.sipush 160, 3) := by decide +kernel
theorem dX8_alter_55 : decode cX8_alter 55 = .ok (.iload_n 1, 1) := by decide +kernel
theorem dX8_alter_56 : decode cX8_alter 56 = .ok (.iadd, 1) := by decide +kernel
theorem dX8_alter_57 : decode cX8_alter 57 = .ok (.iload_n 2, 1) := by decide +kernel
theorem dX8_alter_58 : decode cX8_alter 58 = .ok (.ifCond .eq 8, 3) := by decide +kernel
theorem dX8_alter_61 : decode cX8_alter 61 = .ok (.iload_n 2, 1) := by decide +kernel
theorem dX8_alter_62 : decode cX8_alter 62 = .ok (.iconst 3, 1) := by decide +kernel
theorem dX8_alter_63 : decode cX8_alter 63 = .ok (.if_icmp .ne 7, 3) := by decide +kernel
theorem dX8_alter_66 : decode cX8_alter 66 = .ok (.iconst (-1), 1) := by decide +kernel
theorem dX8_alter_67 : decode cX8_alter 67 = .ok (.goto 13, 3) := by decide +kernel
theorem dX8_alter_70 : decode cX8_alter 70 = .ok (.aload_n 0, 1) := by decide +kernel
theorem dX8_alter_71 : decode cX8_alter 71 = .ok (.getfield 7, 3) := by decide +kernel
theorem dX8_alter_74 : decode cX8_alter 74 = .ok (.sipush 160, 3) := by decide +kernel
theorem dX8_alter_77 : decode cX8_alter 77 = .ok (.iload_n 1, 1) := by decide +kernel
theorem dX8_alter_78 : decode cX8_alter 78 = .ok (.iadd, 1) := by decide +kernel
theorem dX8_alter_79 : decode cX8_alter 79 = .ok (.iaload, 1) := by decide +kernel
theorem dX8_alter_80 : decode cX8_alter 80 = .ok (.iastore, 1) := by decide +kernel
theorem dX8_alter_81 : decode cX8_alter 81 = .ok (.iload 4, 2) := by decide +kernel
theorem dX8_alter_83 : decode cX8_alter 83 = .ok (.ireturn, 1) := by decide +kernel
theorem dX8_placeOf_0 : decode cX8_placeOf 0 = .ok (.iconst 0, 1) := by decide +kernel
theorem dX8_placeOf_1 : decode cX8_placeOf 1 = .ok (.istore_n 2, 1) := by decide +kernel
theorem dX8_placeOf_2 : decode cX8_placeOf 2 = .ok (.iload_n 2, 1) := by decide +kernel
theorem dX8_placeOf_3 : decode cX8_placeOf 3 = .ok (.aload_n 0, 1) := by decide +kernel
theorem dX8_placeOf_4 : decode cX8_placeOf 4 = .ok (.getfield 7, 3) := by decide +kernel
theorem dX8_placeOf_7 : decode cX8_placeOf 7 = .ok (.sipush 147, 3) := by decide +kernel
theorem dX8_placeOf_10 : decode cX8_placeOf 10 = .ok (.iaload, 1) := by decide +kernel
theorem dX8_placeOf_11 : decode cX8_placeOf 11 = .ok (.if_icmp .ge 25, 3) := by decide +kernel
theorem dX8_placeOf_14 : decode cX8_placeOf 14 = .ok (.aload_n 0, 1) := by decide +kernel
theorem dX8_placeOf_15 : decode cX8_placeOf 15 = .ok (.getfield 7, 3) := by decide +kernel
theorem dX8_placeOf_18 : decode cX8_placeOf 18 = .ok (.sipush 148, 3) := by decide +kernel
theorem dX8_placeOf_21 : decode cX8_placeOf 21 = .ok (.iload_n 2, 1) := by decide +kernel
theorem dX8_placeOf_22 : decode cX8_placeOf 22 = .ok (.iadd, 1) := by decide +kernel
theorem dX8_placeOf_23 : decode cX8_placeOf 23 = .ok (.iaload, 1) := by decide +kernel
theorem dX8_placeOf_24 : decode cX8_placeOf 24 = .ok (.iload_n 1, 1) := by decide +kernel
theorem dX8_placeOf_25 : decode cX8_placeOf 25 = .ok (.if_icmp .ne 5, 3) := by decide +kernel
theorem dX8_placeOf_28 : decode cX8_placeOf 28 = .ok (.iload_n 2, 1) := by decide +kernel
theorem dX8_placeOf_29 : decode cX8_placeOf 29 = .ok (.ireturn, 1) := by decide +kernel
theorem dX8_placeOf_30 : decode cX8_placeOf 30 = .ok (.iinc 2 1, 3) := by decide +kernel
theorem dX8_placeOf_33 : decode cX8_placeOf 33 = .ok (.goto (-31), 3) := by decide +kernel
theorem dX8_placeOf_36 : decode cX8_placeOf 36 = .ok (.iconst (-1), 1) := by decide +kernel
theorem dX8_placeOf_37 : decode cX8_placeOf 37 = .ok (.ireturn, 1) := by decide +kernel
theorem dX8_opens_0 : decode cX8_opens 0 = .ok (.aload_n 0, 1) := by decide +kernel
theorem dX8_opens_1 : decode cX8_opens 1 = .ok (.getfield 7, 3) := by decide +kernel
theorem dX8_opens_4 : decode cX8_opens 4 = .ok (.sipush 148, 3) := by decide +kernel
theorem dX8_opens_7 : decode cX8_opens 7 = .ok (.aload_n 0, 1) := by decide +kernel
theorem dX8_opens_8 : decode cX8_opens 8 = .ok (.getfield 7, 3) := by decide +kernel
theorem dX8_opens_11 : decode cX8_opens 11 = .ok (.sipush 147, 3) := by decide +kernel
theorem dX8_opens_14 : decode cX8_opens 14 = .ok (.iaload, 1) := by decide +kernel
theorem dX8_opens_15 : decode cX8_opens 15 = .ok (.iadd, 1) := by decide +kernel
theorem dX8_opens_16 : decode cX8_opens 16 = .ok (.iload_n 1, 1) := by decide +kernel
theorem dX8_opens_17 : decode cX8_opens 17 = .ok (.iastore, 1) := by decide +kernel
theorem dX8_opens_18 : decode cX8_opens 18 = .ok (.aload_n 0, 1) := by decide +kernel
theorem dX8_opens_19 : decode cX8_opens 19 = .ok (.getfield 7, 3) := by decide +kernel
theorem dX8_opens_22 : decode cX8_opens 22 = .ok (.sipush 147, 3) := by decide +kernel
theorem dX8_opens_25 : decode cX8_opens 25 = .ok (.dup2, 1) := by decide +kernel
theorem dX8_opens_26 : decode cX8_opens 26 = .ok (.iaload, 1) := by decide +kernel
theorem dX8_opens_27 : decode cX8_opens 27 = .ok (.iconst 1, 1) := by decide +kernel
theorem dX8_opens_28 : decode cX8_opens 28 = .ok (.iadd, 1) := by decide +kernel
theorem dX8_opens_29 : decode cX8_opens 29 = .ok (.iastore, 1) := by decide +kernel
theorem dX8_opens_30 : decode cX8_opens 30 = .ok (.return_, 1) := by decide +kernel
theorem dX8_closes_0 : decode cX8_closes 0 = .ok (.aload_n 0, 1) := by decide +kernel
theorem dX8_closes_1 : decode cX8_closes 1 = .ok (.iload_n 1, 1) := by decide +kernel
theorem dX8_closes_2 : decode cX8_closes 2 = .ok (.invokevirtual 144, 3) := by decide +kernel
theorem dX8_closes_5 : decode cX8_closes 5 = .ok (.istore_n 2, 1) := by decide +kernel
theorem dX8_closes_6 : decode cX8_closes 6 = .ok (.aload_n 0, 1) := by decide +kernel
theorem dX8_closes_7 : decode cX8_closes 7 = .ok (.getfield 7, 3) := by decide +kernel
theorem dX8_closes_10 : decode cX8_closes 10 = .ok (.sipush 147, 3) := by decide +kernel
theorem dX8_closes_13 : decode cX8_closes 13 = .ok (.dup2, 1) := by decide +kernel
theorem dX8_closes_14 : decode cX8_closes 14 = .ok (.iaload, 1) := by decide +kernel
theorem dX8_closes_15 : decode cX8_closes 15 = .ok (.iconst 1, 1) := by decide +kernel
theorem dX8_closes_16 : decode cX8_closes 16 = .ok (.isub, 1) := by decide +kernel
theorem dX8_closes_17 : decode cX8_closes 17 = .ok (.iastore, 1) := by decide +kernel
theorem dX8_closes_18 : decode cX8_closes 18 = .ok (.iload_n 2, 1) := by decide +kernel
theorem dX8_closes_19 : decode cX8_closes 19 = .ok (.istore_n 3, 1) := by decide +kernel
theorem dX8_closes_20 : decode cX8_closes 20 = .ok (.iload_n 3, 1) := by decide +kernel
theorem dX8_closes_21 : decode cX8_closes 21 = .ok (.aload_n 0, 1) := by decide +kernel
theorem dX8_closes_22 : decode cX8_closes 22 = .ok (.getfield 7, 3) := by decide +kernel
theorem dX8_closes_25 : decode cX8_closes 25 = .ok (.sipush 147, 3) := by decide +kernel
theorem dX8_closes_28 : decode cX8_closes 28 = .ok (.iaload, 1) := by decide +kernel
theorem dX8_closes_29 : decode cX8_closes 29 = .ok (.if_icmp .ge 31, 3) := by decide +kernel
theorem dX8_closes_32 : decode cX8_closes 32 = .ok (.aload_n 0, 1) := by decide +kernel
theorem dX8_closes_33 : decode cX8_closes 33 = .ok (.getfield 7, 3) := by decide +kernel
theorem dX8_closes_36 : decode cX8_closes 36 = .ok (.sipush 148, 3) := by decide +kernel
theorem dX8_closes_39 : decode cX8_closes 39 = .ok (.iload_n 3, 1) := by decide +kernel
theorem dX8_closes_40 : decode cX8_closes 40 = .ok (.iadd, 1) := by decide +kernel
theorem dX8_closes_41 : decode cX8_closes 41 = .ok (.aload_n 0, 1) := by decide +kernel
theorem dX8_closes_42 : decode cX8_closes 42 = .ok (.getfield 7, 3) := by decide +kernel
theorem dX8_closes_45 : decode cX8_closes 45 = .ok (.sipush 148, 3) := by decide +kernel
theorem dX8_closes_48 : decode cX8_closes 48 = .ok (.iload_n 3, 1) := by decide +kernel
theorem dX8_closes_49 : decode cX8_closes 49 = .ok (.iadd, 1) := by decide +kernel
theorem dX8_closes_50 : decode cX8_closes 50 = .ok (.iconst 1, 1) := by decide +kernel
theorem dX8_closes_51 : decode cX8_closes 51 = .ok (.iadd, 1) := by decide +kernel
theorem dX8_closes_52 : decode cX8_closes 52 = .ok (.iaload, 1) := by decide +kernel
theorem dX8_closes_53 : decode cX8_closes 53 = .ok (.iastore, 1) := by decide +kernel
theorem dX8_closes_54 : decode cX8_closes 54 = .ok (.iinc 3 1, 3) := by decide +kernel
theorem dX8_closes_57 : decode cX8_closes 57 = .ok (.goto (-37), 3) := by decide +kernel
theorem dX8_closes_60 : decode cX8_closes 60 = .ok (.aload_n 0, 1) := by decide +kernel
theorem dX8_closes_61 : decode cX8_closes 61 = .ok (.getfield 7, 3) := by decide +kernel
theorem dX8_closes_64 : decode cX8_closes 64 = .ok (.sipush 160, 3) := by decide +kernel
theorem dX8_closes_67 : decode cX8_closes 67 = .ok (.iload_n 1, 1) := by decide +kernel
theorem dX8_closes_68 : decode cX8_closes 68 = .ok (.iadd, 1) := by decide +kernel
theorem dX8_closes_69 : decode cX8_closes 69 = .ok (.iconst (-1), 1) := by decide +kernel
theorem dX8_closes_70 : decode cX8_closes 70 = .ok (.iastore, 1) := by decide +kernel
theorem dX8_closes_71 : decode cX8_closes 71 = .ok (.return_, 1) := by decide +kernel
theorem dX8_open_0 : decode cX8_open 0 = .ok (.aload_n 0, 1) := by decide +kernel
theorem dX8_open_1 : decode cX8_open 1 = .ok (.iload_n 1, 1) := by decide +kernel
theorem dX8_open_2 : decode cX8_open 2 = .ok (.invokevirtual 138, 3) := by decide +kernel
theorem dX8_open_5 : decode cX8_open 5 = .ok (.ifCond .ne 7, 3) := by decide +kernel
theorem dX8_open_8 : decode cX8_open 8 = .ok (.sipush (-10001), 3) := by decide +kernel
theorem dX8_open_11 : decode cX8_open 11 = .ok (.ireturn, 1) := by decide +kernel
theorem dX8_open_12 : decode cX8_open 12 = .ok (.aload_n 0, 1) := by decide +kernel
theorem dX8_open_13 : decode cX8_open 13 = .ok (.iload_n 1, 1) := by decide +kernel
theorem dX8_open_14 : decode cX8_open 14 = .ok (.invokevirtual 144, 3) := by decide +kernel
theorem dX8_open_17 : decode cX8_open 17 = .ok (.iconst (-1), 1) := by decide +kernel
theorem dX8_open_18 : decode cX8_open 18 = .ok (.if_icmp .eq 7, 3) := by decide +kernel
theorem dX8_open_21 : decode cX8_open 21 = .ok (.sipush (-10002), 3) := by decide +kernel
theorem dX8_open_24 : decode cX8_open 24 = .ok (.ireturn, 1) := by decide +kernel
theorem dX8_open_25 : decode cX8_open 25 = .ok (.aload_n 0, 1) := by decide +kernel
theorem dX8_open_26 : decode cX8_open 26 = .ok (.invokevirtual 115, 3) := by decide +kernel
theorem dX8_open_29 : decode cX8_open 29 = .ok (.aload_n 0, 1) := by decide +kernel
theorem dX8_open_30 : decode cX8_open 30 = .ok (.iload_n 1, 1) := by decide +kernel
theorem dX8_open_31 : decode cX8_open 31 = .ok (.invokevirtual 147, 3) := by decide +kernel
theorem dX8_open_34 : decode cX8_open 34 = .ok (.aload_n 0, 1) := by decide +kernel
theorem dX8_open_35 : decode cX8_open 35 = .ok (.invokevirtual 112, 3) := by decide +kernel
theorem dX8_open_38 : decode cX8_open 38 = .ok (.aload_n 0, 1) := by decide +kernel
theorem dX8_open_39 : decode cX8_open 39 = .ok (.getfield 23, 3) := by decide +kernel
theorem dX8_open_42 : decode cX8_open 42 = .ok (.iload_n 1, 1) := by decide +kernel
theorem dX8_open_43 : decode cX8_open 43 = .ok (.iaload, 1) := by decide +kernel
theorem dX8_open_44 : decode cX8_open 44 = .ok (.ireturn, 1) := by decide +kernel
theorem dX8_close_0 : decode cX8_close 0 = .ok (.aload_n 0, 1) := by decide +kernel
theorem dX8_close_1 : decode cX8_close 1 = .ok (.iload_n 1, 1) := by decide +kernel
theorem dX8_close_2 : decode cX8_close 2 = .ok (.invokevirtual 138, 3) := by decide +kernel
theorem dX8_close_5 : decode cX8_close 5 = .ok (.ifCond .ne 7, 3) := by decide +kernel
theorem dX8_close_8 : decode cX8_close 8 = .ok (.sipush (-10001), 3) := by decide +kernel
theorem dX8_close_11 : decode cX8_close 11 = .ok (.ireturn, 1) := by decide +kernel
theorem dX8_close_12 : decode cX8_close 12 = .ok (.aload_n 0, 1) := by decide +kernel
theorem dX8_close_13 : decode cX8_close 13 = .ok (.iload_n 1, 1) := by decide +kernel
theorem dX8_close_14 : decode cX8_close 14 = .ok (.invokevirtual 144, 3) := by decide +kernel
theorem dX8_close_17 : decode cX8_close 17 = .ok (.istore_n 2, 1) := by decide +kernel
theorem dX8_close_18 : decode cX8_close 18 = .ok (.iload_n 2, 1) := by decide +kernel
theorem dX8_close_19 : decode cX8_close 19 = .ok (.iconst (-1), 1) := by decide +kernel
theorem dX8_close_20 : decode cX8_close 20 = .ok (.if_icmp .ne 7, 3) := by decide +kernel
theorem dX8_close_23 : decode cX8_close 23 = .ok (.sipush (-10002), 3) := by decide +kernel
theorem dX8_close_26 : decode cX8_close 26 = .ok (.ireturn, 1) := by decide +kernel
theorem dX8_close_27 : decode cX8_close 27 = .ok (.aload_n 0, 1) := by decide +kernel
theorem dX8_close_28 : decode cX8_close 28 = .ok (.invokevirtual 115, 3) := by decide +kernel
theorem dX8_close_31 : decode cX8_close 31 = .ok (.aload_n 0, 1) := by decide +kernel
theorem dX8_close_32 : decode cX8_close 32 = .ok (.iload_n 1, 1) := by decide +kernel
theorem dX8_close_33 : decode cX8_close 33 = .ok (.invokevirtual 150, 3) := by decide +kernel
theorem dX8_close_36 : decode cX8_close 36 = .ok (.aload_n 0, 1) := by decide +kernel
theorem dX8_close_37 : decode cX8_close 37 = .ok (.invokevirtual 118, 3) := by decide +kernel
theorem dX8_close_40 : decode cX8_close 40 = .ok (.ireturn, 1) := by decide +kernel
theorem dX8_settles_0 : decode cX8_settles 0 = .ok (.aload_n 0, 1) := by decide +kernel
theorem dX8_settles_1 : decode cX8_settles 1 = .ok (.invokevirtual 112, 3) := by decide +kernel
theorem dX8_settles_4 : decode cX8_settles 4 = .ok (.iconst 0, 1) := by decide +kernel
theorem dX8_settles_5 : decode cX8_settles 5 = .ok (.istore_n 1, 1) := by decide +kernel
theorem dX8_settles_6 : decode cX8_settles 6 = .ok (.iconst 0, 1) := by decide +kernel
theorem dX8_settles_7 : decode cX8_settles 7 = .ok (.istore_n 2, 1) := by decide +kernel
theorem dX8_settles_8 : decode cX8_settles 8 = .ok (.iload_n 2, 1) := by decide +kernel
theorem dX8_settles_9 : decode cX8_settles 9 = .ok (.aload_n 0, 1) := by decide +kernel
theorem dX8_settles_10 : decode cX8_settles 10 = .ok (.getfield 7, 3) := by decide +kernel
theorem dX8_settles_13 : decode cX8_settles 13 = .ok (.bipush 50, 2) := by decide +kernel
theorem dX8_settles_15 : decode cX8_settles 15 = .ok (.iaload, 1) := by decide +kernel
theorem dX8_settles_16 : decode cX8_settles 16 = .ok (.if_icmp .ge 62, 3) := by decide +kernel
theorem dX8_settles_19 : decode cX8_settles 19 = .ok (.aload_n 0, 1) := by decide +kernel
theorem dX8_settles_20 : decode cX8_settles 20 = .ok (.getfield 26, 3) := by decide +kernel
theorem dX8_settles_23 : decode cX8_settles 23 = .ok (.iload_n 2, 1) := by decide +kernel
theorem dX8_settles_24 : decode cX8_settles 24 = .ok (.iaload, 1) := by decide +kernel
theorem dX8_settles_25 : decode cX8_settles 25 = .ok (.iconst (-1), 1) := by decide +kernel
theorem dX8_settles_26 : decode cX8_settles 26 = .ok (.if_icmp .eq 46, 3) := by decide +kernel
theorem dX8_settles_29 : decode cX8_settles 29 = .ok (.iload_n 1, 1) := by decide +kernel
theorem dX8_settles_30 : decode cX8_settles 30 = .ok (.aload_n 0, 1) := by decide +kernel
theorem dX8_settles_31 : decode cX8_settles 31 = .ok (.getfield 7, 3) := by decide +kernel
theorem dX8_settles_34 : decode cX8_settles 34 = .ok (.sipush 160, 3) := by decide +kernel
theorem dX8_settles_37 : decode cX8_settles 37 = .ok (.iload_n 2, 1) := by decide +kernel
theorem dX8_settles_38 : decode cX8_settles 38 = .ok (.iadd, 1) := by decide +kernel
theorem dX8_settles_39 : decode cX8_settles 39 = .ok (.iaload, 1) := by decide +kernel
theorem dX8_settles_40 : decode cX8_settles 40 = .ok (.aload_n 0, 1) := by decide +kernel
theorem dX8_settles_41 : decode cX8_settles 41 = .ok (.getfield 26, 3) := by decide +kernel
theorem dX8_settles_44 : decode cX8_settles 44 = .ok (.iload_n 2, 1) := by decide +kernel
theorem dX8_settles_45 : decode cX8_settles 45 = .ok (.iaload, 1) := by decide +kernel
theorem dX8_settles_46 : decode cX8_settles 46 = .ok (.if_icmp .ne 7, 3) := by decide +kernel
theorem dX8_settles_49 : decode cX8_settles 49 = .ok (.iconst 0, 1) := by decide +kernel
theorem dX8_settles_50 : decode cX8_settles 50 = .ok (.goto 4, 3) := by decide +kernel
theorem dX8_settles_53 : decode cX8_settles 53 = .ok (.iconst 1, 1) := by decide +kernel
theorem dX8_settles_54 : decode cX8_settles 54 = .ok (.iadd, 1) := by decide +kernel
theorem dX8_settles_55 : decode cX8_settles 55 = .ok (.istore_n 1, 1) := by decide +kernel
theorem dX8_settles_56 : decode cX8_settles 56 = .ok (.aload_n 0, 1) := by decide +kernel
theorem dX8_settles_57 : decode cX8_settles 57 = .ok (.getfield 7, 3) := by decide +kernel
theorem dX8_settles_60 : decode cX8_settles 60 = .ok (.sipush 160, 3) := by decide +kernel
theorem dX8_settles_63 : decode cX8_settles 63 = .ok (.iload_n 2, 1) := by decide +kernel
theorem dX8_settles_64 : decode cX8_settles 64 = .ok (.iadd, 1) := by decide +kernel
theorem dX8_settles_65 : decode cX8_settles 65 = .ok (.aload_n 0, 1) := by decide +kernel
theorem dX8_settles_66 : decode cX8_settles 66 = .ok (.getfield 26, 3) := by decide +kernel
theorem dX8_settles_69 : decode cX8_settles 69 = .ok (.iload_n 2, 1) := by decide +kernel
theorem dX8_settles_70 : decode cX8_settles 70 = .ok (.iaload, 1) := by decide +kernel
theorem dX8_settles_71 : decode cX8_settles 71 = .ok (.iastore, 1) := by decide +kernel
theorem dX8_settles_72 : decode cX8_settles 72 = .ok (.iinc 2 1, 3) := by decide +kernel
theorem dX8_settles_75 : decode cX8_settles 75 = .ok (.goto (-67), 3) := by decide +kernel
theorem dX8_settles_78 : decode cX8_settles 78 = .ok (.iload_n 1, 1) := by decide +kernel
theorem dX8_settles_79 : decode cX8_settles 79 = .ok (.ireturn, 1) := by decide +kernel
theorem dX8_settle_0 : decode cX8_settle 0 = .ok (.aload_n 0, 1) := by decide +kernel
theorem dX8_settle_1 : decode cX8_settle 1 = .ok (.invokevirtual 115, 3) := by decide +kernel
theorem dX8_settle_4 : decode cX8_settle 4 = .ok (.aload_n 0, 1) := by decide +kernel
theorem dX8_settle_5 : decode cX8_settle 5 = .ok (.invokevirtual 153, 3) := by decide +kernel
theorem dX8_settle_8 : decode cX8_settle 8 = .ok (.ireturn, 1) := by decide +kernel
theorem dX8_hintOf_0 : decode cX8_hintOf 0 = .ok (.aload_n 0, 1) := by decide +kernel
theorem dX8_hintOf_1 : decode cX8_hintOf 1 = .ok (.iload_n 1, 1) := by decide +kernel
theorem dX8_hintOf_2 : decode cX8_hintOf 2 = .ok (.invokevirtual 138, 3) := by decide +kernel
theorem dX8_hintOf_5 : decode cX8_hintOf 5 = .ok (.ifCond .eq 13, 3) := by decide +kernel
theorem dX8_hintOf_8 : decode cX8_hintOf 8 = .ok (.iload_n 2, 1) := by decide +kernel
theorem dX8_hintOf_9 : decode cX8_hintOf 9 = .ok (.iconst 0, 1) := by decide +kernel
theorem dX8_hintOf_10 : decode cX8_hintOf 10 = .ok (.bipush 16, 2) := by decide +kernel
theorem dX8_hintOf_12 : decode cX8_hintOf 12 = .ok (.invokestatic 32, 3) := by decide +kernel
theorem dX8_hintOf_15 : decode cX8_hintOf 15 = .ok (.ifCond .ne 7, 3) := by decide +kernel
theorem dX8_hintOf_18 : decode cX8_hintOf 18 = .ok (.sipush (-10001), 3) := by decide +kernel
theorem dX8_hintOf_21 : decode cX8_hintOf 21 = .ok (.ireturn, 1) := by decide +kernel
theorem dX8_hintOf_22 : decode cX8_hintOf 22 = .ok (.iload_n 2, 1) := by decide +kernel
theorem dX8_hintOf_23 : decode cX8_hintOf 23 = .ok (.bipush 8, 2) := by decide +kernel
theorem dX8_hintOf_25 : decode cX8_hintOf 25 = .ok (.if_icmp .ge 10, 3) := by decide +kernel
theorem dX8_hintOf_28 : decode cX8_hintOf 28 = .ok (.aload_n 0, 1) := by decide +kernel
theorem dX8_hintOf_29 : decode cX8_hintOf 29 = .ok (.iload_n 1, 1) := by decide +kernel
theorem dX8_hintOf_30 : decode cX8_hintOf 30 = .ok (.iload_n 2, 1) := by decide +kernel
theorem dX8_hintOf_31 : decode cX8_hintOf 31 = .ok (.invokevirtual 52, 3) := by decide +kernel
theorem dX8_hintOf_34 : decode cX8_hintOf 34 = .ok (.ireturn, 1) := by decide +kernel
theorem dX8_hintOf_35 : decode cX8_hintOf 35 = .ok (.aload_n 0, 1) := by decide +kernel
theorem dX8_hintOf_36 : decode cX8_hintOf 36 = .ok (.invokevirtual 112, 3) := by decide +kernel
theorem dX8_hintOf_39 : decode cX8_hintOf 39 = .ok (.iload_n 2, 1) := by decide +kernel
theorem dX8_hintOf_40 : decode cX8_hintOf 40 = .ok (.bipush 8, 2) := by decide +kernel
theorem dX8_hintOf_42 : decode cX8_hintOf 42 = .ok (.if_icmp .ne 10, 3) := by decide +kernel
theorem dX8_hintOf_45 : decode cX8_hintOf 45 = .ok (.aload_n 0, 1) := by decide +kernel
theorem dX8_hintOf_46 : decode cX8_hintOf 46 = .ok (.getfield 23, 3) := by decide +kernel
theorem dX8_hintOf_49 : decode cX8_hintOf 49 = .ok (.iload_n 1, 1) := by decide +kernel
theorem dX8_hintOf_50 : decode cX8_hintOf 50 = .ok (.iaload, 1) := by decide +kernel
theorem dX8_hintOf_51 : decode cX8_hintOf 51 = .ok (.ireturn, 1) := by decide +kernel
theorem dX8_hintOf_52 : decode cX8_hintOf 52 = .ok (.iload_n 2, 1) := by decide +kernel
theorem dX8_hintOf_53 : decode cX8_hintOf 53 = .ok (.bipush 15, 2) := by decide +kernel
theorem dX8_hintOf_55 : decode cX8_hintOf 55 = .ok (.if_icmp .ne 34, 3) := by decide +kernel
theorem dX8_hintOf_58 : decode cX8_hintOf 58 = .ok (.aload_n 0, 1) := by decide +kernel
theorem dX8_hintOf_59 : decode cX8_hintOf 59 = .ok (.getfield 7, 3) := by decide +kernel
theorem dX8_hintOf_62 : decode cX8_hintOf 62 = .ok (.sipush 160, 3) := by decide +kernel
theorem dX8_hintOf_65 : decode cX8_hintOf 65 = .ok (.iload_n 1, 1) := by decide +kernel
theorem dX8_hintOf_66 : decode cX8_hintOf 66 = .ok (.iadd, 1) := by decide +kernel
theorem dX8_hintOf_67 : decode cX8_hintOf 67 = .ok (.iaload, 1) := by decide +kernel
theorem dX8_hintOf_68 : decode cX8_hintOf 68 = .ok (.iconst (-1), 1) := by decide +kernel
theorem dX8_hintOf_69 : decode cX8_hintOf 69 = .ok (.if_icmp .ne 9, 3) := by decide +kernel
theorem dX8_hintOf_72 : decode cX8_hintOf 72 = .ok (.sipush (-10004), 3) := by decide +kernel
theorem dX8_hintOf_75 : decode cX8_hintOf 75 = .ok (.goto 13, 3) := by decide +kernel
theorem dX8_hintOf_78 : decode cX8_hintOf 78 = .ok (.aload_n 0, 1) := by decide +kernel
theorem dX8_hintOf_79 : decode cX8_hintOf 79 = .ok (.getfield 7, 3) := by decide +kernel
theorem dX8_hintOf_82 : decode cX8_hintOf 82 = .ok (.sipush 160, 3) := by decide +kernel
theorem dX8_hintOf_85 : decode cX8_hintOf 85 = .ok (.iload_n 1, 1) := by decide +kernel
theorem dX8_hintOf_86 : decode cX8_hintOf 86 = .ok (.iadd, 1) := by decide +kernel
theorem dX8_hintOf_87 : decode cX8_hintOf 87 = .ok (.iaload, 1) := by decide +kernel
theorem dX8_hintOf_88 : decode cX8_hintOf 88 = .ok (.ireturn, 1) := by decide +kernel
theorem dX8_hintOf_89 : decode cX8_hintOf 89 = .ok (.iload_n 2, 1) := by decide +kernel
theorem dX8_hintOf_90 : decode cX8_hintOf 90 = .ok (.bipush 16, 2) := by decide +kernel
theorem dX8_hintOf_92 : decode cX8_hintOf 92 = .ok (.if_icmp .ne 9, 3) := by decide +kernel
theorem dX8_hintOf_95 : decode cX8_hintOf 95 = .ok (.aload_n 0, 1) := by decide +kernel
theorem dX8_hintOf_96 : decode cX8_hintOf 96 = .ok (.iload_n 1, 1) := by decide +kernel
theorem dX8_hintOf_97 : decode cX8_hintOf 97 = .ok (.invokevirtual 156, 3) := by decide +kernel
theorem dX8_hintOf_100 : decode cX8_hintOf 100 = .ok (.ireturn, 1) := by decide +kernel
theorem dX8_hintOf_101 : decode cX8_hintOf 101 = .ok (.aload_n 0, 1) := by decide +kernel
theorem dX8_hintOf_102 : decode cX8_hintOf 102 = .ok (.getfield 26, 3) := by decide +kernel
theorem dX8_hintOf_105 : decode cX8_hintOf 105 = .ok (.iload_n 1, 1) := by decide +kernel
theorem dX8_hintOf_106 : decode cX8_hintOf 106 = .ok (.iaload, 1) := by decide +kernel
theorem dX8_hintOf_107 : decode cX8_hintOf 107 = .ok (.iconst (-1), 1) := by decide +kernel
theorem dX8_hintOf_108 : decode cX8_hintOf 108 = .ok (.if_icmp .ne 7, 3) := by decide +kernel
theorem dX8_hintOf_111 : decode cX8_hintOf 111 = .ok (.sipush (-10004), 3) := by decide +kernel
theorem dX8_hintOf_114 : decode cX8_hintOf 114 = .ok (.ireturn, 1) := by decide +kernel
theorem dX8_hintOf_115 : decode cX8_hintOf 115 = .ok (.aload_n 0, 1) := by decide +kernel
theorem dX8_hintOf_116 : decode cX8_hintOf 116 = .ok (.iload_n 1, 1) := by decide +kernel
theorem dX8_hintOf_117 : decode cX8_hintOf 117 = .ok (.aload_n 0, 1) := by decide +kernel
theorem dX8_hintOf_118 : decode cX8_hintOf 118 = .ok (.getfield 26, 3) := by decide +kernel
theorem dX8_hintOf_121 : decode cX8_hintOf 121 = .ok (.iload_n 1, 1) := by decide +kernel
theorem dX8_hintOf_122 : decode cX8_hintOf 122 = .ok (.iaload, 1) := by decide +kernel
theorem dX8_hintOf_123 : decode cX8_hintOf 123 = .ok (.invokevirtual 79, 3) := by decide +kernel
theorem dX8_hintOf_126 : decode cX8_hintOf 126 = .ok (.iload_n 2, 1) := by decide +kernel
theorem dX8_hintOf_127 : decode cX8_hintOf 127 = .ok (.tableswitch 68 9 13 #[33, 40, 45, 50, 55], 33) := by decide +kernel
theorem dX8_hintOf_160 : decode cX8_hintOf 160 = .ok (.aload_n 0, 1) := by decide +kernel
theorem dX8_hintOf_161 : decode cX8_hintOf 161 = .ok (.getfield 26, 3) := by decide +kernel
theorem dX8_hintOf_164 : decode cX8_hintOf 164 = .ok (.iload_n 1, 1) := by decide +kernel
theorem dX8_hintOf_165 : decode cX8_hintOf 165 = .ok (.iaload, 1) := by decide +kernel
theorem dX8_hintOf_166 : decode cX8_hintOf 166 = .ok (.ireturn, 1) := by decide +kernel
theorem dX8_hintOf_167 : decode cX8_hintOf 167 = .ok (.aload_n 0, 1) := by decide +kernel
theorem dX8_hintOf_168 : decode cX8_hintOf 168 = .ok (.getfield 73, 3) := by decide +kernel
theorem dX8_hintOf_171 : decode cX8_hintOf 171 = .ok (.ireturn, 1) := by decide +kernel
theorem dX8_hintOf_172 : decode cX8_hintOf 172 = .ok (.aload_n 0, 1) := by decide +kernel
theorem dX8_hintOf_173 : decode cX8_hintOf 173 = .ok (.getfield 76, 3) := by decide +kernel
theorem dX8_hintOf_176 : decode cX8_hintOf 176 = .ok (.ireturn, 1) := by decide +kernel
theorem dX8_hintOf_177 : decode cX8_hintOf 177 = .ok (.aload_n 0, 1) := by decide +kernel
theorem dX8_hintOf_178 : decode cX8_hintOf 178 = .ok (.getfield 59, 3) := by decide +kernel
theorem dX8_hintOf_181 : decode cX8_hintOf 181 = .ok (.ireturn, 1) := by decide +kernel
theorem dX8_hintOf_182 : decode cX8_hintOf 182 = .ok (.aload_n 0, 1) := by decide +kernel
theorem dX8_hintOf_183 : decode cX8_hintOf 183 = .ok (.getfield 69, 3) := by decide +kernel
theorem dX8_hintOf_186 : decode cX8_hintOf 186 = .ok (.ifCond .eq 7, 3) := by decide +kernel
theorem dX8_hintOf_189 : decode cX8_hintOf 189 = .ok (.iconst 1, 1) := by decide +kernel
theorem dX8_hintOf_190 : decode cX8_hintOf 190 = .ok (.goto 4, 3) := by decide +kernel
theorem dX8_hintOf_193 : decode cX8_hintOf 193 = .ok (.iconst 0, 1) := by decide +kernel
theorem dX8_hintOf_194 : decode cX8_hintOf 194 = .ok (.ireturn, 1) := by decide +kernel
theorem dX8_hintOf_195 : decode cX8_hintOf 195 = .ok (.aload_n 0, 1) := by decide +kernel
theorem dX8_hintOf_196 : decode cX8_hintOf 196 = .ok (.getfield 66, 3) := by decide +kernel
theorem dX8_hintOf_199 : decode cX8_hintOf 199 = .ok (.ireturn, 1) := by decide +kernel
theorem dX8_orderOf_0 : decode cX8_orderOf 0 = .ok (.iconst 0, 1) := by decide +kernel
theorem dX8_orderOf_1 : decode cX8_orderOf 1 = .ok (.istore_n 2, 1) := by decide +kernel
theorem dX8_orderOf_2 : decode cX8_orderOf 2 = .ok (.iload_n 2, 1) := by decide +kernel
theorem dX8_orderOf_3 : decode cX8_orderOf 3 = .ok (.aload_n 0, 1) := by decide +kernel
theorem dX8_orderOf_4 : decode cX8_orderOf 4 = .ok (.getfield 7, 3) := by decide +kernel
theorem dX8_orderOf_7 : decode cX8_orderOf 7 = .ok (.sipush 147, 3) := by decide +kernel
theorem dX8_orderOf_10 : decode cX8_orderOf 10 = .ok (.iaload, 1) := by decide +kernel
theorem dX8_orderOf_11 : decode cX8_orderOf 11 = .ok (.if_icmp .ge 21, 3) := by decide +kernel
theorem dX8_orderOf_14 : decode cX8_orderOf 14 = .ok (.aload_n 0, 1) := by decide +kernel
theorem dX8_orderOf_15 : decode cX8_orderOf 15 = .ok (.getfield 20, 3) := by decide +kernel
theorem dX8_orderOf_18 : decode cX8_orderOf 18 = .ok (.iload_n 2, 1) := by decide +kernel
theorem dX8_orderOf_19 : decode cX8_orderOf 19 = .ok (.iaload, 1) := by decide +kernel
theorem dX8_orderOf_20 : decode cX8_orderOf 20 = .ok (.iload_n 1, 1) := by decide +kernel
theorem dX8_orderOf_21 : decode cX8_orderOf 21 = .ok (.if_icmp .ne 5, 3) := by decide +kernel
theorem dX8_orderOf_24 : decode cX8_orderOf 24 = .ok (.iload_n 2, 1) := by decide +kernel
theorem dX8_orderOf_25 : decode cX8_orderOf 25 = .ok (.ireturn, 1) := by decide +kernel
theorem dX8_orderOf_26 : decode cX8_orderOf 26 = .ok (.iinc 2 1, 3) := by decide +kernel
theorem dX8_orderOf_29 : decode cX8_orderOf 29 = .ok (.goto (-27), 3) := by decide +kernel
theorem dX8_orderOf_32 : decode cX8_orderOf 32 = .ok (.sipush (-10004), 3) := by decide +kernel
theorem dX8_orderOf_35 : decode cX8_orderOf 35 = .ok (.ireturn, 1) := by decide +kernel
theorem dX8_room_0 : decode cX8_room 0 = .ok (.aload_n 0, 1) := by decide +kernel
theorem dX8_room_1 : decode cX8_room 1 = .ok (.iload_n 1, 1) := by decide +kernel
theorem dX8_room_2 : decode cX8_room 2 = .ok (.invokevirtual 138, 3) := by decide +kernel
theorem dX8_room_5 : decode cX8_room 5 = .ok (.ifCond .eq 12, 3) := by decide +kernel
theorem dX8_room_8 : decode cX8_room 8 = .ok (.iload_n 2, 1) := by decide +kernel
theorem dX8_room_9 : decode cX8_room 9 = .ok (.iconst 0, 1) := by decide +kernel
theorem dX8_room_10 : decode cX8_room 10 = .ok (.iconst 3, 1) := by decide +kernel
theorem dX8_room_11 : decode cX8_room 11 = .ok (.invokestatic 32, 3) := by decide +kernel
theorem dX8_room_14 : decode cX8_room 14 = .ok (.ifCond .ne 7, 3) := by decide +kernel
theorem dX8_room_17 : decode cX8_room 17 = .ok (.sipush (-10001), 3) := by decide +kernel
theorem dX8_room_20 : decode cX8_room 20 = .ok (.ireturn, 1) := by decide +kernel
theorem dX8_room_21 : decode cX8_room 21 = .ok (.aload_n 0, 1) := by decide +kernel
theorem dX8_room_22 : decode cX8_room 22 = .ok (.iload_n 1, 1) := by decide +kernel
theorem dX8_room_23 : decode cX8_room 23 = .ok (.iconst 0, 1) := by decide +kernel
theorem dX8_room_24 : decode cX8_room 24 = .ok (.invokevirtual 52, 3) := by decide +kernel
theorem dX8_room_27 : decode cX8_room 27 = .ok (.istore_n 3, 1) := by decide +kernel
theorem dX8_room_28 : decode cX8_room 28 = .ok (.iload_n 2, 1) := by decide +kernel
theorem dX8_room_29 : decode cX8_room 29 = .ok (.tableswitch 118 0 2 #[27, 48, 83], 27) := by decide +kernel
theorem dX8_room_56 : decode cX8_room 56 = .ok (.aload_n 0, 1) := by decide +kernel
theorem dX8_room_57 : decode cX8_room 57 = .ok (.iload_n 3, 1) := by decide +kernel
theorem dX8_room_58 : decode cX8_room 58 = .ok (.iconst 1, 1) := by decide +kernel
theorem dX8_room_59 : decode cX8_room 59 = .ok (.invokevirtual 40, 3) := by decide +kernel
theorem dX8_room_62 : decode cX8_room 62 = .ok (.aload_n 0, 1) := by decide +kernel
theorem dX8_room_63 : decode cX8_room 63 = .ok (.getfield 7, 3) := by decide +kernel
theorem dX8_room_66 : decode cX8_room 66 = .ok (.iconst 4, 1) := by decide +kernel
theorem dX8_room_67 : decode cX8_room 67 = .ok (.iaload, 1) := by decide +kernel
theorem dX8_room_68 : decode cX8_room 68 = .ok (.isub, 1) := by decide +kernel
theorem dX8_room_69 : decode cX8_room 69 = .ok (.aload_n 0, 1) := by decide +kernel
theorem dX8_room_70 : decode cX8_room 70 = .ok (.getfield 7, 3) := by decide +kernel
theorem dX8_room_73 : decode cX8_room 73 = .ok (.iconst 1, 1) := by decide +kernel
theorem dX8_room_74 : decode cX8_room 74 = .ok (.iaload, 1) := by decide +kernel
theorem dX8_room_75 : decode cX8_room 75 = .ok (.isub, 1) := by decide +kernel
theorem dX8_room_76 : decode cX8_room 76 = .ok (.ireturn, 1) := by decide +kernel
theorem dX8_room_77 : decode cX8_room 77 = .ok (.aload_n 0, 1) := by decide +kernel
theorem dX8_room_78 : decode cX8_room 78 = .ok (.getfield 7, 3) := by decide +kernel
theorem dX8_room_81 : decode cX8_room 81 = .ok (.iconst 0, 1) := by decide +kernel
theorem dX8_room_82 : decode cX8_room 82 = .ok (.iaload, 1) := by decide +kernel
theorem dX8_room_83 : decode cX8_room 83 = .ok (.aload_n 0, 1) := by decide +kernel
theorem dX8_room_84 : decode cX8_room 84 = .ok (.getfield 7, 3) := by decide +kernel
theorem dX8_room_87 : decode cX8_room 87 = .ok (.iconst 2, 1) := by decide +kernel
theorem dX8_room_88 : decode cX8_room 88 = .ok (.iaload, 1) := by decide +kernel
theorem dX8_room_89 : decode cX8_room 89 = .ok (.iadd, 1) := by decide +kernel
theorem dX8_room_90 : decode cX8_room 90 = .ok (.aload_n 0, 1) := by decide +kernel
theorem dX8_room_91 : decode cX8_room 91 = .ok (.iload_n 3, 1) := by decide +kernel
theorem dX8_room_92 : decode cX8_room 92 = .ok (.iconst 0, 1) := by decide +kernel
theorem dX8_room_93 : decode cX8_room 93 = .ok (.invokevirtual 40, 3) := by decide +kernel
theorem dX8_room_96 : decode cX8_room 96 = .ok (.isub, 1) := by decide +kernel
theorem dX8_room_97 : decode cX8_room 97 = .ok (.aload_n 0, 1) := by decide +kernel
theorem dX8_room_98 : decode cX8_room 98 = .ok (.iload_n 3, 1) := by decide +kernel
theorem dX8_room_99 : decode cX8_room 99 = .ok (.iconst 2, 1) := by decide +kernel
theorem dX8_room_100 : decode cX8_room 100 = .ok (.invokevirtual 40, 3) := by decide +kernel
theorem dX8_room_103 : decode cX8_room 103 = .ok (.isub, 1) := by decide +kernel
theorem dX8_room_104 : decode cX8_room 104 = .ok (.aload_n 0, 1) := by decide +kernel
theorem dX8_room_105 : decode cX8_room 105 = .ok (.getfield 7, 3) := by decide +kernel
theorem dX8_room_108 : decode cX8_room 108 = .ok (.iconst 4, 1) := by decide +kernel
theorem dX8_room_109 : decode cX8_room 109 = .ok (.iaload, 1) := by decide +kernel
theorem dX8_room_110 : decode cX8_room 110 = .ok (.isub, 1) := by decide +kernel
theorem dX8_room_111 : decode cX8_room 111 = .ok (.ireturn, 1) := by decide +kernel
theorem dX8_room_112 : decode cX8_room 112 = .ok (.aload_n 0, 1) := by decide +kernel
theorem dX8_room_113 : decode cX8_room 113 = .ok (.getfield 7, 3) := by decide +kernel
theorem dX8_room_116 : decode cX8_room 116 = .ok (.iconst 1, 1) := by decide +kernel
theorem dX8_room_117 : decode cX8_room 117 = .ok (.iaload, 1) := by decide +kernel
theorem dX8_room_118 : decode cX8_room 118 = .ok (.aload_n 0, 1) := by decide +kernel
theorem dX8_room_119 : decode cX8_room 119 = .ok (.getfield 7, 3) := by decide +kernel
theorem dX8_room_122 : decode cX8_room 122 = .ok (.iconst 3, 1) := by decide +kernel
theorem dX8_room_123 : decode cX8_room 123 = .ok (.iaload, 1) := by decide +kernel
theorem dX8_room_124 : decode cX8_room 124 = .ok (.iadd, 1) := by decide +kernel
theorem dX8_room_125 : decode cX8_room 125 = .ok (.aload_n 0, 1) := by decide +kernel
theorem dX8_room_126 : decode cX8_room 126 = .ok (.iload_n 3, 1) := by decide +kernel
theorem dX8_room_127 : decode cX8_room 127 = .ok (.iconst 1, 1) := by decide +kernel
theorem dX8_room_128 : decode cX8_room 128 = .ok (.invokevirtual 40, 3) := by decide +kernel
theorem dX8_room_131 : decode cX8_room 131 = .ok (.isub, 1) := by decide +kernel
theorem dX8_room_132 : decode cX8_room 132 = .ok (.aload_n 0, 1) := by decide +kernel
theorem dX8_room_133 : decode cX8_room 133 = .ok (.iload_n 3, 1) := by decide +kernel
theorem dX8_room_134 : decode cX8_room 134 = .ok (.iconst 3, 1) := by decide +kernel
theorem dX8_room_135 : decode cX8_room 135 = .ok (.invokevirtual 40, 3) := by decide +kernel
theorem dX8_room_138 : decode cX8_room 138 = .ok (.isub, 1) := by decide +kernel
theorem dX8_room_139 : decode cX8_room 139 = .ok (.aload_n 0, 1) := by decide +kernel
theorem dX8_room_140 : decode cX8_room 140 = .ok (.getfield 7, 3) := by decide +kernel
theorem dX8_room_143 : decode cX8_room 143 = .ok (.iconst 4, 1) := by decide +kernel
theorem dX8_room_144 : decode cX8_room 144 = .ok (.iaload, 1) := by decide +kernel
theorem dX8_room_145 : decode cX8_room 145 = .ok (.isub, 1) := by decide +kernel
theorem dX8_room_146 : decode cX8_room 146 = .ok (.ireturn, 1) := by decide +kernel
theorem dX8_room_147 : decode cX8_room 147 = .ok (.aload_n 0, 1) := by decide +kernel
theorem dX8_room_148 : decode cX8_room 148 = .ok (.iload_n 3, 1) := by decide +kernel
theorem dX8_room_149 : decode cX8_room 149 = .ok (.iconst 0, 1) := by decide +kernel
theorem dX8_room_150 : decode cX8_room 150 = .ok (.invokevirtual 40, 3) := by decide +kernel
theorem dX8_room_153 : decode cX8_room 153 = .ok (.aload_n 0, 1) := by decide +kernel
theorem dX8_room_154 : decode cX8_room 154 = .ok (.getfield 7, 3) := by decide +kernel
theorem dX8_room_157 : decode cX8_room 157 = .ok (.iconst 4, 1) := by decide +kernel
theorem dX8_room_158 : decode cX8_room 158 = .ok (.iaload, 1) := by decide +kernel
theorem dX8_room_159 : decode cX8_room 159 = .ok (.isub, 1) := by decide +kernel
theorem dX8_room_160 : decode cX8_room 160 = .ok (.aload_n 0, 1) := by decide +kernel
theorem dX8_room_161 : decode cX8_room 161 = .ok (.getfield 7, 3) := by decide +kernel
theorem dX8_room_164 : decode cX8_room 164 = .ok (.iconst 0, 1) := by decide +kernel
theorem dX8_room_165 : decode cX8_room 165 = .ok (.iaload, 1) := by decide +kernel
theorem dX8_room_166 : decode cX8_room 166 = .ok (.isub, 1) := by decide +kernel
theorem dX8_room_167 : decode cX8_room 167 = .ok (.ireturn, 1) := by decide +kernel
theorem dX8_ifOn_0 : decode cX8_ifOn 0 = .ok (.aload_n 0, 1) := by decide +kernel
theorem dX8_ifOn_1 : decode cX8_ifOn 1 = .ok (.iload_n 1, 1) := by decide +kernel
theorem dX8_ifOn_2 : decode cX8_ifOn 2 = .ok (.invokevirtual 138, 3) := by decide +kernel
theorem dX8_ifOn_5 : decode cX8_ifOn 5 = .ok (.ifCond .eq 21, 3) := by decide +kernel
theorem dX8_ifOn_8 : decode cX8_ifOn 8 = .ok (.iload_n 2, 1) := by decide +kernel
theorem dX8_ifOn_9 : decode cX8_ifOn 9 = .ok (.iconst 0, 1) := by decide +kernel
theorem dX8_ifOn_10 : decode cX8_ifOn 10 = .ok (.iconst 3, 1) := by decide +kernel
theorem dX8_ifOn_11 : decode cX8_ifOn 11 = .ok (.invokestatic 32, 3) := by decide +kernel
theorem dX8_ifOn_14 : decode cX8_ifOn 14 = .ok (.ifCond .eq 12, 3) := by decide +kernel
theorem dX8_ifOn_17 : decode cX8_ifOn 17 = .ok (.iload_n 3, 1) := by decide +kernel
theorem dX8_ifOn_18 : decode cX8_ifOn 18 = .ok (.iconst 0, 1) := by decide +kernel
theorem dX8_ifOn_19 : decode cX8_ifOn 19 = .ok (.iconst 4, 1) := by decide +kernel
theorem dX8_ifOn_20 : decode cX8_ifOn 20 = .ok (.invokestatic 32, 3) := by decide +kernel
theorem dX8_ifOn_23 : decode cX8_ifOn 23 = .ok (.ifCond .ne 7, 3) := by decide +kernel
theorem dX8_ifOn_26 : decode cX8_ifOn 26 = .ok (.sipush (-10001), 3) := by decide +kernel
theorem dX8_ifOn_29 : decode cX8_ifOn 29 = .ok (.ireturn, 1) := by decide +kernel
theorem dX8_ifOn_30 : decode cX8_ifOn 30 = .ok (.aload_n 0, 1) := by decide +kernel
theorem dX8_ifOn_31 : decode cX8_ifOn 31 = .ok (.iload_n 1, 1) := by decide +kernel
theorem dX8_ifOn_32 : decode cX8_ifOn 32 = .ok (.iload_n 2, 1) := by decide +kernel
theorem dX8_ifOn_33 : decode cX8_ifOn 33 = .ok (.invokevirtual 93, 3) := by decide +kernel
theorem dX8_ifOn_36 : decode cX8_ifOn 36 = .ok (.istore 4, 2) := by decide +kernel
theorem dX8_ifOn_38 : decode cX8_ifOn 38 = .ok (.iload_n 3, 1) := by decide +kernel
theorem dX8_ifOn_39 : decode cX8_ifOn 39 = .ok (.tableswitch 55 0 3 #[29, 40, 45, 50], 29) := by decide +kernel
theorem dX8_ifOn_68 : decode cX8_ifOn 68 = .ok (.iload 4, 2) := by decide +kernel
theorem dX8_ifOn_70 : decode cX8_ifOn 70 = .ok (.ifCond .eq 7, 3) := by decide +kernel
theorem dX8_ifOn_73 : decode cX8_ifOn 73 = .ok (.iconst 1, 1) := by decide +kernel
theorem dX8_ifOn_74 : decode cX8_ifOn 74 = .ok (.goto 4, 3) := by decide +kernel
theorem dX8_ifOn_77 : decode cX8_ifOn 77 = .ok (.iconst 0, 1) := by decide +kernel
theorem dX8_ifOn_78 : decode cX8_ifOn 78 = .ok (.ireturn, 1) := by decide +kernel
theorem dX8_ifOn_79 : decode cX8_ifOn 79 = .ok (.aload_n 0, 1) := by decide +kernel
theorem dX8_ifOn_80 : decode cX8_ifOn 80 = .ok (.getfield 73, 3) := by decide +kernel
theorem dX8_ifOn_83 : decode cX8_ifOn 83 = .ok (.ireturn, 1) := by decide +kernel
theorem dX8_ifOn_84 : decode cX8_ifOn 84 = .ok (.aload_n 0, 1) := by decide +kernel
theorem dX8_ifOn_85 : decode cX8_ifOn 85 = .ok (.getfield 76, 3) := by decide +kernel
theorem dX8_ifOn_88 : decode cX8_ifOn 88 = .ok (.ireturn, 1) := by decide +kernel
theorem dX8_ifOn_89 : decode cX8_ifOn 89 = .ok (.aload_n 0, 1) := by decide +kernel
theorem dX8_ifOn_90 : decode cX8_ifOn 90 = .ok (.getfield 66, 3) := by decide +kernel
theorem dX8_ifOn_93 : decode cX8_ifOn 93 = .ok (.ireturn, 1) := by decide +kernel
theorem dX8_ifOn_94 : decode cX8_ifOn 94 = .ok (.aload_n 0, 1) := by decide +kernel
theorem dX8_ifOn_95 : decode cX8_ifOn 95 = .ok (.getfield 59, 3) := by decide +kernel
theorem dX8_ifOn_98 : decode cX8_ifOn 98 = .ok (.ireturn, 1) := by decide +kernel
theorem dX8_at_0 : decode cX8_at 0 = .ok (.iload_n 1, 1) := by decide +kernel
theorem dX8_at_1 : decode cX8_at 1 = .ok (.sipush (-3000), 3) := by decide +kernel
theorem dX8_at_4 : decode cX8_at 4 = .ok (.sipush 3000, 3) := by decide +kernel
theorem dX8_at_7 : decode cX8_at 7 = .ok (.invokestatic 32, 3) := by decide +kernel
theorem dX8_at_10 : decode cX8_at 10 = .ok (.ifCond .eq 16, 3) := by decide +kernel
theorem dX8_at_13 : decode cX8_at 13 = .ok (.iload_n 2, 1) := by decide +kernel
theorem dX8_at_14 : decode cX8_at 14 = .ok (.sipush (-3000), 3) := by decide +kernel
theorem dX8_at_17 : decode cX8_at 17 = .ok (.sipush 3000, 3) := by decide +kernel
theorem dX8_at_20 : decode cX8_at 20 = .ok (.invokestatic 32, 3) := by decide +kernel
theorem dX8_at_23 : decode cX8_at 23 = .ok (.ifCond .ne 7, 3) := by decide +kernel
theorem dX8_at_26 : decode cX8_at 26 = .ok (.sipush (-10001), 3) := by decide +kernel
theorem dX8_at_29 : decode cX8_at 29 = .ok (.ireturn, 1) := by decide +kernel
theorem dX8_at_30 : decode cX8_at 30 = .ok (.aload_n 0, 1) := by decide +kernel
theorem dX8_at_31 : decode cX8_at 31 = .ok (.invokevirtual 112, 3) := by decide +kernel
theorem dX8_at_34 : decode cX8_at 34 = .ok (.iconst 0, 1) := by decide +kernel
theorem dX8_at_35 : decode cX8_at 35 = .ok (.istore_n 3, 1) := by decide +kernel
theorem dX8_at_36 : decode cX8_at 36 = .ok (.iload_n 3, 1) := by decide +kernel
theorem dX8_at_37 : decode cX8_at 37 = .ok (.aload_n 0, 1) := by decide +kernel
theorem dX8_at_38 : decode cX8_at 38 = .ok (.getfield 7, 3) := by decide +kernel
theorem dX8_at_41 : decode cX8_at 41 = .ok (.bipush 50, 2) := by decide +kernel
theorem dX8_at_43 : decode cX8_at 43 = .ok (.iaload, 1) := by decide +kernel
theorem dX8_at_44 : decode cX8_at 44 = .ok (.if_icmp .ge 62, 3) := by decide +kernel
theorem dX8_at_47 : decode cX8_at 47 = .ok (.aload_n 0, 1) := by decide +kernel
theorem dX8_at_48 : decode cX8_at 48 = .ok (.getfield 26, 3) := by decide +kernel
theorem dX8_at_51 : decode cX8_at 51 = .ok (.iload_n 3, 1) := by decide +kernel
theorem dX8_at_52 : decode cX8_at 52 = .ok (.iaload, 1) := by decide +kernel
theorem dX8_at_53 : decode cX8_at 53 = .ok (.iconst (-1), 1) := by decide +kernel
theorem dX8_at_54 : decode cX8_at 54 = .ok (.if_icmp .eq 46, 3) := by decide +kernel
theorem dX8_at_57 : decode cX8_at 57 = .ok (.aload_n 0, 1) := by decide +kernel
theorem dX8_at_58 : decode cX8_at 58 = .ok (.iload_n 3, 1) := by decide +kernel
theorem dX8_at_59 : decode cX8_at 59 = .ok (.aload_n 0, 1) := by decide +kernel
theorem dX8_at_60 : decode cX8_at 60 = .ok (.getfield 26, 3) := by decide +kernel
theorem dX8_at_63 : decode cX8_at 63 = .ok (.iload_n 3, 1) := by decide +kernel
theorem dX8_at_64 : decode cX8_at 64 = .ok (.iaload, 1) := by decide +kernel
theorem dX8_at_65 : decode cX8_at 65 = .ok (.invokevirtual 79, 3) := by decide +kernel
theorem dX8_at_68 : decode cX8_at 68 = .ok (.iload_n 1, 1) := by decide +kernel
theorem dX8_at_69 : decode cX8_at 69 = .ok (.iload_n 2, 1) := by decide +kernel
theorem dX8_at_70 : decode cX8_at 70 = .ok (.iconst 1, 1) := by decide +kernel
theorem dX8_at_71 : decode cX8_at 71 = .ok (.iconst 1, 1) := by decide +kernel
theorem dX8_at_72 : decode cX8_at 72 = .ok (.aload_n 0, 1) := by decide +kernel
theorem dX8_at_73 : decode cX8_at 73 = .ok (.getfield 73, 3) := by decide +kernel
theorem dX8_at_76 : decode cX8_at 76 = .ok (.aload_n 0, 1) := by decide +kernel
theorem dX8_at_77 : decode cX8_at 77 = .ok (.getfield 76, 3) := by decide +kernel
theorem dX8_at_80 : decode cX8_at 80 = .ok (.aload_n 0, 1) := by decide +kernel
theorem dX8_at_81 : decode cX8_at 81 = .ok (.iload_n 3, 1) := by decide +kernel
theorem dX8_at_82 : decode cX8_at 82 = .ok (.iconst 1, 1) := by decide +kernel
theorem dX8_at_83 : decode cX8_at 83 = .ok (.invokevirtual 52, 3) := by decide +kernel
theorem dX8_at_86 : decode cX8_at 86 = .ok (.aload_n 0, 1) := by decide +kernel
theorem dX8_at_87 : decode cX8_at 87 = .ok (.iload_n 3, 1) := by decide +kernel
theorem dX8_at_88 : decode cX8_at 88 = .ok (.iconst 2, 1) := by decide +kernel
theorem dX8_at_89 : decode cX8_at 89 = .ok (.invokevirtual 52, 3) := by decide +kernel
theorem dX8_at_92 : decode cX8_at 92 = .ok (.invokestatic 44, 3) := by decide +kernel
theorem dX8_at_95 : decode cX8_at 95 = .ok (.ifCond .eq 5, 3) := by decide +kernel
theorem dX8_at_98 : decode cX8_at 98 = .ok (.iload_n 3, 1) := by decide +kernel
theorem dX8_at_99 : decode cX8_at 99 = .ok (.ireturn, 1) := by decide +kernel
theorem dX8_at_100 : decode cX8_at 100 = .ok (.iinc 3 1, 3) := by decide +kernel
theorem dX8_at_103 : decode cX8_at 103 = .ok (.goto (-67), 3) := by decide +kernel
theorem dX8_at_106 : decode cX8_at 106 = .ok (.sipush (-10004), 3) := by decide +kernel
theorem dX8_at_109 : decode cX8_at 109 = .ok (.ireturn, 1) := by decide +kernel
theorem dX8_sizeFor_0 : decode cX8_sizeFor 0 = .ok (.aload_n 0, 1) := by decide +kernel
theorem dX8_sizeFor_1 : decode cX8_sizeFor 1 = .ok (.iload_n 1, 1) := by decide +kernel
theorem dX8_sizeFor_2 : decode cX8_sizeFor 2 = .ok (.invokevirtual 138, 3) := by decide +kernel
theorem dX8_sizeFor_5 : decode cX8_sizeFor 5 = .ok (.ifCond .eq 12, 3) := by decide +kernel
theorem dX8_sizeFor_8 : decode cX8_sizeFor 8 = .ok (.iload_n 2, 1) := by decide +kernel
theorem dX8_sizeFor_9 : decode cX8_sizeFor 9 = .ok (.iconst 0, 1) := by decide +kernel
theorem dX8_sizeFor_10 : decode cX8_sizeFor 10 = .ok (.iconst 1, 1) := by decide +kernel
theorem dX8_sizeFor_11 : decode cX8_sizeFor 11 = .ok (.invokestatic 32, 3) := by decide +kernel
theorem dX8_sizeFor_14 : decode cX8_sizeFor 14 = .ok (.ifCond .ne 7, 3) := by decide +kernel
theorem dX8_sizeFor_17 : decode cX8_sizeFor 17 = .ok (.sipush (-10001), 3) := by decide +kernel
theorem dX8_sizeFor_20 : decode cX8_sizeFor 20 = .ok (.ireturn, 1) := by decide +kernel
theorem dX8_sizeFor_21 : decode cX8_sizeFor 21 = .ok (.aload_n 0, 1) := by decide +kernel
theorem dX8_sizeFor_22 : decode cX8_sizeFor 22 = .ok (.iload_n 1, 1) := by decide +kernel
theorem dX8_sizeFor_23 : decode cX8_sizeFor 23 = .ok (.invokevirtual 90, 3) := by decide +kernel
theorem dX8_sizeFor_26 : decode cX8_sizeFor 26 = .ok (.aload_n 0, 1) := by decide +kernel
theorem dX8_sizeFor_27 : decode cX8_sizeFor 27 = .ok (.getfield 7, 3) := by decide +kernel
theorem dX8_sizeFor_30 : decode cX8_sizeFor 30 = .ok (.iconst 2, 1) := by decide +kernel
theorem dX8_sizeFor_31 : decode cX8_sizeFor 31 = .ok (.iload_n 2, 1) := by decide +kernel
theorem dX8_sizeFor_32 : decode cX8_sizeFor 32 = .ok (.iadd, 1) := by decide +kernel
theorem dX8_sizeFor_33 : decode cX8_sizeFor 33 = .ok (.iaload, 1) := by decide +kernel
theorem dX8_sizeFor_34 : decode cX8_sizeFor 34 = .ok (.istore_n 3, 1) := by decide +kernel
theorem dX8_sizeFor_35 : decode cX8_sizeFor 35 = .ok (.sipush (-10004), 3) := by decide +kernel
theorem dX8_sizeFor_38 : decode cX8_sizeFor 38 = .ok (.istore 4, 2) := by decide +kernel
theorem dX8_sizeFor_40 : decode cX8_sizeFor 40 = .ok (.bipush 20, 2) := by decide +kernel
theorem dX8_sizeFor_42 : decode cX8_sizeFor 42 = .ok (.istore 5, 2) := by decide +kernel
theorem dX8_sizeFor_44 : decode cX8_sizeFor 44 = .ok (.iload 5, 2) := by decide +kernel
theorem dX8_sizeFor_46 : decode cX8_sizeFor 46 = .ok (.sipush 400, 3) := by decide +kernel
theorem dX8_sizeFor_49 : decode cX8_sizeFor 49 = .ok (.if_icmp .gt 69, 3) := by decide +kernel
theorem dX8_sizeFor_52 : decode cX8_sizeFor 52 = .ok (.iload 4, 2) := by decide +kernel
theorem dX8_sizeFor_54 : decode cX8_sizeFor 54 = .ok (.sipush (-10004), 3) := by decide +kernel
theorem dX8_sizeFor_57 : decode cX8_sizeFor 57 = .ok (.if_icmp .ne 61, 3) := by decide +kernel
theorem dX8_sizeFor_60 : decode cX8_sizeFor 60 = .ok (.aload_n 0, 1) := by decide +kernel
theorem dX8_sizeFor_61 : decode cX8_sizeFor 61 = .ok (.getfield 7, 3) := by decide +kernel
theorem dX8_sizeFor_64 : decode cX8_sizeFor 64 = .ok (.iconst 2, 1) := by decide +kernel
theorem dX8_sizeFor_65 : decode cX8_sizeFor 65 = .ok (.iload_n 2, 1) := by decide +kernel
theorem dX8_sizeFor_66 : decode cX8_sizeFor 66 = .ok (.iadd, 1) := by decide +kernel
theorem dX8_sizeFor_67 : decode cX8_sizeFor 67 = .ok (.iload 5, 2) := by decide +kernel
theorem dX8_sizeFor_69 : decode cX8_sizeFor 69 = .ok (.iastore, 1) := by decide +kernel
theorem dX8_sizeFor_70 : decode cX8_sizeFor 70 = .ok (.iconst 0, 1) := by decide +kernel
theorem dX8_sizeFor_71 : decode cX8_sizeFor 71 = .ok (.istore 6, 2) := by decide +kernel
theorem dX8_sizeFor_73 : decode cX8_sizeFor 73 = .ok (.iload 6, 2) := by decide +kernel
theorem dX8_sizeFor_75 : decode cX8_sizeFor 75 = .ok (.aload_n 0, 1) := by decide +kernel
theorem dX8_sizeFor_76 : decode cX8_sizeFor 76 = .ok (.getfield 83, 3) := by decide +kernel
theorem dX8_sizeFor_79 : decode cX8_sizeFor 79 = .ok (.if_icmp .ge 33, 3) := by decide +kernel
theorem dX8_sizeFor_82 : decode cX8_sizeFor 82 = .ok (.aload_n 0, 1) := by decide +kernel
theorem dX8_sizeFor_83 : decode cX8_sizeFor 83 = .ok (.iload_n 1, 1) := by decide +kernel
theorem dX8_sizeFor_84 : decode cX8_sizeFor 84 = .ok (.aload_n 0, 1) := by decide +kernel
theorem dX8_sizeFor_85 : decode cX8_sizeFor 85 = .ok (.getfield 29, 3) := by decide +kernel
theorem dX8_sizeFor_88 : decode cX8_sizeFor 88 = .ok (.iload 6, 2) := by decide +kernel
theorem dX8_sizeFor_90 : decode cX8_sizeFor 90 = .ok (.iaload, 1) := by decide +kernel
theorem dX8_sizeFor_91 : decode cX8_sizeFor 91 = .ok (.invokevirtual 93, 3) := by decide +kernel
theorem dX8_sizeFor_94 : decode cX8_sizeFor 94 = .ok (.ifCond .eq 8, 3) := by decide +kernel
theorem dX8_sizeFor_97 : decode cX8_sizeFor 97 = .ok (.iload 5, 2) := by decide +kernel
theorem dX8_sizeFor_99 : decode cX8_sizeFor 99 = .ok (.goto 5, 3) := by decide +kernel
theorem dX8_sizeFor_102 : decode cX8_sizeFor 102 = .ok (.iload 4, 2) := by decide +kernel
theorem dX8_sizeFor_104 : decode cX8_sizeFor 104 = .ok (.istore 4, 2) := by decide +kernel
theorem dX8_sizeFor_106 : decode cX8_sizeFor 106 = .ok (.iinc 6 1, 3) := by decide +kernel
theorem dX8_sizeFor_109 : decode cX8_sizeFor 109 = .ok (.goto (-36), 3) := by decide +kernel
theorem dX8_sizeFor_112 : decode cX8_sizeFor 112 = .ok (.iinc 5 1, 3) := by decide +kernel
theorem dX8_sizeFor_115 : decode cX8_sizeFor 115 = .ok (.goto (-71), 3) := by decide +kernel
theorem dX8_sizeFor_118 : decode cX8_sizeFor 118 = .ok (.aload_n 0, 1) := by decide +kernel
theorem dX8_sizeFor_119 : decode cX8_sizeFor 119 = .ok (.getfield 7, 3) := by decide +kernel
theorem dX8_sizeFor_122 : decode cX8_sizeFor 122 = .ok (.iconst 2, 1) := by decide +kernel
theorem dX8_sizeFor_123 : decode cX8_sizeFor 123 = .ok (.iload_n 2, 1) := by decide +kernel
theorem dX8_sizeFor_124 : decode cX8_sizeFor 124 = .ok (.iadd, 1) := by decide +kernel
theorem dX8_sizeFor_125 : decode cX8_sizeFor 125 = .ok (.iload_n 3, 1) := by decide +kernel
theorem dX8_sizeFor_126 : decode cX8_sizeFor 126 = .ok (.iastore, 1) := by decide +kernel
theorem dX8_sizeFor_127 : decode cX8_sizeFor 127 = .ok (.iload 4, 2) := by decide +kernel
theorem dX8_sizeFor_129 : decode cX8_sizeFor 129 = .ok (.ireturn, 1) := by decide +kernel
theorem dX8_undo_0 : decode cX8_undo 0 = .ok (.aload_n 0, 1) := by decide +kernel
theorem dX8_undo_1 : decode cX8_undo 1 = .ok (.getfield 36, 3) := by decide +kernel
theorem dX8_undo_4 : decode cX8_undo 4 = .ok (.ifCond .ne 7, 3) := by decide +kernel
theorem dX8_undo_7 : decode cX8_undo 7 = .ok (.sipush (-10002), 3) := by decide +kernel
theorem dX8_undo_10 : decode cX8_undo 10 = .ok (.ireturn, 1) := by decide +kernel
theorem dX8_undo_11 : decode cX8_undo 11 = .ok (.aload_n 0, 1) := by decide +kernel
theorem dX8_undo_12 : decode cX8_undo 12 = .ok (.dup, 1) := by decide +kernel
theorem dX8_undo_13 : decode cX8_undo 13 = .ok (.getfield 36, 3) := by decide +kernel
theorem dX8_undo_16 : decode cX8_undo 16 = .ok (.iconst 1, 1) := by decide +kernel
theorem dX8_undo_17 : decode cX8_undo 17 = .ok (.isub, 1) := by decide +kernel
theorem dX8_undo_18 : decode cX8_undo 18 = .ok (.putfield 36, 3) := by decide +kernel
theorem dX8_undo_21 : decode cX8_undo 21 = .ok (.iconst 0, 1) := by decide +kernel
theorem dX8_undo_22 : decode cX8_undo 22 = .ok (.istore_n 1, 1) := by decide +kernel
theorem dX8_undo_23 : decode cX8_undo 23 = .ok (.iload_n 1, 1) := by decide +kernel
theorem dX8_undo_24 : decode cX8_undo 24 = .ok (.sipush 172, 3) := by decide +kernel
theorem dX8_undo_27 : decode cX8_undo 27 = .ok (.if_icmp .ge 30, 3) := by decide +kernel
theorem dX8_undo_30 : decode cX8_undo 30 = .ok (.aload_n 0, 1) := by decide +kernel
theorem dX8_undo_31 : decode cX8_undo 31 = .ok (.getfield 7, 3) := by decide +kernel
theorem dX8_undo_34 : decode cX8_undo 34 = .ok (.iload_n 1, 1) := by decide +kernel
theorem dX8_undo_35 : decode cX8_undo 35 = .ok (.aload_n 0, 1) := by decide +kernel
theorem dX8_undo_36 : decode cX8_undo 36 = .ok (.getfield 13, 3) := by decide +kernel
theorem dX8_undo_39 : decode cX8_undo 39 = .ok (.sipush 172, 3) := by decide +kernel
theorem dX8_undo_42 : decode cX8_undo 42 = .ok (.aload_n 0, 1) := by decide +kernel
theorem dX8_undo_43 : decode cX8_undo 43 = .ok (.getfield 36, 3) := by decide +kernel
theorem dX8_undo_46 : decode cX8_undo 46 = .ok (.imul, 1) := by decide +kernel
theorem dX8_undo_47 : decode cX8_undo 47 = .ok (.iload_n 1, 1) := by decide +kernel
theorem dX8_undo_48 : decode cX8_undo 48 = .ok (.iadd, 1) := by decide +kernel
theorem dX8_undo_49 : decode cX8_undo 49 = .ok (.iaload, 1) := by decide +kernel
theorem dX8_undo_50 : decode cX8_undo 50 = .ok (.iastore, 1) := by decide +kernel
theorem dX8_undo_51 : decode cX8_undo 51 = .ok (.iinc 1 1, 3) := by decide +kernel
theorem dX8_undo_54 : decode cX8_undo 54 = .ok (.goto (-31), 3) := by decide +kernel
theorem dX8_undo_57 : decode cX8_undo 57 = .ok (.aload_n 0, 1) := by decide +kernel
theorem dX8_undo_58 : decode cX8_undo 58 = .ok (.getfield 36, 3) := by decide +kernel
theorem dX8_undo_61 : decode cX8_undo 61 = .ok (.ireturn, 1) := by decide +kernel
theorem dX8_type_0 : decode cX8_type 0 = .ok (.iload_n 1, 1) := by decide +kernel
theorem dX8_type_1 : decode cX8_type 1 = .ok (.bipush 32, 2) := by decide +kernel
theorem dX8_type_3 : decode cX8_type 3 = .ok (.bipush 126, 2) := by decide +kernel
theorem dX8_type_5 : decode cX8_type 5 = .ok (.invokestatic 32, 3) := by decide +kernel
theorem dX8_type_8 : decode cX8_type 8 = .ok (.ifCond .ne 7, 3) := by decide +kernel
theorem dX8_type_11 : decode cX8_type 11 = .ok (.sipush (-10001), 3) := by decide +kernel
theorem dX8_type_14 : decode cX8_type 14 = .ok (.ireturn, 1) := by decide +kernel
theorem dX8_type_15 : decode cX8_type 15 = .ok (.aload_n 0, 1) := by decide +kernel
theorem dX8_type_16 : decode cX8_type 16 = .ok (.getfield 131, 3) := by decide +kernel
theorem dX8_type_19 : decode cX8_type 19 = .ok (.bipush 60, 2) := by decide +kernel
theorem dX8_type_21 : decode cX8_type 21 = .ok (.if_icmp .ne 7, 3) := by decide +kernel
theorem dX8_type_24 : decode cX8_type 24 = .ok (.sipush (-10003), 3) := by decide +kernel
theorem dX8_type_27 : decode cX8_type 27 = .ok (.ireturn, 1) := by decide +kernel
theorem dX8_type_28 : decode cX8_type 28 = .ok (.aload_n 0, 1) := by decide +kernel
theorem dX8_type_29 : decode cX8_type 29 = .ok (.getfield 16, 3) := by decide +kernel
theorem dX8_type_32 : decode cX8_type 32 = .ok (.aload_n 0, 1) := by decide +kernel
theorem dX8_type_33 : decode cX8_type 33 = .ok (.getfield 131, 3) := by decide +kernel
theorem dX8_type_36 : decode cX8_type 36 = .ok (.iload_n 1, 1) := by decide +kernel
theorem dX8_type_37 : decode cX8_type 37 = .ok (.i2c, 1) := by decide +kernel
theorem dX8_type_38 : decode cX8_type 38 = .ok (.castore, 1) := by decide +kernel
theorem dX8_type_39 : decode cX8_type 39 = .ok (.aload_n 0, 1) := by decide +kernel
theorem dX8_type_40 : decode cX8_type 40 = .ok (.dup, 1) := by decide +kernel
theorem dX8_type_41 : decode cX8_type 41 = .ok (.getfield 131, 3) := by decide +kernel
theorem dX8_type_44 : decode cX8_type 44 = .ok (.iconst 1, 1) := by decide +kernel
theorem dX8_type_45 : decode cX8_type 45 = .ok (.iadd, 1) := by decide +kernel
theorem dX8_type_46 : decode cX8_type 46 = .ok (.putfield 131, 3) := by decide +kernel
theorem dX8_type_49 : decode cX8_type 49 = .ok (.aload_n 0, 1) := by decide +kernel
theorem dX8_type_50 : decode cX8_type 50 = .ok (.getfield 131, 3) := by decide +kernel
theorem dX8_type_53 : decode cX8_type 53 = .ok (.ireturn, 1) := by decide +kernel
theorem dX8_clearText_0 : decode cX8_clearText 0 = .ok (.aload_n 0, 1) := by decide +kernel
theorem dX8_clearText_1 : decode cX8_clearText 1 = .ok (.getfield 131, 3) := by decide +kernel
theorem dX8_clearText_4 : decode cX8_clearText 4 = .ok (.istore_n 1, 1) := by decide +kernel
theorem dX8_clearText_5 : decode cX8_clearText 5 = .ok (.aload_n 0, 1) := by decide +kernel
theorem dX8_clearText_6 : decode cX8_clearText 6 = .ok (.iconst 0, 1) := by decide +kernel
theorem dX8_clearText_7 : decode cX8_clearText 7 = .ok (.putfield 131, 3) := by decide +kernel
theorem dX8_clearText_10 : decode cX8_clearText 10 = .ok (.iload_n 1, 1) := by decide +kernel
theorem dX8_clearText_11 : decode cX8_clearText 11 = .ok (.ireturn, 1) := by decide +kernel
theorem dX8_passes_0 : decode cX8_passes 0 = .ok (.aload_n 0, 1) := by decide +kernel
theorem dX8_passes_1 : decode cX8_passes 1 = .ok (.getfield 159, 3) := by decide +kernel
theorem dX8_passes_4 : decode cX8_passes 4 = .ok (.aload_n 0, 1) := by decide +kernel
theorem dX8_passes_5 : decode cX8_passes 5 = .ok (.getfield 131, 3) := by decide +kernel
theorem dX8_passes_8 : decode cX8_passes 8 = .ok (.if_icmp .ge 20, 3) := by decide +kernel
theorem dX8_passes_11 : decode cX8_passes 11 = .ok (.aload_n 0, 1) := by decide +kernel
theorem dX8_passes_12 : decode cX8_passes 12 = .ok (.getfield 16, 3) := by decide +kernel
theorem dX8_passes_15 : decode cX8_passes 15 = .ok (.aload_n 0, 1) := by decide +kernel
theorem dX8_passes_16 : decode cX8_passes 16 = .ok (.getfield 159, 3) := by decide +kernel
theorem dX8_passes_19 : decode cX8_passes 19 = .ok (.caload, 1) := by decide +kernel
theorem dX8_passes_20 : decode cX8_passes 20 = .ok (.iload_n 1, 1) := by decide +kernel
theorem dX8_passes_21 : decode cX8_passes 21 = .ok (.if_icmp .ne 7, 3) := by decide +kernel
theorem dX8_passes_24 : decode cX8_passes 24 = .ok (.iconst 1, 1) := by decide +kernel
theorem dX8_passes_25 : decode cX8_passes 25 = .ok (.goto 4, 3) := by decide +kernel
theorem dX8_passes_28 : decode cX8_passes 28 = .ok (.iconst 0, 1) := by decide +kernel
theorem dX8_passes_29 : decode cX8_passes 29 = .ok (.istore_n 2, 1) := by decide +kernel
theorem dX8_passes_30 : decode cX8_passes 30 = .ok (.aload_n 0, 1) := by decide +kernel
theorem dX8_passes_31 : decode cX8_passes 31 = .ok (.dup, 1) := by decide +kernel
theorem dX8_passes_32 : decode cX8_passes 32 = .ok (.getfield 159, 3) := by decide +kernel
theorem dX8_passes_35 : decode cX8_passes 35 = .ok (.iload_n 2, 1) := by decide +kernel
theorem dX8_passes_36 : decode cX8_passes 36 = .ok (.ifCond .eq 7, 3) := by decide +kernel
theorem dX8_passes_39 : decode cX8_passes 39 = .ok (.iconst 1, 1) := by decide +kernel
theorem dX8_passes_40 : decode cX8_passes 40 = .ok (.goto 4, 3) := by decide +kernel
theorem dX8_passes_43 : decode cX8_passes 43 = .ok (.iconst 0, 1) := by decide +kernel
theorem dX8_passes_44 : decode cX8_passes 44 = .ok (.iadd, 1) := by decide +kernel
theorem dX8_passes_45 : decode cX8_passes 45 = .ok (.putfield 159, 3) := by decide +kernel
theorem dX8_passes_48 : decode cX8_passes 48 = .ok (.iload_n 2, 1) := by decide +kernel
theorem dX8_passes_49 : decode cX8_passes 49 = .ok (.ireturn, 1) := by decide +kernel
theorem dX8_readsNumber_0 : decode cX8_readsNumber 0 = .ok (.aload_n 0, 1) := by decide +kernel
theorem dX8_readsNumber_1 : decode cX8_readsNumber 1 = .ok (.getfield 159, 3) := by decide +kernel
theorem dX8_readsNumber_4 : decode cX8_readsNumber 4 = .ok (.istore_n 2, 1) := by decide +kernel
theorem dX8_readsNumber_5 : decode cX8_readsNumber 5 = .ok (.aload_n 0, 1) := by decide +kernel
theorem dX8_readsNumber_6 : decode cX8_readsNumber 6 = .ok (.iconst 0, 1) := by decide +kernel
theorem dX8_readsNumber_7 : decode cX8_readsNumber 7 = .ok (.putfield 162, 3) := by decide +kernel
theorem dX8_readsNumber_10 : decode cX8_readsNumber 10 = .ok (.aload_n 0, 1) := by decide +kernel
theorem dX8_readsNumber_11 : decode cX8_readsNumber 11 = .ok (.getfield 159, 3) := by decide +kernel
theorem dX8_readsNumber_14 : decode cX8_readsNumber 14 = .ok (.aload_n 0, 1) := by decide +kernel
theorem dX8_readsNumber_15 : decode cX8_readsNumber 15 = .ok (.getfield 131, 3) := by decide +kernel
theorem dX8_readsNumber_18 : decode cX8_readsNumber 18 = .ok (.if_icmp .ge 69, 3) := by decide +kernel
theorem dX8_readsNumber_21 : decode cX8_readsNumber 21 = .ok (.aload_n 0, 1) := by decide +kernel
theorem dX8_readsNumber_22 : decode cX8_readsNumber 22 = .ok (.getfield 159, 3) := by decide +kernel
theorem dX8_readsNumber_25 : decode cX8_readsNumber 25 = .ok (.iload_n 2, 1) := by decide +kernel
theorem dX8_readsNumber_26 : decode cX8_readsNumber 26 = .ok (.iload_n 1, 1) := by decide +kernel
theorem dX8_readsNumber_27 : decode cX8_readsNumber 27 = .ok (.iadd, 1) := by decide +kernel
theorem dX8_readsNumber_28 : decode cX8_readsNumber 28 = .ok (.if_icmp .ge 59, 3) := by decide +kernel
theorem dX8_readsNumber_31 : decode cX8_readsNumber 31 = .ok (.aload_n 0, 1) := by decide +kernel
theorem dX8_readsNumber_32 : decode cX8_readsNumber 32 = .ok (.getfield 16, 3) := by decide +kernel
theorem dX8_readsNumber_35 : decode cX8_readsNumber 35 = .ok (.aload_n 0, 1) := by decide +kernel
theorem dX8_readsNumber_36 : decode cX8_readsNumber 36 = .ok (.getfield 159, 3) := by decide +kernel
theorem dX8_readsNumber_39 : decode cX8_readsNumber 39 = .ok (.caload, 1) := by decide +kernel
theorem dX8_readsNumber_40 : decode cX8_readsNumber 40 = .ok (.bipush 48, 2) := by decide +kernel
theorem dX8_readsNumber_42 : decode cX8_readsNumber 42 = .ok (.bipush 57, 2) := by decide +kernel
theorem dX8_readsNumber_44 : decode cX8_readsNumber 44 = .ok (.invokestatic 32, 3) := by decide +kernel
theorem dX8_readsNumber_47 : decode cX8_readsNumber 47 = .ok (.ifCond .eq 40, 3) := by decide +kernel
theorem dX8_readsNumber_50 : decode cX8_readsNumber 50 = .ok (.aload_n 0, 1) := by decide +kernel
theorem dX8_readsNumber_51 : decode cX8_readsNumber 51 = .ok (.bipush 10, 2) := by decide +kernel
theorem dX8_readsNumber_53 : decode cX8_readsNumber 53 = .ok (.aload_n 0, 1) := by decide +kernel
theorem dX8_readsNumber_54 : decode cX8_readsNumber 54 = .ok (.getfield 162, 3) := by decide +kernel
theorem dX8_readsNumber_57 : decode cX8_readsNumber 57 = .ok (.imul, 1) := by decide +kernel
theorem dX8_readsNumber_58 : decode cX8_readsNumber 58 = .ok (.aload_n 0, 1) := by decide +kernel
theorem dX8_readsNumber_59 : decode cX8_readsNumber 59 = .ok (.getfield 16, 3) := by decide +kernel
theorem dX8_readsNumber_62 : decode cX8_readsNumber 62 = .ok (.aload_n 0, 1) := by decide +kernel
theorem dX8_readsNumber_63 : decode cX8_readsNumber 63 = .ok (.getfield 159, 3) := by decide +kernel
theorem dX8_readsNumber_66 : decode cX8_readsNumber 66 = .ok (.caload, 1) := by decide +kernel
theorem dX8_readsNumber_67 : decode cX8_readsNumber 67 = .ok (.iadd, 1) := by decide +kernel
theorem dX8_readsNumber_68 : decode cX8_readsNumber 68 = .ok (.bipush 48, 2) := by decide +kernel
theorem dX8_readsNumber_70 : decode cX8_readsNumber 70 = .ok (.isub, 1) := by decide +kernel
theorem dX8_readsNumber_71 : decode cX8_readsNumber 71 = .ok (.putfield 162, 3) := by decide +kernel
theorem dX8_readsNumber_74 : decode cX8_readsNumber 74 = .ok (.aload_n 0, 1) := by decide +kernel
theorem dX8_readsNumber_75 : decode cX8_readsNumber 75 = .ok (.dup, 1) := by decide +kernel
theorem dX8_readsNumber_76 : decode cX8_readsNumber 76 = .ok (.getfield 159, 3) := by decide +kernel
theorem dX8_readsNumber_79 : decode cX8_readsNumber 79 = .ok (.iconst 1, 1) := by decide +kernel
theorem dX8_readsNumber_80 : decode cX8_readsNumber 80 = .ok (.iadd, 1) := by decide +kernel
theorem dX8_readsNumber_81 : decode cX8_readsNumber 81 = .ok (.putfield 159, 3) := by decide +kernel
theorem dX8_readsNumber_84 : decode cX8_readsNumber 84 = .ok (.goto (-74), 3) := by decide +kernel
theorem dX8_readsNumber_87 : decode cX8_readsNumber 87 = .ok (.aload_n 0, 1) := by decide +kernel
theorem dX8_readsNumber_88 : decode cX8_readsNumber 88 = .ok (.getfield 159, 3) := by decide +kernel
theorem dX8_readsNumber_91 : decode cX8_readsNumber 91 = .ok (.iload_n 2, 1) := by decide +kernel
theorem dX8_readsNumber_92 : decode cX8_readsNumber 92 = .ok (.if_icmp .le 7, 3) := by decide +kernel
theorem dX8_readsNumber_95 : decode cX8_readsNumber 95 = .ok (.iconst 1, 1) := by decide +kernel
theorem dX8_readsNumber_96 : decode cX8_readsNumber 96 = .ok (.goto 4, 3) := by decide +kernel
theorem dX8_readsNumber_99 : decode cX8_readsNumber 99 = .ok (.iconst 0, 1) := by decide +kernel
theorem dX8_readsNumber_100 : decode cX8_readsNumber 100 = .ok (.ireturn, 1) := by decide +kernel
theorem dX8_readsSigned_0 : decode cX8_readsSigned 0 = .ok (.aload_n 0, 1) := by decide +kernel
theorem dX8_readsSigned_1 : decode cX8_readsSigned 1 = .ok (.bipush 45, 2) := by decide +kernel
theorem dX8_readsSigned_3 : decode cX8_readsSigned 3 = .ok (.invokevirtual 165, 3) := by decide +kernel
theorem dX8_readsSigned_6 : decode cX8_readsSigned 6 = .ok (.istore_n 1, 1) := by decide +kernel
theorem dX8_readsSigned_7 : decode cX8_readsSigned 7 = .ok (.aload_n 0, 1) := by decide +kernel
theorem dX8_readsSigned_8 : decode cX8_readsSigned 8 = .ok (.iconst 3, 1) := by decide +kernel
theorem dX8_readsSigned_9 : decode cX8_readsSigned 9 = .ok (.invokevirtual 169, 3) := by decide +kernel
theorem dX8_readsSigned_12 : decode cX8_readsSigned 12 = .ok (.istore_n 2, 1) := by decide +kernel
theorem dX8_readsSigned_13 : decode cX8_readsSigned 13 = .ok (.aload_n 0, 1) := by decide +kernel
theorem dX8_readsSigned_14 : decode cX8_readsSigned 14 = .ok (.iload_n 1, 1) := by decide +kernel
theorem dX8_readsSigned_15 : decode cX8_readsSigned 15 = .ok (.ifCond .eq 11, 3) := by decide +kernel
theorem dX8_readsSigned_18 : decode cX8_readsSigned 18 = .ok (.aload_n 0, 1) := by decide +kernel
theorem dX8_readsSigned_19 : decode cX8_readsSigned 19 = .ok (.getfield 162, 3) := by decide +kernel
theorem dX8_readsSigned_22 : decode cX8_readsSigned 22 = .ok (.ineg, 1) := by decide +kernel
theorem dX8_readsSigned_23 : decode cX8_readsSigned 23 = .ok (.goto 7, 3) := by decide +kernel
theorem dX8_readsSigned_26 : decode cX8_readsSigned 26 = .ok (.aload_n 0, 1) := by decide +kernel
theorem dX8_readsSigned_27 : decode cX8_readsSigned 27 = .ok (.getfield 162, 3) := by decide +kernel
theorem dX8_readsSigned_30 : decode cX8_readsSigned 30 = .ok (.putfield 162, 3) := by decide +kernel
theorem dX8_readsSigned_33 : decode cX8_readsSigned 33 = .ok (.iload_n 2, 1) := by decide +kernel
theorem dX8_readsSigned_34 : decode cX8_readsSigned 34 = .ok (.ireturn, 1) := by decide +kernel
theorem dX8_readsForm_0 : decode cX8_readsForm 0 = .ok (.aload_n 0, 1) := by decide +kernel
theorem dX8_readsForm_1 : decode cX8_readsForm 1 = .ok (.aload_n 0, 1) := by decide +kernel
theorem dX8_readsForm_2 : decode cX8_readsForm 2 = .ok (.getfield 16, 3) := by decide +kernel
theorem dX8_readsForm_5 : decode cX8_readsForm 5 = .ok (.aload_n 0, 1) := by decide +kernel
theorem dX8_readsForm_6 : decode cX8_readsForm 6 = .ok (.getfield 159, 3) := by decide +kernel
theorem dX8_readsForm_9 : decode cX8_readsForm 9 = .ok (.caload, 1) := by decide +kernel
theorem dX8_readsForm_10 : decode cX8_readsForm 10 = .ok (.putfield 172, 3) := by decide +kernel
theorem dX8_readsForm_13 : decode cX8_readsForm 13 = .ok (.aload_n 0, 1) := by decide +kernel
theorem dX8_readsForm_14 : decode cX8_readsForm 14 = .ok (.dup, 1) := by decide +kernel
theorem dX8_readsForm_15 : decode cX8_readsForm 15 = .ok (.getfield 159, 3) := by decide +kernel
theorem dX8_readsForm_18 : decode cX8_readsForm 18 = .ok (.iconst 1, 1) := by decide +kernel
theorem dX8_readsForm_19 : decode cX8_readsForm 19 = .ok (.iadd, 1) := by decide +kernel
theorem dX8_readsForm_20 : decode cX8_readsForm 20 = .ok (.putfield 159, 3) := by decide +kernel
theorem dX8_readsForm_23 : decode cX8_readsForm 23 = .ok (.aload_n 0, 1) := by decide +kernel
theorem dX8_readsForm_24 : decode cX8_readsForm 24 = .ok (.getfield 172, 3) := by decide +kernel
theorem dX8_readsForm_27 : decode cX8_readsForm 27 = .ok (.bipush 116, 2) := by decide +kernel
theorem dX8_readsForm_29 : decode cX8_readsForm 29 = .ok (.if_icmp .ne 7, 3) := by decide +kernel
theorem dX8_readsForm_32 : decode cX8_readsForm 32 = .ok (.iconst 1, 1) := by decide +kernel
theorem dX8_readsForm_33 : decode cX8_readsForm 33 = .ok (.goto 4, 3) := by decide +kernel
theorem dX8_readsForm_36 : decode cX8_readsForm 36 = .ok (.iconst 0, 1) := by decide +kernel
theorem dX8_readsForm_37 : decode cX8_readsForm 37 = .ok (.istore_n 1, 1) := by decide +kernel
theorem dX8_readsForm_38 : decode cX8_readsForm 38 = .ok (.aload_n 0, 1) := by decide +kernel
theorem dX8_readsForm_39 : decode cX8_readsForm 39 = .ok (.getfield 172, 3) := by decide +kernel
theorem dX8_readsForm_42 : decode cX8_readsForm 42 = .ok (.bipush 111, 2) := by decide +kernel
theorem dX8_readsForm_44 : decode cX8_readsForm 44 = .ok (.if_icmp .eq 12, 3) := by decide +kernel
theorem dX8_readsForm_47 : decode cX8_readsForm 47 = .ok (.aload_n 0, 1) := by decide +kernel
theorem dX8_readsForm_48 : decode cX8_readsForm 48 = .ok (.getfield 172, 3) := by decide +kernel
theorem dX8_readsForm_51 : decode cX8_readsForm 51 = .ok (.bipush 99, 2) := by decide +kernel
theorem dX8_readsForm_53 : decode cX8_readsForm 53 = .ok (.if_icmp .ne 12, 3) := by decide +kernel
theorem dX8_readsForm_56 : decode cX8_readsForm 56 = .ok (.aload_n 0, 1) := by decide +kernel
theorem dX8_readsForm_57 : decode cX8_readsForm 57 = .ok (.iconst 2, 1) := by decide +kernel
theorem dX8_readsForm_58 : decode cX8_readsForm 58 = .ok (.invokevirtual 169, 3) := by decide +kernel
theorem dX8_readsForm_61 : decode cX8_readsForm 61 = .ok (.istore_n 1, 1) := by decide +kernel
theorem dX8_readsForm_62 : decode cX8_readsForm 62 = .ok (.goto 51, 3) := by decide +kernel
theorem dX8_readsForm_65 : decode cX8_readsForm 65 = .ok (.aload_n 0, 1) := by decide +kernel
theorem dX8_readsForm_66 : decode cX8_readsForm 66 = .ok (.getfield 172, 3) := by decide +kernel
theorem dX8_readsForm_69 : decode cX8_readsForm 69 = .ok (.bipush 118, 2) := by decide +kernel
theorem dX8_readsForm_71 : decode cX8_readsForm 71 = .ok (.if_icmp .ne 42, 3) := by decide +kernel
theorem dX8_readsForm_74 : decode cX8_readsForm 74 = .ok (.aload_n 0, 1) := by decide +kernel
theorem dX8_readsForm_75 : decode cX8_readsForm 75 = .ok (.invokevirtual 175, 3) := by decide +kernel
theorem dX8_readsForm_78 : decode cX8_readsForm 78 = .ok (.istore_n 1, 1) := by decide +kernel
theorem dX8_readsForm_79 : decode cX8_readsForm 79 = .ok (.aload_n 0, 1) := by decide +kernel
theorem dX8_readsForm_80 : decode cX8_readsForm 80 = .ok (.aload_n 0, 1) := by decide +kernel
theorem dX8_readsForm_81 : decode cX8_readsForm 81 = .ok (.getfield 162, 3) := by decide +kernel
theorem dX8_readsForm_84 : decode cX8_readsForm 84 = .ok (.putfield 179, 3) := by decide +kernel
theorem dX8_readsForm_87 : decode cX8_readsForm 87 = .ok (.iload_n 1, 1) := by decide +kernel
theorem dX8_readsForm_88 : decode cX8_readsForm 88 = .ok (.ifCond .eq 23, 3) := by decide +kernel
theorem dX8_readsForm_91 : decode cX8_readsForm 91 = .ok (.aload_n 0, 1) := by decide +kernel
theorem dX8_readsForm_92 : decode cX8_readsForm 92 = .ok (.bipush 44, 2) := by decide +kernel
theorem dX8_readsForm_94 : decode cX8_readsForm 94 = .ok (.invokevirtual 165, 3) := by decide +kernel
theorem dX8_readsForm_97 : decode cX8_readsForm 97 = .ok (.ifCond .eq 14, 3) := by decide +kernel
theorem dX8_readsForm_100 : decode cX8_readsForm 100 = .ok (.aload_n 0, 1) := by decide +kernel
theorem dX8_readsForm_101 : decode cX8_readsForm 101 = .ok (.invokevirtual 175, 3) := by decide +kernel
theorem dX8_readsForm_104 : decode cX8_readsForm 104 = .ok (.ifCond .eq 7, 3) := by decide +kernel
theorem dX8_readsForm_107 : decode cX8_readsForm 107 = .ok (.iconst 1, 1) := by decide +kernel
theorem dX8_readsForm_108 : decode cX8_readsForm 108 = .ok (.goto 4, 3) := by decide +kernel
theorem dX8_readsForm_111 : decode cX8_readsForm 111 = .ok (.iconst 0, 1) := by decide +kernel
theorem dX8_readsForm_112 : decode cX8_readsForm 112 = .ok (.istore_n 1, 1) := by decide +kernel
theorem dX8_readsForm_113 : decode cX8_readsForm 113 = .ok (.iload_n 1, 1) := by decide +kernel
theorem dX8_readsForm_114 : decode cX8_readsForm 114 = .ok (.ifCond .eq 16, 3) := by decide +kernel
theorem dX8_readsForm_117 : decode cX8_readsForm 117 = .ok (.aload_n 0, 1) := by decide +kernel
theorem dX8_readsForm_118 : decode cX8_readsForm 118 = .ok (.bipush 59, 2) := by decide +kernel
theorem dX8_readsForm_120 : decode cX8_readsForm 120 = .ok (.invokevirtual 165, 3) := by decide +kernel
theorem dX8_readsForm_123 : decode cX8_readsForm 123 = .ok (.ifCond .eq 7, 3) := by decide +kernel
theorem dX8_readsForm_126 : decode cX8_readsForm 126 = .ok (.iconst 1, 1) := by decide +kernel
theorem dX8_readsForm_127 : decode cX8_readsForm 127 = .ok (.goto 4, 3) := by decide +kernel
theorem dX8_readsForm_130 : decode cX8_readsForm 130 = .ok (.iconst 0, 1) := by decide +kernel
theorem dX8_readsForm_131 : decode cX8_readsForm 131 = .ok (.ireturn, 1) := by decide +kernel
theorem dX8_readsOrder_0 : decode cX8_readsOrder 0 = .ok (.aload_n 0, 1) := by decide +kernel
theorem dX8_readsOrder_1 : decode cX8_readsOrder 1 = .ok (.aload_n 0, 1) := by decide +kernel
theorem dX8_readsOrder_2 : decode cX8_readsOrder 2 = .ok (.invokevirtual 182, 3) := by decide +kernel
theorem dX8_readsOrder_5 : decode cX8_readsOrder 5 = .ok (.ifCond .eq 7, 3) := by decide +kernel
theorem dX8_readsOrder_8 : decode cX8_readsOrder 8 = .ok (.iconst 0, 1) := by decide +kernel
theorem dX8_readsOrder_9 : decode cX8_readsOrder 9 = .ok (.goto 4, 3) := by decide +kernel
theorem dX8_readsOrder_12 : decode cX8_readsOrder 12 = .ok (.iconst 1, 1) := by decide +kernel
theorem dX8_readsOrder_13 : decode cX8_readsOrder 13 = .ok (.putfield 185, 3) := by decide +kernel
theorem dX8_readsOrder_16 : decode cX8_readsOrder 16 = .ok (.aload_n 0, 1) := by decide +kernel
theorem dX8_readsOrder_17 : decode cX8_readsOrder 17 = .ok (.getfield 185, 3) := by decide +kernel
theorem dX8_readsOrder_20 : decode cX8_readsOrder 20 = .ok (.ifCond .ne 37, 3) := by decide +kernel
theorem dX8_readsOrder_23 : decode cX8_readsOrder 23 = .ok (.aload_n 0, 1) := by decide +kernel
theorem dX8_readsOrder_24 : decode cX8_readsOrder 24 = .ok (.getfield 172, 3) := by decide +kernel
theorem dX8_readsOrder_27 : decode cX8_readsOrder 27 = .ok (.bipush 111, 2) := by decide +kernel
theorem dX8_readsOrder_29 : decode cX8_readsOrder 29 = .ok (.if_icmp .eq 12, 3) := by decide +kernel
theorem dX8_readsOrder_32 : decode cX8_readsOrder 32 = .ok (.aload_n 0, 1) := by decide +kernel
theorem dX8_readsOrder_33 : decode cX8_readsOrder 33 = .ok (.getfield 172, 3) := by decide +kernel
theorem dX8_readsOrder_36 : decode cX8_readsOrder 36 = .ok (.bipush 99, 2) := by decide +kernel
theorem dX8_readsOrder_38 : decode cX8_readsOrder 38 = .ok (.if_icmp .ne 19, 3) := by decide +kernel
theorem dX8_readsOrder_41 : decode cX8_readsOrder 41 = .ok (.aload_n 0, 1) := by decide +kernel
theorem dX8_readsOrder_42 : decode cX8_readsOrder 42 = .ok (.aload_n 0, 1) := by decide +kernel
theorem dX8_readsOrder_43 : decode cX8_readsOrder 43 = .ok (.getfield 162, 3) := by decide +kernel
theorem dX8_readsOrder_46 : decode cX8_readsOrder 46 = .ok (.invokevirtual 138, 3) := by decide +kernel
theorem dX8_readsOrder_49 : decode cX8_readsOrder 49 = .ok (.ifCond .ne 8, 3) := by decide +kernel
theorem dX8_readsOrder_52 : decode cX8_readsOrder 52 = .ok (.aload_n 0, 1) := by decide +kernel
theorem dX8_readsOrder_53 : decode cX8_readsOrder 53 = .ok (.iconst 2, 1) := by decide +kernel
theorem dX8_readsOrder_54 : decode cX8_readsOrder 54 = .ok (.putfield 185, 3) := by decide +kernel
theorem dX8_readsOrder_57 : decode cX8_readsOrder 57 = .ok (.aload_n 0, 1) := by decide +kernel
theorem dX8_readsOrder_58 : decode cX8_readsOrder 58 = .ok (.getfield 185, 3) := by decide +kernel
theorem dX8_readsOrder_61 : decode cX8_readsOrder 61 = .ok (.ifCond .ne 7, 3) := by decide +kernel
theorem dX8_readsOrder_64 : decode cX8_readsOrder 64 = .ok (.iconst 1, 1) := by decide +kernel
theorem dX8_readsOrder_65 : decode cX8_readsOrder 65 = .ok (.goto 4, 3) := by decide +kernel
theorem dX8_readsOrder_68 : decode cX8_readsOrder 68 = .ok (.iconst 0, 1) := by decide +kernel
theorem dX8_readsOrder_69 : decode cX8_readsOrder 69 = .ok (.ireturn, 1) := by decide +kernel
theorem dX8_faulty_0 : decode cX8_faulty 0 = .ok (.aload_n 0, 1) := by decide +kernel
theorem dX8_faulty_1 : decode cX8_faulty 1 = .ok (.iconst 0, 1) := by decide +kernel
theorem dX8_faulty_2 : decode cX8_faulty 2 = .ok (.putfield 159, 3) := by decide +kernel
theorem dX8_faulty_5 : decode cX8_faulty 5 = .ok (.aload_n 0, 1) := by decide +kernel
theorem dX8_faulty_6 : decode cX8_faulty 6 = .ok (.getfield 159, 3) := by decide +kernel
theorem dX8_faulty_9 : decode cX8_faulty 9 = .ok (.aload_n 0, 1) := by decide +kernel
theorem dX8_faulty_10 : decode cX8_faulty 10 = .ok (.getfield 131, 3) := by decide +kernel
theorem dX8_faulty_13 : decode cX8_faulty 13 = .ok (.if_icmp .ge 20, 3) := by decide +kernel
theorem dX8_faulty_16 : decode cX8_faulty 16 = .ok (.aload_n 0, 1) := by decide +kernel
theorem dX8_faulty_17 : decode cX8_faulty 17 = .ok (.getfield 159, 3) := by decide +kernel
theorem dX8_faulty_20 : decode cX8_faulty 20 = .ok (.istore_n 1, 1) := by decide +kernel
theorem dX8_faulty_21 : decode cX8_faulty 21 = .ok (.aload_n 0, 1) := by decide +kernel
theorem dX8_faulty_22 : decode cX8_faulty 22 = .ok (.invokevirtual 188, 3) := by decide +kernel
theorem dX8_faulty_25 : decode cX8_faulty 25 = .ok (.ifCond .ne 5, 3) := by decide +kernel
theorem dX8_faulty_28 : decode cX8_faulty 28 = .ok (.iload_n 1, 1) := by decide +kernel
theorem dX8_faulty_29 : decode cX8_faulty 29 = .ok (.ireturn, 1) := by decide +kernel
theorem dX8_faulty_30 : decode cX8_faulty 30 = .ok (.goto (-25), 3) := by decide +kernel
theorem dX8_faulty_33 : decode cX8_faulty 33 = .ok (.sipush (-10004), 3) := by decide +kernel
theorem dX8_faulty_36 : decode cX8_faulty 36 = .ok (.ireturn, 1) := by decide +kernel
theorem dX8_fault_0 : decode cX8_fault 0 = .ok (.iload_n 1, 1) := by decide +kernel
theorem dX8_fault_1 : decode cX8_fault 1 = .ok (.iconst 0, 1) := by decide +kernel
theorem dX8_fault_2 : decode cX8_fault 2 = .ok (.iconst 1, 1) := by decide +kernel
theorem dX8_fault_3 : decode cX8_fault 3 = .ok (.invokestatic 32, 3) := by decide +kernel
theorem dX8_fault_6 : decode cX8_fault 6 = .ok (.ifCond .ne 7, 3) := by decide +kernel
theorem dX8_fault_9 : decode cX8_fault 9 = .ok (.sipush (-10001), 3) := by decide +kernel
theorem dX8_fault_12 : decode cX8_fault 12 = .ok (.ireturn, 1) := by decide +kernel
theorem dX8_fault_13 : decode cX8_fault 13 = .ok (.aload_n 0, 1) := by decide +kernel
theorem dX8_fault_14 : decode cX8_fault 14 = .ok (.invokevirtual 191, 3) := by decide +kernel
theorem dX8_fault_17 : decode cX8_fault 17 = .ok (.istore_n 2, 1) := by decide +kernel
theorem dX8_fault_18 : decode cX8_fault 18 = .ok (.iload_n 2, 1) := by decide +kernel
theorem dX8_fault_19 : decode cX8_fault 19 = .ok (.sipush (-10004), 3) := by decide +kernel
theorem dX8_fault_22 : decode cX8_fault 22 = .ok (.if_icmp .eq 7, 3) := by decide +kernel
theorem dX8_fault_25 : decode cX8_fault 25 = .ok (.iload_n 1, 1) := by decide +kernel
theorem dX8_fault_26 : decode cX8_fault 26 = .ok (.ifCond .ne 7, 3) := by decide +kernel
theorem dX8_fault_29 : decode cX8_fault 29 = .ok (.iload_n 2, 1) := by decide +kernel
theorem dX8_fault_30 : decode cX8_fault 30 = .ok (.goto 7, 3) := by decide +kernel
theorem dX8_fault_33 : decode cX8_fault 33 = .ok (.aload_n 0, 1) := by decide +kernel
theorem dX8_fault_34 : decode cX8_fault 34 = .ok (.getfield 185, 3) := by decide +kernel
theorem dX8_fault_37 : decode cX8_fault 37 = .ok (.ireturn, 1) := by decide +kernel
theorem dX8_carries_0 : decode cX8_carries 0 = .ok (.aload_n 0, 1) := by decide +kernel
theorem dX8_carries_1 : decode cX8_carries 1 = .ok (.getfield 172, 3) := by decide +kernel
theorem dX8_carries_4 : decode cX8_carries 4 = .ok (.bipush 111, 2) := by decide +kernel
theorem dX8_carries_6 : decode cX8_carries 6 = .ok (.if_icmp .eq 12, 3) := by decide +kernel
theorem dX8_carries_9 : decode cX8_carries 9 = .ok (.aload_n 0, 1) := by decide +kernel
theorem dX8_carries_10 : decode cX8_carries 10 = .ok (.getfield 172, 3) := by decide +kernel
theorem dX8_carries_13 : decode cX8_carries 13 = .ok (.bipush 99, 2) := by decide +kernel
theorem dX8_carries_15 : decode cX8_carries 15 = .ok (.if_icmp .ne 14, 3) := by decide +kernel
theorem dX8_carries_18 : decode cX8_carries 18 = .ok (.aload_n 0, 1) := by decide +kernel
theorem dX8_carries_19 : decode cX8_carries 19 = .ok (.aload_n 0, 1) := by decide +kernel
theorem dX8_carries_20 : decode cX8_carries 20 = .ok (.getfield 162, 3) := by decide +kernel
theorem dX8_carries_23 : decode cX8_carries 23 = .ok (.invokevirtual 144, 3) := by decide +kernel
theorem dX8_carries_26 : decode cX8_carries 26 = .ok (.goto 4, 3) := by decide +kernel
theorem dX8_carries_29 : decode cX8_carries 29 = .ok (.iconst (-1), 1) := by decide +kernel
theorem dX8_carries_30 : decode cX8_carries 30 = .ok (.istore_n 1, 1) := by decide +kernel
theorem dX8_carries_31 : decode cX8_carries 31 = .ok (.aload_n 0, 1) := by decide +kernel
theorem dX8_carries_32 : decode cX8_carries 32 = .ok (.getfield 172, 3) := by decide +kernel
theorem dX8_carries_35 : decode cX8_carries 35 = .ok (.lookupswitch 112 #[(99, 50), (111, 33), (118, 67)], 33) := by decide +kernel
theorem dX8_carries_68 : decode cX8_carries 68 = .ok (.iload_n 1, 1) := by decide +kernel
theorem dX8_carries_69 : decode cX8_carries 69 = .ok (.iconst (-1), 1) := by decide +kernel
theorem dX8_carries_70 : decode cX8_carries 70 = .ok (.if_icmp .eq 5, 3) := by decide +kernel
theorem dX8_carries_73 : decode cX8_carries 73 = .ok (.iconst 0, 1) := by decide +kernel
theorem dX8_carries_74 : decode cX8_carries 74 = .ok (.ireturn, 1) := by decide +kernel
theorem dX8_carries_75 : decode cX8_carries 75 = .ok (.aload_n 0, 1) := by decide +kernel
theorem dX8_carries_76 : decode cX8_carries 76 = .ok (.aload_n 0, 1) := by decide +kernel
theorem dX8_carries_77 : decode cX8_carries 77 = .ok (.getfield 162, 3) := by decide +kernel
theorem dX8_carries_80 : decode cX8_carries 80 = .ok (.invokevirtual 147, 3) := by decide +kernel
theorem dX8_carries_83 : decode cX8_carries 83 = .ok (.iconst 1, 1) := by decide +kernel
theorem dX8_carries_84 : decode cX8_carries 84 = .ok (.ireturn, 1) := by decide +kernel
theorem dX8_carries_85 : decode cX8_carries 85 = .ok (.iload_n 1, 1) := by decide +kernel
theorem dX8_carries_86 : decode cX8_carries 86 = .ok (.iconst (-1), 1) := by decide +kernel
theorem dX8_carries_87 : decode cX8_carries 87 = .ok (.if_icmp .ne 5, 3) := by decide +kernel
theorem dX8_carries_90 : decode cX8_carries 90 = .ok (.iconst 0, 1) := by decide +kernel
theorem dX8_carries_91 : decode cX8_carries 91 = .ok (.ireturn, 1) := by decide +kernel
theorem dX8_carries_92 : decode cX8_carries 92 = .ok (.aload_n 0, 1) := by decide +kernel
theorem dX8_carries_93 : decode cX8_carries 93 = .ok (.aload_n 0, 1) := by decide +kernel
theorem dX8_carries_94 : decode cX8_carries 94 = .ok (.getfield 162, 3) := by decide +kernel
theorem dX8_carries_97 : decode cX8_carries 97 = .ok (.invokevirtual 150, 3) := by decide +kernel
theorem dX8_carries_100 : decode cX8_carries 100 = .ok (.iconst 1, 1) := by decide +kernel
theorem dX8_carries_101 : decode cX8_carries 101 = .ok (.ireturn, 1) := by decide +kernel
theorem dX8_carries_102 : decode cX8_carries 102 = .ok (.aload_n 0, 1) := by decide +kernel
theorem dX8_carries_103 : decode cX8_carries 103 = .ok (.aload_n 0, 1) := by decide +kernel
theorem dX8_carries_104 : decode cX8_carries 104 = .ok (.getfield 179, 3) := by decide +kernel
theorem dX8_carries_107 : decode cX8_carries 107 = .ok (.aload_n 0, 1) := by decide +kernel
theorem dX8_carries_108 : decode cX8_carries 108 = .ok (.getfield 162, 3) := by decide +kernel
theorem dX8_carries_111 : decode cX8_carries 111 = .ok (.invokevirtual 122, 3) := by decide +kernel
theorem dX8_carries_114 : decode cX8_carries 114 = .ok (.ifCond .ne 5, 3) := by decide +kernel
theorem dX8_carries_117 : decode cX8_carries 117 = .ok (.iconst 0, 1) := by decide +kernel
theorem dX8_carries_118 : decode cX8_carries 118 = .ok (.ireturn, 1) := by decide +kernel
theorem dX8_carries_119 : decode cX8_carries 119 = .ok (.aload_n 0, 1) := by decide +kernel
theorem dX8_carries_120 : decode cX8_carries 120 = .ok (.getfield 7, 3) := by decide +kernel
theorem dX8_carries_123 : decode cX8_carries 123 = .ok (.iconst 0, 1) := by decide +kernel
theorem dX8_carries_124 : decode cX8_carries 124 = .ok (.dup2, 1) := by decide +kernel
theorem dX8_carries_125 : decode cX8_carries 125 = .ok (.iaload, 1) := by decide +kernel
theorem dX8_carries_126 : decode cX8_carries 126 = .ok (.aload_n 0, 1) := by decide +kernel
theorem dX8_carries_127 : decode cX8_carries 127 = .ok (.getfield 179, 3) := by decide +kernel
theorem dX8_carries_130 : decode cX8_carries 130 = .ok (.iadd, 1) := by decide +kernel
theorem dX8_carries_131 : decode cX8_carries 131 = .ok (.iastore, 1) := by decide +kernel
theorem dX8_carries_132 : decode cX8_carries 132 = .ok (.aload_n 0, 1) := by decide +kernel
theorem dX8_carries_133 : decode cX8_carries 133 = .ok (.getfield 7, 3) := by decide +kernel
theorem dX8_carries_136 : decode cX8_carries 136 = .ok (.iconst 1, 1) := by decide +kernel
theorem dX8_carries_137 : decode cX8_carries 137 = .ok (.dup2, 1) := by decide +kernel
theorem dX8_carries_138 : decode cX8_carries 138 = .ok (.iaload, 1) := by decide +kernel
theorem dX8_carries_139 : decode cX8_carries 139 = .ok (.aload_n 0, 1) := by decide +kernel
theorem dX8_carries_140 : decode cX8_carries 140 = .ok (.getfield 162, 3) := by decide +kernel
theorem dX8_carries_143 : decode cX8_carries 143 = .ok (.iadd, 1) := by decide +kernel
theorem dX8_carries_144 : decode cX8_carries 144 = .ok (.iastore, 1) := by decide +kernel
theorem dX8_carries_145 : decode cX8_carries 145 = .ok (.iconst 1, 1) := by decide +kernel
theorem dX8_carries_146 : decode cX8_carries 146 = .ok (.ireturn, 1) := by decide +kernel
theorem dX8_carries_147 : decode cX8_carries 147 = .ok (.aload_n 0, 1) := by decide +kernel
theorem dX8_carries_148 : decode cX8_carries 148 = .ok (.invokevirtual 153, 3) := by decide +kernel
theorem dX8_carries_151 : decode cX8_carries 151 = .ok (.pop, 1) := by decide +kernel
theorem dX8_carries_152 : decode cX8_carries 152 = .ok (.iconst 1, 1) := by decide +kernel
theorem dX8_carries_153 : decode cX8_carries 153 = .ok (.ireturn, 1) := by decide +kernel
theorem dX8_carry_0 : decode cX8_carry 0 = .ok (.aload_n 0, 1) := by decide +kernel
theorem dX8_carry_1 : decode cX8_carry 1 = .ok (.invokevirtual 191, 3) := by decide +kernel
theorem dX8_carry_4 : decode cX8_carry 4 = .ok (.sipush (-10004), 3) := by decide +kernel
theorem dX8_carry_7 : decode cX8_carry 7 = .ok (.if_icmp .eq 7, 3) := by decide +kernel
theorem dX8_carry_10 : decode cX8_carry 10 = .ok (.sipush (-10002), 3) := by decide +kernel
theorem dX8_carry_13 : decode cX8_carry 13 = .ok (.ireturn, 1) := by decide +kernel
theorem dX8_carry_14 : decode cX8_carry 14 = .ok (.aload_n 0, 1) := by decide +kernel
theorem dX8_carry_15 : decode cX8_carry 15 = .ok (.invokevirtual 115, 3) := by decide +kernel
theorem dX8_carry_18 : decode cX8_carry 18 = .ok (.iconst 0, 1) := by decide +kernel
theorem dX8_carry_19 : decode cX8_carry 19 = .ok (.istore_n 1, 1) := by decide +kernel
theorem dX8_carry_20 : decode cX8_carry 20 = .ok (.iconst 1, 1) := by decide +kernel
theorem dX8_carry_21 : decode cX8_carry 21 = .ok (.istore_n 2, 1) := by decide +kernel
theorem dX8_carry_22 : decode cX8_carry 22 = .ok (.aload_n 0, 1) := by decide +kernel
theorem dX8_carry_23 : decode cX8_carry 23 = .ok (.iconst 0, 1) := by decide +kernel
theorem dX8_carry_24 : decode cX8_carry 24 = .ok (.putfield 159, 3) := by decide +kernel
theorem dX8_carry_27 : decode cX8_carry 27 = .ok (.iload_n 2, 1) := by decide +kernel
theorem dX8_carry_28 : decode cX8_carry 28 = .ok (.ifCond .eq 39, 3) := by decide +kernel
theorem dX8_carry_31 : decode cX8_carry 31 = .ok (.aload_n 0, 1) := by decide +kernel
theorem dX8_carry_32 : decode cX8_carry 32 = .ok (.getfield 159, 3) := by decide +kernel
theorem dX8_carry_35 : decode cX8_carry 35 = .ok (.aload_n 0, 1) := by decide +kernel
theorem dX8_carry_36 : decode cX8_carry 36 = .ok (.getfield 131, 3) := by decide +kernel
theorem dX8_carry_39 : decode cX8_carry 39 = .ok (.if_icmp .ge 28, 3) := by decide +kernel
theorem dX8_carry_42 : decode cX8_carry 42 = .ok (.aload_n 0, 1) := by decide +kernel
theorem dX8_carry_43 : decode cX8_carry 43 = .ok (.invokevirtual 188, 3) := by decide +kernel
theorem dX8_carry_46 : decode cX8_carry 46 = .ok (.pop, 1) := by decide +kernel
theorem dX8_carry_47 : decode cX8_carry 47 = .ok (.aload_n 0, 1) := by decide +kernel
theorem dX8_carry_48 : decode cX8_carry 48 = .ok (.invokevirtual 194, 3) := by decide +kernel
theorem dX8_carry_51 : decode cX8_carry 51 = .ok (.istore_n 2, 1) := by decide +kernel
theorem dX8_carry_52 : decode cX8_carry 52 = .ok (.iload_n 1, 1) := by decide +kernel
theorem dX8_carry_53 : decode cX8_carry 53 = .ok (.iload_n 2, 1) := by decide +kernel
theorem dX8_carry_54 : decode cX8_carry 54 = .ok (.ifCond .eq 7, 3) := by decide +kernel
theorem dX8_carry_57 : decode cX8_carry 57 = .ok (.iconst 1, 1) := by decide +kernel
theorem dX8_carry_58 : decode cX8_carry 58 = .ok (.goto 4, 3) := by decide +kernel
theorem dX8_carry_61 : decode cX8_carry 61 = .ok (.iconst 0, 1) := by decide +kernel
theorem dX8_carry_62 : decode cX8_carry 62 = .ok (.iadd, 1) := by decide +kernel
theorem dX8_carry_63 : decode cX8_carry 63 = .ok (.istore_n 1, 1) := by decide +kernel
theorem dX8_carry_64 : decode cX8_carry 64 = .ok (.goto (-37), 3) := by decide +kernel
theorem dX8_carry_67 : decode cX8_carry 67 = .ok (.iload_n 1, 1) := by decide +kernel
theorem dX8_carry_68 : decode cX8_carry 68 = .ok (.ireturn, 1) := by decide +kernel
