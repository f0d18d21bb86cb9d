theorem dX0_init_0 : decode cX0_init 0 = .ok (.aload_n 0, 1) := by decide +kernel
theorem dX0_init_1 : decode cX0_init 1 = .ok (.invokespecial 3, 3) := by decide +kernel
theorem dX0_init_4 : decode cX0_init 4 = .ok (.aload_n 0, 1) := by decide +kernel
theorem dX0_init_5 : decode cX0_init 5 = .ok (.bipush 13, 2) := by decide +kernel
theorem dX0_init_7 : decode cX0_init 7 = .ok (.newarray .int, 2) := by decide +kernel
theorem dX0_init_9 : decode cX0_init 9 = .ok (.putfield 9, 3) := by decide +kernel
theorem dX0_init_12 : decode cX0_init 12 = .ok (.aload_n 0, 1) := by decide +kernel
theorem dX0_init_13 : decode cX0_init 13 = .ok (.bipush 13, 2) := by decide +kernel
theorem dX0_init_15 : decode cX0_init 15 = .ok (.newarray .long, 2) := by decide +kernel
theorem dX0_init_17 : decode cX0_init 17 = .ok (.putfield 15, 3) := by decide +kernel
theorem dX0_init_20 : decode cX0_init 20 = .ok (.aload_n 0, 1) := by decide +kernel
theorem dX0_init_21 : decode cX0_init 21 = .ok (.iconst 0, 1) := by decide +kernel
theorem dX0_init_22 : decode cX0_init 22 = .ok (.putfield 19, 3) := by decide +kernel
theorem dX0_init_25 : decode cX0_init 25 = .ok (.return_, 1) := by decide +kernel
theorem dX0_look_0 : decode cX0_look 0 = .ok (.aload_n 0, 1) := by decide +kernel
theorem dX0_look_1 : decode cX0_look 1 = .ok (.getfield 9, 3) := by decide +kernel
theorem dX0_look_4 : decode cX0_look 4 = .ok (.iconst 0, 1) := by decide +kernel
theorem dX0_look_5 : decode cX0_look 5 = .ok (.iconst 0, 1) := by decide +kernel
theorem dX0_look_6 : decode cX0_look 6 = .ok (.iastore, 1) := by decide +kernel
theorem dX0_look_7 : decode cX0_look 7 = .ok (.aload_n 0, 1) := by decide +kernel
theorem dX0_look_8 : decode cX0_look 8 = .ok (.getfield 15, 3) := by decide +kernel
theorem dX0_look_11 : decode cX0_look 11 = .ok (.iconst 0, 1) := by decide +kernel
theorem dX0_look_12 : decode cX0_look 12 = .ok (.lconst 1, 1) := by decide +kernel
theorem dX0_look_13 : decode cX0_look 13 = .ok (.lastore, 1) := by decide +kernel
theorem dX0_look_14 : decode cX0_look 14 = .ok (.aload_n 0, 1) := by decide +kernel
theorem dX0_look_15 : decode cX0_look 15 = .ok (.iconst 1, 1) := by decide +kernel
theorem dX0_look_16 : decode cX0_look 16 = .ok (.putfield 19, 3) := by decide +kernel
theorem dX0_look_19 : decode cX0_look 19 = .ok (.aload_n 1, 1) := by decide +kernel
theorem dX0_look_20 : decode cX0_look 20 = .ok (.iload_n 2, 1) := by decide +kernel
theorem dX0_look_21 : decode cX0_look 21 = .ok (.iload_n 3, 1) := by decide +kernel
theorem dX0_look_22 : decode cX0_look 22 = .ok (.iconst 0, 1) := by decide +kernel
theorem dX0_look_23 : decode cX0_look 23 = .ok (.invokevirtual 23, 3) := by decide +kernel
theorem dX0_look_26 : decode cX0_look 26 = .ok (.istore 4, 2) := by decide +kernel
theorem dX0_look_28 : decode cX0_look 28 = .ok (.iconst 1, 1) := by decide +kernel
theorem dX0_look_29 : decode cX0_look 29 = .ok (.istore 5, 2) := by decide +kernel
theorem dX0_look_31 : decode cX0_look 31 = .ok (.iload 5, 2) := by decide +kernel
theorem dX0_look_33 : decode cX0_look 33 = .ok (.aload_n 0, 1) := by decide +kernel
theorem dX0_look_34 : decode cX0_look 34 = .ok (.getfield 9, 3) := by decide +kernel
theorem dX0_look_37 : decode cX0_look 37 = .ok (.arraylength, 1) := by decide +kernel
theorem dX0_look_38 : decode cX0_look 38 = .ok (.if_icmp .ge 88, 3) := by decide +kernel
theorem dX0_look_41 : decode cX0_look 41 = .ok (.iload 4, 2) := by decide +kernel
theorem dX0_look_43 : decode cX0_look 43 = .ok (.iconst (-1), 1) := by decide +kernel
theorem dX0_look_44 : decode cX0_look 44 = .ok (.if_icmp .eq 82, 3) := by decide +kernel
theorem dX0_look_47 : decode cX0_look 47 = .ok (.aload_n 1, 1) := by decide +kernel
theorem dX0_look_48 : decode cX0_look 48 = .ok (.iload_n 2, 1) := by decide +kernel
theorem dX0_look_49 : decode cX0_look 49 = .ok (.iload 4, 2) := by decide +kernel
theorem dX0_look_51 : decode cX0_look 51 = .ok (.invokevirtual 29, 3) := by decide +kernel
theorem dX0_look_54 : decode cX0_look 54 = .ok (.istore 6, 2) := by decide +kernel
theorem dX0_look_56 : decode cX0_look 56 = .ok (.aload_n 0, 1) := by decide +kernel
theorem dX0_look_57 : decode cX0_look 57 = .ok (.getfield 9, 3) := by decide +kernel
theorem dX0_look_60 : decode cX0_look 60 = .ok (.iload 5, 2) := by decide +kernel
theorem dX0_look_62 : decode cX0_look 62 = .ok (.iload 4, 2) := by decide +kernel
theorem dX0_look_64 : decode cX0_look 64 = .ok (.iastore, 1) := by decide +kernel
theorem dX0_look_65 : decode cX0_look 65 = .ok (.aload_n 0, 1) := by decide +kernel
theorem dX0_look_66 : decode cX0_look 66 = .ok (.getfield 15, 3) := by decide +kernel
theorem dX0_look_69 : decode cX0_look 69 = .ok (.iload 5, 2) := by decide +kernel
theorem dX0_look_71 : decode cX0_look 71 = .ok (.aload_n 0, 1) := by decide +kernel
theorem dX0_look_72 : decode cX0_look 72 = .ok (.getfield 15, 3) := by decide +kernel
theorem dX0_look_75 : decode cX0_look 75 = .ok (.iload 5, 2) := by decide +kernel
theorem dX0_look_77 : decode cX0_look 77 = .ok (.iconst 1, 1) := by decide +kernel
theorem dX0_look_78 : decode cX0_look 78 = .ok (.isub, 1) := by decide +kernel
theorem dX0_look_79 : decode cX0_look 79 = .ok (.laload, 1) := by decide +kernel
theorem dX0_look_80 : decode cX0_look 80 = .ok (.iload 6, 2) := by decide +kernel
theorem dX0_look_82 : decode cX0_look 82 = .ok (.aload_n 1, 1) := by decide +kernel
theorem dX0_look_83 : decode cX0_look 83 = .ok (.iload_n 2, 1) := by decide +kernel
theorem dX0_look_84 : decode cX0_look 84 = .ok (.iload_n 3, 1) := by decide +kernel
theorem dX0_look_85 : decode cX0_look 85 = .ok (.iload 4, 2) := by decide +kernel
theorem dX0_look_87 : decode cX0_look 87 = .ok (.invokevirtual 33, 3) := by decide +kernel
theorem dX0_look_90 : decode cX0_look 90 = .ok (.isub, 1) := by decide +kernel
theorem dX0_look_91 : decode cX0_look 91 = .ok (.i2l, 1) := by decide +kernel
theorem dX0_look_92 : decode cX0_look 92 = .ok (.lmul, 1) := by decide +kernel
theorem dX0_look_93 : decode cX0_look 93 = .ok (.lastore, 1) := by decide +kernel
theorem dX0_look_94 : decode cX0_look 94 = .ok (.aload_n 0, 1) := by decide +kernel
theorem dX0_look_95 : decode cX0_look 95 = .ok (.iload 5, 2) := by decide +kernel
theorem dX0_look_97 : decode cX0_look 97 = .ok (.iload 6, 2) := by decide +kernel
theorem dX0_look_99 : decode cX0_look 99 = .ok (.invokevirtual 36, 3) := by decide +kernel
theorem dX0_look_102 : decode cX0_look 102 = .ok (.aload_n 0, 1) := by decide +kernel
theorem dX0_look_103 : decode cX0_look 103 = .ok (.iload 5, 2) := by decide +kernel
theorem dX0_look_105 : decode cX0_look 105 = .ok (.iconst 1, 1) := by decide +kernel
theorem dX0_look_106 : decode cX0_look 106 = .ok (.iadd, 1) := by decide +kernel
theorem dX0_look_107 : decode cX0_look 107 = .ok (.putfield 19, 3) := by decide +kernel
theorem dX0_look_110 : decode cX0_look 110 = .ok (.aload_n 1, 1) := by decide +kernel
theorem dX0_look_111 : decode cX0_look 111 = .ok (.iload_n 2, 1) := by decide +kernel
theorem dX0_look_112 : decode cX0_look 112 = .ok (.iload_n 3, 1) := by decide +kernel
theorem dX0_look_113 : decode cX0_look 113 = .ok (.iload 4, 2) := by decide +kernel
theorem dX0_look_115 : decode cX0_look 115 = .ok (.invokevirtual 23, 3) := by decide +kernel
theorem dX0_look_118 : decode cX0_look 118 = .ok (.istore 4, 2) := by decide +kernel
theorem dX0_look_120 : decode cX0_look 120 = .ok (.iinc 5 1, 3) := by decide +kernel
theorem dX0_look_123 : decode cX0_look 123 = .ok (.goto (-92), 3) := by decide +kernel
theorem dX0_look_126 : decode cX0_look 126 = .ok (.return_, 1) := by decide +kernel
theorem dX0_raiseAllBefore_0 : decode cX0_raiseAllBefore 0 = .ok (.iconst 0, 1) := by decide +kernel
theorem dX0_raiseAllBefore_1 : decode cX0_raiseAllBefore 1 = .ok (.istore_n 3, 1) := by decide +kernel
theorem dX0_raiseAllBefore_2 : decode cX0_raiseAllBefore 2 = .ok (.iload_n 3, 1) := by decide +kernel
theorem dX0_raiseAllBefore_3 : decode cX0_raiseAllBefore 3 = .ok (.iload_n 1, 1) := by decide +kernel
theorem dX0_raiseAllBefore_4 : decode cX0_raiseAllBefore 4 = .ok (.if_icmp .ge 20, 3) := by decide +kernel
theorem dX0_raiseAllBefore_7 : decode cX0_raiseAllBefore 7 = .ok (.aload_n 0, 1) := by decide +kernel
theorem dX0_raiseAllBefore_8 : decode cX0_raiseAllBefore 8 = .ok (.getfield 15, 3) := by decide +kernel
theorem dX0_raiseAllBefore_11 : decode cX0_raiseAllBefore 11 = .ok (.iload_n 3, 1) := by decide +kernel
theorem dX0_raiseAllBefore_12 : decode cX0_raiseAllBefore 12 = .ok (.dup2, 1) := by decide +kernel
theorem dX0_raiseAllBefore_13 : decode cX0_raiseAllBefore 13 = .ok (.laload, 1) := by decide +kernel
theorem dX0_raiseAllBefore_14 : decode cX0_raiseAllBefore 14 = .ok (.iload_n 2, 1) := by decide +kernel
theorem dX0_raiseAllBefore_15 : decode cX0_raiseAllBefore 15 = .ok (.i2l, 1) := by decide +kernel
theorem dX0_raiseAllBefore_16 : decode cX0_raiseAllBefore 16 = .ok (.lmul, 1) := by decide +kernel
theorem dX0_raiseAllBefore_17 : decode cX0_raiseAllBefore 17 = .ok (.lastore, 1) := by decide +kernel
theorem dX0_raiseAllBefore_18 : decode cX0_raiseAllBefore 18 = .ok (.iinc 3 1, 3) := by decide +kernel
theorem dX0_raiseAllBefore_21 : decode cX0_raiseAllBefore 21 = .ok (.goto (-19), 3) := by decide +kernel
theorem dX0_raiseAllBefore_24 : decode cX0_raiseAllBefore 24 = .ok (.return_, 1) := by decide +kernel
theorem dX0_whole_0 : decode cX0_whole 0 = .ok (.aload_n 0, 1) := by decide +kernel
theorem dX0_whole_1 : decode cX0_whole 1 = .ok (.getfield 15, 3) := by decide +kernel
theorem dX0_whole_4 : decode cX0_whole 4 = .ok (.iconst 0, 1) := by decide +kernel
theorem dX0_whole_5 : decode cX0_whole 5 = .ok (.laload, 1) := by decide +kernel
theorem dX0_whole_6 : decode cX0_whole 6 = .ok (.lreturn, 1) := by decide +kernel
theorem dX0_levelAt_0 : decode cX0_levelAt 0 = .ok (.iconst 0, 1) := by decide +kernel
theorem dX0_levelAt_1 : decode cX0_levelAt 1 = .ok (.istore_n 2, 1) := by decide +kernel
theorem dX0_levelAt_2 : decode cX0_levelAt 2 = .ok (.iconst 1, 1) := by decide +kernel
theorem dX0_levelAt_3 : decode cX0_levelAt 3 = .ok (.istore_n 3, 1) := by decide +kernel
theorem dX0_levelAt_4 : decode cX0_levelAt 4 = .ok (.iload_n 3, 1) := by decide +kernel
theorem dX0_levelAt_5 : decode cX0_levelAt 5 = .ok (.aload_n 0, 1) := by decide +kernel
theorem dX0_levelAt_6 : decode cX0_levelAt 6 = .ok (.getfield 19, 3) := by decide +kernel
theorem dX0_levelAt_9 : decode cX0_levelAt 9 = .ok (.if_icmp .ge 21, 3) := by decide +kernel
theorem dX0_levelAt_12 : decode cX0_levelAt 12 = .ok (.aload_n 0, 1) := by decide +kernel
theorem dX0_levelAt_13 : decode cX0_levelAt 13 = .ok (.getfield 9, 3) := by decide +kernel
theorem dX0_levelAt_16 : decode cX0_levelAt 16 = .ok (.iload_n 3, 1) := by decide +kernel
theorem dX0_levelAt_17 : decode cX0_levelAt 17 = .ok (.iaload, 1) := by decide +kernel
theorem dX0_levelAt_18 : decode cX0_levelAt 18 = .ok (.iload_n 1, 1) := by decide +kernel
theorem dX0_levelAt_19 : decode cX0_levelAt 19 = .ok (.if_icmp .gt 11, 3) := by decide +kernel
theorem dX0_levelAt_22 : decode cX0_levelAt 22 = .ok (.iload_n 3, 1) := by decide +kernel
theorem dX0_levelAt_23 : decode cX0_levelAt 23 = .ok (.istore_n 2, 1) := by decide +kernel
theorem dX0_levelAt_24 : decode cX0_levelAt 24 = .ok (.iinc 3 1, 3) := by decide +kernel
theorem dX0_levelAt_27 : decode cX0_levelAt 27 = .ok (.goto (-23), 3) := by decide +kernel
theorem dX0_levelAt_30 : decode cX0_levelAt 30 = .ok (.aload_n 0, 1) := by decide +kernel
theorem dX0_levelAt_31 : decode cX0_levelAt 31 = .ok (.getfield 15, 3) := by decide +kernel
theorem dX0_levelAt_34 : decode cX0_levelAt 34 = .ok (.iload_n 2, 1) := by decide +kernel
theorem dX0_levelAt_35 : decode cX0_levelAt 35 = .ok (.laload, 1) := by decide +kernel
theorem dX0_levelAt_36 : decode cX0_levelAt 36 = .ok (.lreturn, 1) := by decide +kernel
theorem dX0_firstAtMost_0 : decode cX0_firstAtMost 0 = .ok (.iconst 0, 1) := by decide +kernel
theorem dX0_firstAtMost_1 : decode cX0_firstAtMost 1 = .ok (.istore_n 3, 1) := by decide +kernel
theorem dX0_firstAtMost_2 : decode cX0_firstAtMost 2 = .ok (.iload_n 3, 1) := by decide +kernel
theorem dX0_firstAtMost_3 : decode cX0_firstAtMost 3 = .ok (.aload_n 0, 1) := by decide +kernel
theorem dX0_firstAtMost_4 : decode cX0_firstAtMost 4 = .ok (.getfield 19, 3) := by decide +kernel
theorem dX0_firstAtMost_7 : decode cX0_firstAtMost 7 = .ok (.if_icmp .ge 36, 3) := by decide +kernel
theorem dX0_firstAtMost_10 : decode cX0_firstAtMost 10 = .ok (.aload_n 0, 1) := by decide +kernel
theorem dX0_firstAtMost_11 : decode cX0_firstAtMost 11 = .ok (.getfield 15, 3) := by decide +kernel
theorem dX0_firstAtMost_14 : decode cX0_firstAtMost 14 = .ok (.iload_n 3, 1) := by decide +kernel
theorem dX0_firstAtMost_15 : decode cX0_firstAtMost 15 = .ok (.laload, 1) := by decide +kernel
theorem dX0_firstAtMost_16 : decode cX0_firstAtMost 16 = .ok (.iload_n 2, 1) := by decide +kernel
theorem dX0_firstAtMost_17 : decode cX0_firstAtMost 17 = .ok (.i2l, 1) := by decide +kernel
theorem dX0_firstAtMost_18 : decode cX0_firstAtMost 18 = .ok (.lmul, 1) := by decide +kernel
theorem dX0_firstAtMost_19 : decode cX0_firstAtMost 19 = .ok (.aload_n 0, 1) := by decide +kernel
theorem dX0_firstAtMost_20 : decode cX0_firstAtMost 20 = .ok (.invokevirtual 40, 3) := by decide +kernel
theorem dX0_firstAtMost_23 : decode cX0_firstAtMost 23 = .ok (.iload_n 1, 1) := by decide +kernel
theorem dX0_firstAtMost_24 : decode cX0_firstAtMost 24 = .ok (.i2l, 1) := by decide +kernel
theorem dX0_firstAtMost_25 : decode cX0_firstAtMost 25 = .ok (.lmul, 1) := by decide +kernel
theorem dX0_firstAtMost_26 : decode cX0_firstAtMost 26 = .ok (.lcmp, 1) := by decide +kernel
theorem dX0_firstAtMost_27 : decode cX0_firstAtMost 27 = .ok (.ifCond .gt 10, 3) := by decide +kernel
theorem dX0_firstAtMost_30 : decode cX0_firstAtMost 30 = .ok (.aload_n 0, 1) := by decide +kernel
theorem dX0_firstAtMost_31 : decode cX0_firstAtMost 31 = .ok (.getfield 9, 3) := by decide +kernel
theorem dX0_firstAtMost_34 : decode cX0_firstAtMost 34 = .ok (.iload_n 3, 1) := by decide +kernel
theorem dX0_firstAtMost_35 : decode cX0_firstAtMost 35 = .ok (.iaload, 1) := by decide +kernel
theorem dX0_firstAtMost_36 : decode cX0_firstAtMost 36 = .ok (.ireturn, 1) := by decide +kernel
theorem dX0_firstAtMost_37 : decode cX0_firstAtMost 37 = .ok (.iinc 3 1, 3) := by decide +kernel
theorem dX0_firstAtMost_40 : decode cX0_firstAtMost 40 = .ok (.goto (-38), 3) := by decide +kernel
theorem dX0_firstAtMost_43 : decode cX0_firstAtMost 43 = .ok (.iconst (-1), 1) := by decide +kernel
theorem dX0_firstAtMost_44 : decode cX0_firstAtMost 44 = .ok (.ireturn, 1) := by decide +kernel
theorem dX0_sumOf_0 : decode cX0_sumOf 0 = .ok (.lconst 0, 1) := by decide +kernel
theorem dX0_sumOf_1 : decode cX0_sumOf 1 = .ok (.lstore_n 3, 1) := by decide +kernel
theorem dX0_sumOf_2 : decode cX0_sumOf 2 = .ok (.iconst 0, 1) := by decide +kernel
theorem dX0_sumOf_3 : decode cX0_sumOf 3 = .ok (.istore 5, 2) := by decide +kernel
theorem dX0_sumOf_5 : decode cX0_sumOf 5 = .ok (.iload 5, 2) := by decide +kernel
theorem dX0_sumOf_7 : decode cX0_sumOf 7 = .ok (.aload_n 0, 1) := by decide +kernel
theorem dX0_sumOf_8 : decode cX0_sumOf 8 = .ok (.getfield 19, 3) := by decide +kernel
theorem dX0_sumOf_11 : decode cX0_sumOf 11 = .ok (.if_icmp .ge 73, 3) := by decide +kernel
theorem dX0_sumOf_14 : decode cX0_sumOf 14 = .ok (.iload 5, 2) := by decide +kernel
theorem dX0_sumOf_16 : decode cX0_sumOf 16 = .ok (.iconst 1, 1) := by decide +kernel
theorem dX0_sumOf_17 : decode cX0_sumOf 17 = .ok (.iadd, 1) := by decide +kernel
theorem dX0_sumOf_18 : decode cX0_sumOf 18 = .ok (.aload_n 0, 1) := by decide +kernel
theorem dX0_sumOf_19 : decode cX0_sumOf 19 = .ok (.getfield 19, 3) := by decide +kernel
theorem dX0_sumOf_22 : decode cX0_sumOf 22 = .ok (.if_icmp .ge 15, 3) := by decide +kernel
theorem dX0_sumOf_25 : decode cX0_sumOf 25 = .ok (.aload_n 0, 1) := by decide +kernel
theorem dX0_sumOf_26 : decode cX0_sumOf 26 = .ok (.getfield 9, 3) := by decide +kernel
theorem dX0_sumOf_29 : decode cX0_sumOf 29 = .ok (.iload 5, 2) := by decide +kernel
theorem dX0_sumOf_31 : decode cX0_sumOf 31 = .ok (.iconst 1, 1) := by decide +kernel
theorem dX0_sumOf_32 : decode cX0_sumOf 32 = .ok (.iadd, 1) := by decide +kernel
theorem dX0_sumOf_33 : decode cX0_sumOf 33 = .ok (.iaload, 1) := by decide +kernel
theorem dX0_sumOf_34 : decode cX0_sumOf 34 = .ok (.goto 4, 3) := by decide +kernel
theorem dX0_sumOf_37 : decode cX0_sumOf 37 = .ok (.iload_n 2, 1) := by decide +kernel
theorem dX0_sumOf_38 : decode cX0_sumOf 38 = .ok (.istore 6, 2) := by decide +kernel
theorem dX0_sumOf_40 : decode cX0_sumOf 40 = .ok (.iload 6, 2) := by decide +kernel
theorem dX0_sumOf_42 : decode cX0_sumOf 42 = .ok (.iload_n 2, 1) := by decide +kernel
theorem dX0_sumOf_43 : decode cX0_sumOf 43 = .ok (.invokestatic 44, 3) := by decide +kernel
theorem dX0_sumOf_46 : decode cX0_sumOf 46 = .ok (.aload_n 0, 1) := by decide +kernel
theorem dX0_sumOf_47 : decode cX0_sumOf 47 = .ok (.getfield 9, 3) := by decide +kernel
theorem dX0_sumOf_50 : decode cX0_sumOf 50 = .ok (.iload 5, 2) := by decide +kernel
theorem dX0_sumOf_52 : decode cX0_sumOf 52 = .ok (.iaload, 1) := by decide +kernel
theorem dX0_sumOf_53 : decode cX0_sumOf 53 = .ok (.iload_n 1, 1) := by decide +kernel
theorem dX0_sumOf_54 : decode cX0_sumOf 54 = .ok (.invokestatic 49, 3) := by decide +kernel
theorem dX0_sumOf_57 : decode cX0_sumOf 57 = .ok (.isub, 1) := by decide +kernel
theorem dX0_sumOf_58 : decode cX0_sumOf 58 = .ok (.istore 7, 2) := by decide +kernel
theorem dX0_sumOf_60 : decode cX0_sumOf 60 = .ok (.lload_n 3, 1) := by decide +kernel
theorem dX0_sumOf_61 : decode cX0_sumOf 61 = .ok (.aload_n 0, 1) := by decide +kernel
theorem dX0_sumOf_62 : decode cX0_sumOf 62 = .ok (.getfield 15, 3) := by decide +kernel
theorem dX0_sumOf_65 : decode cX0_sumOf 65 = .ok (.iload 5, 2) := by decide +kernel
theorem dX0_sumOf_67 : decode cX0_sumOf 67 = .ok (.laload, 1) := by decide +kernel
theorem dX0_sumOf_68 : decode cX0_sumOf 68 = .ok (.iconst 0, 1) := by decide +kernel
theorem dX0_sumOf_69 : decode cX0_sumOf 69 = .ok (.iload 7, 2) := by decide +kernel
theorem dX0_sumOf_71 : decode cX0_sumOf 71 = .ok (.invokestatic 49, 3) := by decide +kernel
theorem dX0_sumOf_74 : decode cX0_sumOf 74 = .ok (.i2l, 1) := by decide +kernel
theorem dX0_sumOf_75 : decode cX0_sumOf 75 = .ok (.lmul, 1) := by decide +kernel
theorem dX0_sumOf_76 : decode cX0_sumOf 76 = .ok (.ladd, 1) := by decide +kernel
theorem dX0_sumOf_77 : decode cX0_sumOf 77 = .ok (.lstore_n 3, 1) := by decide +kernel
theorem dX0_sumOf_78 : decode cX0_sumOf 78 = .ok (.iinc 5 1, 3) := by decide +kernel
theorem dX0_sumOf_81 : decode cX0_sumOf 81 = .ok (.goto (-76), 3) := by decide +kernel
theorem dX0_sumOf_84 : decode cX0_sumOf 84 = .ok (.lload_n 3, 1) := by decide +kernel
theorem dX0_sumOf_85 : decode cX0_sumOf 85 = .ok (.lreturn, 1) := by decide +kernel
theorem dX0_bestRunIn_0 : decode cX0_bestRunIn 0 = .ok (.iconst 0, 1) := by decide +kernel
theorem dX0_bestRunIn_1 : decode cX0_bestRunIn 1 = .ok (.istore_n 3, 1) := by decide +kernel
theorem dX0_bestRunIn_2 : decode cX0_bestRunIn 2 = .ok (.lconst 0, 1) := by decide +kernel
theorem dX0_bestRunIn_3 : decode cX0_bestRunIn 3 = .ok (.lstore 4, 2) := by decide +kernel
theorem dX0_bestRunIn_5 : decode cX0_bestRunIn 5 = .ok (.lconst 0, 1) := by decide +kernel
theorem dX0_bestRunIn_6 : decode cX0_bestRunIn 6 = .ok (.lstore 6, 2) := by decide +kernel
theorem dX0_bestRunIn_8 : decode cX0_bestRunIn 8 = .ok (.iconst 0, 1) := by decide +kernel
theorem dX0_bestRunIn_9 : decode cX0_bestRunIn 9 = .ok (.istore 8, 2) := by decide +kernel
theorem dX0_bestRunIn_11 : decode cX0_bestRunIn 11 = .ok (.iload 8, 2) := by decide +kernel
theorem dX0_bestRunIn_13 : decode cX0_bestRunIn 13 = .ok (.aload_n 0, 1) := by decide +kernel
theorem dX0_bestRunIn_14 : decode cX0_bestRunIn 14 = .ok (.getfield 19, 3) := by decide +kernel
theorem dX0_bestRunIn_17 : decode cX0_bestRunIn 17 = .ok (.if_icmp .ge 129, 3) := by decide +kernel
theorem dX0_bestRunIn_20 : decode cX0_bestRunIn 20 = .ok (.aload_n 0, 1) := by decide +kernel
theorem dX0_bestRunIn_21 : decode cX0_bestRunIn 21 = .ok (.getfield 9, 3) := by decide +kernel
theorem dX0_bestRunIn_24 : decode cX0_bestRunIn 24 = .ok (.iload 8, 2) := by decide +kernel
theorem dX0_bestRunIn_26 : decode cX0_bestRunIn 26 = .ok (.iaload, 1) := by decide +kernel
theorem dX0_bestRunIn_27 : decode cX0_bestRunIn 27 = .ok (.iload_n 1, 1) := by decide +kernel
theorem dX0_bestRunIn_28 : decode cX0_bestRunIn 28 = .ok (.if_icmp .ge 118, 3) := by decide +kernel
theorem dX0_bestRunIn_31 : decode cX0_bestRunIn 31 = .ok (.aload_n 0, 1) := by decide +kernel
theorem dX0_bestRunIn_32 : decode cX0_bestRunIn 32 = .ok (.getfield 15, 3) := by decide +kernel
theorem dX0_bestRunIn_35 : decode cX0_bestRunIn 35 = .ok (.iload 8, 2) := by decide +kernel
theorem dX0_bestRunIn_37 : decode cX0_bestRunIn 37 = .ok (.laload, 1) := by decide +kernel
theorem dX0_bestRunIn_38 : decode cX0_bestRunIn 38 = .ok (.lconst 0, 1) := by decide +kernel
theorem dX0_bestRunIn_39 : decode cX0_bestRunIn 39 = .ok (.lcmp, 1) := by decide +kernel
theorem dX0_bestRunIn_40 : decode cX0_bestRunIn 40 = .ok (.ifCond .le 106, 3) := by decide +kernel
theorem dX0_bestRunIn_43 : decode cX0_bestRunIn 43 = .ok (.aload_n 0, 1) := by decide +kernel
theorem dX0_bestRunIn_44 : decode cX0_bestRunIn 44 = .ok (.aload_n 0, 1) := by decide +kernel
theorem dX0_bestRunIn_45 : decode cX0_bestRunIn 45 = .ok (.getfield 9, 3) := by decide +kernel
theorem dX0_bestRunIn_48 : decode cX0_bestRunIn 48 = .ok (.iload 8, 2) := by decide +kernel
theorem dX0_bestRunIn_50 : decode cX0_bestRunIn 50 = .ok (.iaload, 1) := by decide +kernel
theorem dX0_bestRunIn_51 : decode cX0_bestRunIn 51 = .ok (.iload_n 1, 1) := by decide +kernel
theorem dX0_bestRunIn_52 : decode cX0_bestRunIn 52 = .ok (.invokevirtual 52, 3) := by decide +kernel
theorem dX0_bestRunIn_55 : decode cX0_bestRunIn 55 = .ok (.lstore 9, 2) := by decide +kernel
theorem dX0_bestRunIn_57 : decode cX0_bestRunIn 57 = .ok (.lload 9, 2) := by decide +kernel
theorem dX0_bestRunIn_59 : decode cX0_bestRunIn 59 = .ok (.aload_n 0, 1) := by decide +kernel
theorem dX0_bestRunIn_60 : decode cX0_bestRunIn 60 = .ok (.getfield 15, 3) := by decide +kernel
theorem dX0_bestRunIn_63 : decode cX0_bestRunIn 63 = .ok (.iload 8, 2) := by decide +kernel
theorem dX0_bestRunIn_65 : decode cX0_bestRunIn 65 = .ok (.laload, 1) := by decide +kernel
theorem dX0_bestRunIn_66 : decode cX0_bestRunIn 66 = .ok (.iconst 1, 1) := by decide +kernel
theorem dX0_bestRunIn_67 : decode cX0_bestRunIn 67 = .ok (.invokestatic 56, 3) := by decide +kernel
theorem dX0_bestRunIn_70 : decode cX0_bestRunIn 70 = .ok (.lstore 11, 2) := by decide +kernel
theorem dX0_bestRunIn_72 : decode cX0_bestRunIn 72 = .ok (.ldc2_w 60, 3) := by decide +kernel
theorem dX0_bestRunIn_75 : decode cX0_bestRunIn 75 = .ok (.lload 9, 2) := by decide +kernel
theorem dX0_bestRunIn_77 : decode cX0_bestRunIn 77 = .ok (.aload_n 0, 1) := by decide +kernel
theorem dX0_bestRunIn_78 : decode cX0_bestRunIn 78 = .ok (.getfield 15, 3) := by decide +kernel
theorem dX0_bestRunIn_81 : decode cX0_bestRunIn 81 = .ok (.iload 8, 2) := by decide +kernel
theorem dX0_bestRunIn_83 : decode cX0_bestRunIn 83 = .ok (.laload, 1) := by decide +kernel
theorem dX0_bestRunIn_84 : decode cX0_bestRunIn 84 = .ok (.iconst 0, 1) := by decide +kernel
theorem dX0_bestRunIn_85 : decode cX0_bestRunIn 85 = .ok (.invokestatic 56, 3) := by decide +kernel
theorem dX0_bestRunIn_88 : decode cX0_bestRunIn 88 = .ok (.lmul, 1) := by decide +kernel
theorem dX0_bestRunIn_89 : decode cX0_bestRunIn 89 = .ok (.aload_n 0, 1) := by decide +kernel
theorem dX0_bestRunIn_90 : decode cX0_bestRunIn 90 = .ok (.getfield 9, 3) := by decide +kernel
theorem dX0_bestRunIn_93 : decode cX0_bestRunIn 93 = .ok (.iload 8, 2) := by decide +kernel
theorem dX0_bestRunIn_95 : decode cX0_bestRunIn 95 = .ok (.iaload, 1) := by decide +kernel
theorem dX0_bestRunIn_96 : decode cX0_bestRunIn 96 = .ok (.iload_n 2, 1) := by decide +kernel
theorem dX0_bestRunIn_97 : decode cX0_bestRunIn 97 = .ok (.imul, 1) := by decide +kernel
theorem dX0_bestRunIn_98 : decode cX0_bestRunIn 98 = .ok (.i2l, 1) := by decide +kernel
theorem dX0_bestRunIn_99 : decode cX0_bestRunIn 99 = .ok (.lload 11, 2) := by decide +kernel
theorem dX0_bestRunIn_101 : decode cX0_bestRunIn 101 = .ok (.lmul, 1) := by decide +kernel
theorem dX0_bestRunIn_102 : decode cX0_bestRunIn 102 = .ok (.lsub, 1) := by decide +kernel
theorem dX0_bestRunIn_103 : decode cX0_bestRunIn 103 = .ok (.lstore 13, 2) := by decide +kernel
theorem dX0_bestRunIn_105 : decode cX0_bestRunIn 105 = .ok (.iload 8, 2) := by decide +kernel
theorem dX0_bestRunIn_107 : decode cX0_bestRunIn 107 = .ok (.ifCond .eq 17, 3) := by decide +kernel
theorem dX0_bestRunIn_110 : decode cX0_bestRunIn 110 = .ok (.lload 13, 2) := by decide +kernel
theorem dX0_bestRunIn_112 : decode cX0_bestRunIn 112 = .ok (.lload 6, 2) := by decide +kernel
theorem dX0_bestRunIn_114 : decode cX0_bestRunIn 114 = .ok (.lmul, 1) := by decide +kernel
theorem dX0_bestRunIn_115 : decode cX0_bestRunIn 115 = .ok (.lload 4, 2) := by decide +kernel
theorem dX0_bestRunIn_117 : decode cX0_bestRunIn 117 = .ok (.lload 11, 2) := by decide +kernel
theorem dX0_bestRunIn_119 : decode cX0_bestRunIn 119 = .ok (.lmul, 1) := by decide +kernel
theorem dX0_bestRunIn_120 : decode cX0_bestRunIn 120 = .ok (.lcmp, 1) := by decide +kernel
theorem dX0_bestRunIn_121 : decode cX0_bestRunIn 121 = .ok (.ifCond .le 19, 3) := by decide +kernel
theorem dX0_bestRunIn_124 : decode cX0_bestRunIn 124 = .ok (.aload_n 0, 1) := by decide +kernel
theorem dX0_bestRunIn_125 : decode cX0_bestRunIn 125 = .ok (.getfield 9, 3) := by decide +kernel
theorem dX0_bestRunIn_128 : decode cX0_bestRunIn 128 = .ok (.iload 8, 2) := by decide +kernel
theorem dX0_bestRunIn_130 : decode cX0_bestRunIn 130 = .ok (.iaload, 1) := by decide +kernel
theorem dX0_bestRunIn_131 : decode cX0_bestRunIn 131 = .ok (.istore_n 3, 1) := by decide +kernel
theorem dX0_bestRunIn_132 : decode cX0_bestRunIn 132 = .ok (.lload 13, 2) := by decide +kernel
theorem dX0_bestRunIn_134 : decode cX0_bestRunIn 134 = .ok (.lstore 4, 2) := by decide +kernel
theorem dX0_bestRunIn_136 : decode cX0_bestRunIn 136 = .ok (.lload 11, 2) := by decide +kernel
theorem dX0_bestRunIn_138 : decode cX0_bestRunIn 138 = .ok (.lstore 6, 2) := by decide +kernel
theorem dX0_bestRunIn_140 : decode cX0_bestRunIn 140 = .ok (.iinc 8 1, 3) := by decide +kernel
theorem dX0_bestRunIn_143 : decode cX0_bestRunIn 143 = .ok (.goto (-132), 3) := by decide +kernel
theorem dX0_bestRunIn_146 : decode cX0_bestRunIn 146 = .ok (.iload_n 3, 1) := by decide +kernel
theorem dX0_bestRunIn_147 : decode cX0_bestRunIn 147 = .ok (.ireturn, 1) := by decide +kernel
theorem dX1_init_0 : decode cX1_init 0 = .ok (.aload_n 0, 1) := by decide +kernel
theorem dX1_init_1 : decode cX1_init 1 = .ok (.invokespecial 3, 3) := by decide +kernel
theorem dX1_init_4 : decode cX1_init 4 = .ok (.aload_n 0, 1) := by decide +kernel
theorem dX1_init_5 : decode cX1_init 5 = .ok (.bipush 10, 2) := by decide +kernel
theorem dX1_init_7 : decode cX1_init 7 = .ok (.newarray .int, 2) := by decide +kernel
theorem dX1_init_9 : decode cX1_init 9 = .ok (.putfield 9, 3) := by decide +kernel
theorem dX1_init_12 : decode cX1_init 12 = .ok (.aload_n 0, 1) := by decide +kernel
theorem dX1_init_13 : decode cX1_init 13 = .ok (.bipush 10, 2) := by decide +kernel
theorem dX1_init_15 : decode cX1_init 15 = .ok (.newarray .int, 2) := by decide +kernel
theorem dX1_init_17 : decode cX1_init 17 = .ok (.putfield 15, 3) := by decide +kernel
theorem dX1_init_20 : decode cX1_init 20 = .ok (.aload_n 0, 1) := by decide +kernel
theorem dX1_init_21 : decode cX1_init 21 = .ok (.iconst 0, 1) := by decide +kernel
theorem dX1_init_22 : decode cX1_init 22 = .ok (.putfield 18, 3) := by decide +kernel
theorem dX1_init_25 : decode cX1_init 25 = .ok (.return_, 1) := by decide +kernel
theorem dX2_init_0 : decode cX2_init 0 = .ok (.aload_n 0, 1) := by decide +kernel
theorem dX2_init_1 : decode cX2_init 1 = .ok (.invokespecial 3, 3) := by decide +kernel
theorem dX2_init_4 : decode cX2_init 4 = .ok (.aload_n 0, 1) := by decide +kernel
theorem dX2_init_5 : decode cX2_init 5 = .ok (.bipush 12, 2) := by decide +kernel
theorem dX2_init_7 : decode cX2_init 7 = .ok (.newarray .int, 2) := by decide +kernel
theorem dX2_init_9 : decode cX2_init 9 = .ok (.putfield 9, 3) := by decide +kernel
theorem dX2_init_12 : decode cX2_init 12 = .ok (.aload_n 0, 1) := by decide +kernel
theorem dX2_init_13 : decode cX2_init 13 = .ok (.bipush 12, 2) := by decide +kernel
theorem dX2_init_15 : decode cX2_init 15 = .ok (.newarray .int, 2) := by decide +kernel
theorem dX2_init_17 : decode cX2_init 17 = .ok (.putfield 15, 3) := by decide +kernel
theorem dX2_init_20 : decode cX2_init 20 = .ok (.aload_n 0, 1) := by decide +kernel
theorem dX2_init_21 : decode cX2_init 21 = .ok (.bipush 12, 2) := by decide +kernel
theorem dX2_init_23 : decode cX2_init 23 = .ok (.newarray .int, 2) := by decide +kernel
theorem dX2_init_25 : decode cX2_init 25 = .ok (.putfield 18, 3) := by decide +kernel
theorem dX2_init_28 : decode cX2_init 28 = .ok (.aload_n 0, 1) := by decide +kernel
theorem dX2_init_29 : decode cX2_init 29 = .ok (.iconst 0, 1) := by decide +kernel
theorem dX2_init_30 : decode cX2_init 30 = .ok (.putfield 21, 3) := by decide +kernel
theorem dX2_init_33 : decode cX2_init 33 = .ok (.return_, 1) := by decide +kernel
theorem dX2_has_0 : decode cX2_has 0 = .ok (.iload_n 1, 1) := by decide +kernel
theorem dX2_has_1 : decode cX2_has 1 = .ok (.iconst 0, 1) := by decide +kernel
theorem dX2_has_2 : decode cX2_has 2 = .ok (.aload_n 0, 1) := by decide +kernel
theorem dX2_has_3 : decode cX2_has 3 = .ok (.getfield 21, 3) := by decide +kernel
theorem dX2_has_6 : decode cX2_has 6 = .ok (.iconst 1, 1) := by decide +kernel
theorem dX2_has_7 : decode cX2_has 7 = .ok (.isub, 1) := by decide +kernel
theorem dX2_has_8 : decode cX2_has 8 = .ok (.invokestatic 25, 3) := by decide +kernel
theorem dX2_has_11 : decode cX2_has 11 = .ok (.ireturn, 1) := by decide +kernel
theorem dX2_put_0 : decode cX2_put 0 = .ok (.aload_n 0, 1) := by decide +kernel
theorem dX2_put_1 : decode cX2_put 1 = .ok (.iload_n 1, 1) := by decide +kernel
theorem dX2_put_2 : decode cX2_put 2 = .ok (.invokevirtual 29, 3) := by decide +kernel
theorem dX2_put_5 : decode cX2_put 5 = .ok (.ifCond .eq 25, 3) := by decide +kernel
theorem dX2_put_8 : decode cX2_put 8 = .ok (.aload_n 0, 1) := by decide +kernel
theorem dX2_put_9 : decode cX2_put 9 = .ok (.getfield 9, 3) := by decide +kernel
theorem dX2_put_12 : decode cX2_put 12 = .ok (.iload_n 1, 1) := by decide +kernel
theorem dX2_put_13 : decode cX2_put 13 = .ok (.iload_n 2, 1) := by decide +kernel
theorem dX2_put_14 : decode cX2_put 14 = .ok (.iastore, 1) := by decide +kernel
theorem dX2_put_15 : decode cX2_put 15 = .ok (.aload_n 0, 1) := by decide +kernel
theorem dX2_put_16 : decode cX2_put 16 = .ok (.getfield 15, 3) := by decide +kernel
theorem dX2_put_19 : decode cX2_put 19 = .ok (.iload_n 1, 1) := by decide +kernel
theorem dX2_put_20 : decode cX2_put 20 = .ok (.iload_n 3, 1) := by decide +kernel
theorem dX2_put_21 : decode cX2_put 21 = .ok (.iastore, 1) := by decide +kernel
theorem dX2_put_22 : decode cX2_put 22 = .ok (.aload_n 0, 1) := by decide +kernel
theorem dX2_put_23 : decode cX2_put 23 = .ok (.getfield 18, 3) := by decide +kernel
theorem dX2_put_26 : decode cX2_put 26 = .ok (.iload_n 1, 1) := by decide +kernel
theorem dX2_put_27 : decode cX2_put 27 = .ok (.iload 4, 2) := by decide +kernel
theorem dX2_put_29 : decode cX2_put 29 = .ok (.iastore, 1) := by decide +kernel
theorem dX2_put_30 : decode cX2_put 30 = .ok (.return_, 1) := by decide +kernel
theorem dX2_isIn_0 : decode cX2_isIn 0 = .ok (.iload_n 2, 1) := by decide +kernel
theorem dX2_isIn_1 : decode cX2_isIn 1 = .ok (.aload_n 0, 1) := by decide +kernel
theorem dX2_isIn_2 : decode cX2_isIn 2 = .ok (.getfield 9, 3) := by decide +kernel
theorem dX2_isIn_5 : decode cX2_isIn 5 = .ok (.iload_n 1, 1) := by decide +kernel
theorem dX2_isIn_6 : decode cX2_isIn 6 = .ok (.iaload, 1) := by decide +kernel
theorem dX2_isIn_7 : decode cX2_isIn 7 = .ok (.ishr, 1) := by decide +kernel
theorem dX2_isIn_8 : decode cX2_isIn 8 = .ok (.iconst 1, 1) := by decide +kernel
theorem dX2_isIn_9 : decode cX2_isIn 9 = .ok (.iand, 1) := by decide +kernel
theorem dX2_isIn_10 : decode cX2_isIn 10 = .ok (.iconst 1, 1) := by decide +kernel
theorem dX2_isIn_11 : decode cX2_isIn 11 = .ok (.if_icmp .ne 7, 3) := by decide +kernel
theorem dX2_isIn_14 : decode cX2_isIn 14 = .ok (.iconst 1, 1) := by decide +kernel
theorem dX2_isIn_15 : decode cX2_isIn 15 = .ok (.goto 4, 3) := by decide +kernel
theorem dX2_isIn_18 : decode cX2_isIn 18 = .ok (.iconst 0, 1) := by decide +kernel
theorem dX2_isIn_19 : decode cX2_isIn 19 = .ok (.ireturn, 1) := by decide +kernel
theorem dX2_atRisk_0 : decode cX2_atRisk 0 = .ok (.iconst 0, 1) := by decide +kernel
theorem dX2_atRisk_1 : decode cX2_atRisk 1 = .ok (.istore_n 3, 1) := by decide +kernel
theorem dX2_atRisk_2 : decode cX2_atRisk 2 = .ok (.iconst 0, 1) := by decide +kernel
theorem dX2_atRisk_3 : decode cX2_atRisk 3 = .ok (.istore 4, 2) := by decide +kernel
theorem dX2_atRisk_5 : decode cX2_atRisk 5 = .ok (.iload 4, 2) := by decide +kernel
theorem dX2_atRisk_7 : decode cX2_atRisk 7 = .ok (.aload_n 0, 1) := by decide +kernel
theorem dX2_atRisk_8 : decode cX2_atRisk 8 = .ok (.getfield 21, 3) := by decide +kernel
theorem dX2_atRisk_11 : decode cX2_atRisk 11 = .ok (.if_icmp .ge 33, 3) := by decide +kernel
theorem dX2_atRisk_14 : decode cX2_atRisk 14 = .ok (.aload_n 0, 1) := by decide +kernel
theorem dX2_atRisk_15 : decode cX2_atRisk 15 = .ok (.iload 4, 2) := by decide +kernel
theorem dX2_atRisk_17 : decode cX2_atRisk 17 = .ok (.iload_n 1, 1) := by decide +kernel
theorem dX2_atRisk_18 : decode cX2_atRisk 18 = .ok (.invokevirtual 33, 3) := by decide +kernel
theorem dX2_atRisk_21 : decode cX2_atRisk 21 = .ok (.ifCond .eq 17, 3) := by decide +kernel
theorem dX2_atRisk_24 : decode cX2_atRisk 24 = .ok (.aload_n 0, 1) := by decide +kernel
theorem dX2_atRisk_25 : decode cX2_atRisk 25 = .ok (.getfield 15, 3) := by decide +kernel
theorem dX2_atRisk_28 : decode cX2_atRisk 28 = .ok (.iload 4, 2) := by decide +kernel
theorem dX2_atRisk_30 : decode cX2_atRisk 30 = .ok (.iaload, 1) := by decide +kernel
theorem dX2_atRisk_31 : decode cX2_atRisk 31 = .ok (.iload_n 2, 1) := by decide +kernel
theorem dX2_atRisk_32 : decode cX2_atRisk 32 = .ok (.if_icmp .lt 6, 3) := by decide +kernel
theorem dX2_atRisk_35 : decode cX2_atRisk 35 = .ok (.iinc 3 1, 3) := by decide +kernel
theorem dX2_atRisk_38 : decode cX2_atRisk 38 = .ok (.iinc 4 1, 3) := by decide +kernel
theorem dX2_atRisk_41 : decode cX2_atRisk 41 = .ok (.goto (-36), 3) := by decide +kernel
theorem dX2_atRisk_44 : decode cX2_atRisk 44 = .ok (.iload_n 3, 1) := by decide +kernel
theorem dX2_atRisk_45 : decode cX2_atRisk 45 = .ok (.ireturn, 1) := by decide +kernel
theorem dX2_hasFailed_0 : decode cX2_hasFailed 0 = .ok (.aload_n 0, 1) := by decide +kernel
theorem dX2_hasFailed_1 : decode cX2_hasFailed 1 = .ok (.iload_n 1, 1) := by decide +kernel
theorem dX2_hasFailed_2 : decode cX2_hasFailed 2 = .ok (.iload_n 2, 1) := by decide +kernel
theorem dX2_hasFailed_3 : decode cX2_hasFailed 3 = .ok (.invokevirtual 33, 3) := by decide +kernel
theorem dX2_hasFailed_6 : decode cX2_hasFailed 6 = .ok (.ifCond .eq 32, 3) := by decide +kernel
theorem dX2_hasFailed_9 : decode cX2_hasFailed 9 = .ok (.aload_n 0, 1) := by decide +kernel
theorem dX2_hasFailed_10 : decode cX2_hasFailed 10 = .ok (.getfield 18, 3) := by decide +kernel
theorem dX2_hasFailed_13 : decode cX2_hasFailed 13 = .ok (.iload_n 1, 1) := by decide +kernel
theorem dX2_hasFailed_14 : decode cX2_hasFailed 14 = .ok (.iaload, 1) := by decide +kernel
theorem dX2_hasFailed_15 : decode cX2_hasFailed 15 = .ok (.iconst (-1), 1) := by decide +kernel
theorem dX2_hasFailed_16 : decode cX2_hasFailed 16 = .ok (.if_icmp .eq 22, 3) := by decide +kernel
theorem dX2_hasFailed_19 : decode cX2_hasFailed 19 = .ok (.iload_n 3, 1) := by decide +kernel
theorem dX2_hasFailed_20 : decode cX2_hasFailed 20 = .ok (.iconst (-1), 1) := by decide +kernel
theorem dX2_hasFailed_21 : decode cX2_hasFailed 21 = .ok (.if_icmp .eq 13, 3) := by decide +kernel
theorem dX2_hasFailed_24 : decode cX2_hasFailed 24 = .ok (.aload_n 0, 1) := by decide +kernel
theorem dX2_hasFailed_25 : decode cX2_hasFailed 25 = .ok (.getfield 18, 3) := by decide +kernel
theorem dX2_hasFailed_28 : decode cX2_hasFailed 28 = .ok (.iload_n 1, 1) := by decide +kernel
theorem dX2_hasFailed_29 : decode cX2_hasFailed 29 = .ok (.iaload, 1) := by decide +kernel
theorem dX2_hasFailed_30 : decode cX2_hasFailed 30 = .ok (.iload_n 3, 1) := by decide +kernel
theorem dX2_hasFailed_31 : decode cX2_hasFailed 31 = .ok (.if_icmp .ne 7, 3) := by decide +kernel
theorem dX2_hasFailed_34 : decode cX2_hasFailed 34 = .ok (.iconst 1, 1) := by decide +kernel
theorem dX2_hasFailed_35 : decode cX2_hasFailed 35 = .ok (.goto 4, 3) := by decide +kernel
theorem dX2_hasFailed_38 : decode cX2_hasFailed 38 = .ok (.iconst 0, 1) := by decide +kernel
theorem dX2_hasFailed_39 : decode cX2_hasFailed 39 = .ok (.ireturn, 1) := by decide +kernel
theorem dX2_failedAt_0 : decode cX2_failedAt 0 = .ok (.iconst 0, 1) := by decide +kernel
theorem dX2_failedAt_1 : decode cX2_failedAt 1 = .ok (.istore 4, 2) := by decide +kernel
theorem dX2_failedAt_3 : decode cX2_failedAt 3 = .ok (.iconst 0, 1) := by decide +kernel
theorem dX2_failedAt_4 : decode cX2_failedAt 4 = .ok (.istore 5, 2) := by decide +kernel
theorem dX2_failedAt_6 : decode cX2_failedAt 6 = .ok (.iload 5, 2) := by decide +kernel
theorem dX2_failedAt_8 : decode cX2_failedAt 8 = .ok (.aload_n 0, 1) := by decide +kernel
theorem dX2_failedAt_9 : decode cX2_failedAt 9 = .ok (.getfield 21, 3) := by decide +kernel
theorem dX2_failedAt_12 : decode cX2_failedAt 12 = .ok (.if_icmp .ge 34, 3) := by decide +kernel
theorem dX2_failedAt_15 : decode cX2_failedAt 15 = .ok (.aload_n 0, 1) := by decide +kernel
theorem dX2_failedAt_16 : decode cX2_failedAt 16 = .ok (.iload 5, 2) := by decide +kernel
theorem dX2_failedAt_18 : decode cX2_failedAt 18 = .ok (.iload_n 1, 1) := by decide +kernel
theorem dX2_failedAt_19 : decode cX2_failedAt 19 = .ok (.iload_n 2, 1) := by decide +kernel
theorem dX2_failedAt_20 : decode cX2_failedAt 20 = .ok (.invokevirtual 37, 3) := by decide +kernel
theorem dX2_failedAt_23 : decode cX2_failedAt 23 = .ok (.ifCond .eq 17, 3) := by decide +kernel
theorem dX2_failedAt_26 : decode cX2_failedAt 26 = .ok (.aload_n 0, 1) := by decide +kernel
theorem dX2_failedAt_27 : decode cX2_failedAt 27 = .ok (.getfield 15, 3) := by decide +kernel
theorem dX2_failedAt_30 : decode cX2_failedAt 30 = .ok (.iload 5, 2) := by decide +kernel
theorem dX2_failedAt_32 : decode cX2_failedAt 32 = .ok (.iaload, 1) := by decide +kernel
theorem dX2_failedAt_33 : decode cX2_failedAt 33 = .ok (.iload_n 3, 1) := by decide +kernel
theorem dX2_failedAt_34 : decode cX2_failedAt 34 = .ok (.if_icmp .ne 6, 3) := by decide +kernel
theorem dX2_failedAt_37 : decode cX2_failedAt 37 = .ok (.iinc 4 1, 3) := by decide +kernel
theorem dX2_failedAt_40 : decode cX2_failedAt 40 = .ok (.iinc 5 1, 3) := by decide +kernel
theorem dX2_failedAt_43 : decode cX2_failedAt 43 = .ok (.goto (-37), 3) := by decide +kernel
theorem dX2_failedAt_46 : decode cX2_failedAt 46 = .ok (.iload 4, 2) := by decide +kernel
theorem dX2_failedAt_48 : decode cX2_failedAt 48 = .ok (.ireturn, 1) := by decide +kernel
theorem dX2_nextFailure_0 : decode cX2_nextFailure 0 = .ok (.iconst (-1), 1) := by decide +kernel
theorem dX2_nextFailure_1 : decode cX2_nextFailure 1 = .ok (.istore 4, 2) := by decide +kernel
theorem dX2_nextFailure_3 : decode cX2_nextFailure 3 = .ok (.iconst 0, 1) := by decide +kernel
theorem dX2_nextFailure_4 : decode cX2_nextFailure 4 = .ok (.istore 5, 2) := by decide +kernel
theorem dX2_nextFailure_6 : decode cX2_nextFailure 6 = .ok (.iload 5, 2) := by decide +kernel
theorem dX2_nextFailure_8 : decode cX2_nextFailure 8 = .ok (.aload_n 0, 1) := by decide +kernel
theorem dX2_nextFailure_9 : decode cX2_nextFailure 9 = .ok (.getfield 21, 3) := by decide +kernel
theorem dX2_nextFailure_12 : decode cX2_nextFailure 12 = .ok (.if_icmp .ge 58, 3) := by decide +kernel
theorem dX2_nextFailure_15 : decode cX2_nextFailure 15 = .ok (.aload_n 0, 1) := by decide +kernel
theorem dX2_nextFailure_16 : decode cX2_nextFailure 16 = .ok (.iload 5, 2) := by decide +kernel
theorem dX2_nextFailure_18 : decode cX2_nextFailure 18 = .ok (.iload_n 1, 1) := by decide +kernel
theorem dX2_nextFailure_19 : decode cX2_nextFailure 19 = .ok (.iload_n 2, 1) := by decide +kernel
theorem dX2_nextFailure_20 : decode cX2_nextFailure 20 = .ok (.invokevirtual 37, 3) := by decide +kernel
theorem dX2_nextFailure_23 : decode cX2_nextFailure 23 = .ok (.ifCond .eq 41, 3) := by decide +kernel
theorem dX2_nextFailure_26 : decode cX2_nextFailure 26 = .ok (.aload_n 0, 1) := by decide +kernel
theorem dX2_nextFailure_27 : decode cX2_nextFailure 27 = .ok (.getfield 15, 3) := by decide +kernel
theorem dX2_nextFailure_30 : decode cX2_nextFailure 30 = .ok (.iload 5, 2) := by decide +kernel
theorem dX2_nextFailure_32 : decode cX2_nextFailure 32 = .ok (.iaload, 1) := by decide +kernel
theorem dX2_nextFailure_33 : decode cX2_nextFailure 33 = .ok (.iload_n 3, 1) := by decide +kernel
theorem dX2_nextFailure_34 : decode cX2_nextFailure 34 = .ok (.if_icmp .le 30, 3) := by decide +kernel
theorem dX2_nextFailure_37 : decode cX2_nextFailure 37 = .ok (.iload 4, 2) := by decide +kernel
theorem dX2_nextFailure_39 : decode cX2_nextFailure 39 = .ok (.iconst (-1), 1) := by decide +kernel
theorem dX2_nextFailure_40 : decode cX2_nextFailure 40 = .ok (.if_icmp .eq 15, 3) := by decide +kernel
theorem dX2_nextFailure_43 : decode cX2_nextFailure 43 = .ok (.aload_n 0, 1) := by decide +kernel
theorem dX2_nextFailure_44 : decode cX2_nextFailure 44 = .ok (.getfield 15, 3) := by decide +kernel
theorem dX2_nextFailure_47 : decode cX2_nextFailure 47 = .ok (.iload 5, 2) := by decide +kernel
theorem dX2_nextFailure_49 : decode cX2_nextFailure 49 = .ok (.iaload, 1) := by decide +kernel
theorem dX2_nextFailure_50 : decode cX2_nextFailure 50 = .ok (.iload 4, 2) := by decide +kernel
theorem dX2_nextFailure_52 : decode cX2_nextFailure 52 = .ok (.if_icmp .ge 12, 3) := by decide +kernel
theorem dX2_nextFailure_55 : decode cX2_nextFailure 55 = .ok (.aload_n 0, 1) := by decide +kernel
theorem dX2_nextFailure_56 : decode cX2_nextFailure 56 = .ok (.getfield 15, 3) := by decide +kernel
theorem dX2_nextFailure_59 : decode cX2_nextFailure 59 = .ok (.iload 5, 2) := by decide +kernel
theorem dX2_nextFailure_61 : decode cX2_nextFailure 61 = .ok (.iaload, 1) := by decide +kernel
theorem dX2_nextFailure_62 : decode cX2_nextFailure 62 = .ok (.istore 4, 2) := by decide +kernel
theorem dX2_nextFailure_64 : decode cX2_nextFailure 64 = .ok (.iinc 5 1, 3) := by decide +kernel
theorem dX2_nextFailure_67 : decode cX2_nextFailure 67 = .ok (.goto (-61), 3) := by decide +kernel
theorem dX2_nextFailure_70 : decode cX2_nextFailure 70 = .ok (.iload 4, 2) := by decide +kernel
theorem dX2_nextFailure_72 : decode cX2_nextFailure 72 = .ok (.ireturn, 1) := by decide +kernel
theorem dX3_init_0 : decode cX3_init 0 = .ok (.aload_n 0, 1) := by decide +kernel
theorem dX3_init_1 : decode cX3_init 1 = .ok (.invokespecial 1, 3) := by decide +kernel
theorem dX3_init_4 : decode cX3_init 4 = .ok (.aload_n 0, 1) := by decide +kernel
theorem dX3_init_5 : decode cX3_init 5 = .ok (.new 7, 3) := by decide +kernel
theorem dX3_init_8 : decode cX3_init 8 = .ok (.dup, 1) := by decide +kernel
theorem dX3_init_9 : decode cX3_init 9 = .ok (.invokespecial 9, 3) := by decide +kernel
theorem dX3_init_12 : decode cX3_init 12 = .ok (.putfield 10, 3) := by decide +kernel
theorem dX3_init_15 : decode cX3_init 15 = .ok (.aload_n 0, 1) := by decide +kernel
theorem dX3_init_16 : decode cX3_init 16 = .ok (.new 16, 3) := by decide +kernel
theorem dX3_init_19 : decode cX3_init 19 = .ok (.dup, 1) := by decide +kernel
theorem dX3_init_20 : decode cX3_init 20 = .ok (.invokespecial 18, 3) := by decide +kernel
theorem dX3_init_23 : decode cX3_init 23 = .ok (.putfield 19, 3) := by decide +kernel
theorem dX3_init_26 : decode cX3_init 26 = .ok (.aload_n 0, 1) := by decide +kernel
theorem dX3_init_27 : decode cX3_init 27 = .ok (.new 23, 3) := by decide +kernel
theorem dX3_init_30 : decode cX3_init 30 = .ok (.dup, 1) := by decide +kernel
theorem dX3_init_31 : decode cX3_init 31 = .ok (.invokespecial 25, 3) := by decide +kernel
theorem dX3_init_34 : decode cX3_init 34 = .ok (.putfield 26, 3) := by decide +kernel
theorem dX3_init_37 : decode cX3_init 37 = .ok (.aload_n 0, 1) := by decide +kernel
theorem dX3_init_38 : decode cX3_init 38 = .ok (.iconst 4, 1) := by decide +kernel
theorem dX3_init_39 : decode cX3_init 39 = .ok (.newarray .int, 2) := by decide +kernel
theorem dX3_init_41 : decode cX3_init 41 = .ok (.dup, 1) := by decide +kernel
theorem dX3_init_42 : decode cX3_init 42 = .ok (.iconst 0, 1) := by decide +kernel
theorem dX3_init_43 : decode cX3_init 43 = .ok (.bipush 10, 2) := by decide +kernel
theorem dX3_init_45 : decode cX3_init 45 = .ok (.iastore, 1) := by decide +kernel
theorem dX3_init_46 : decode cX3_init 46 = .ok (.dup, 1) := by decide +kernel
theorem dX3_init_47 : decode cX3_init 47 = .ok (.iconst 1, 1) := by decide +kernel
theorem dX3_init_48 : decode cX3_init 48 = .ok (.bipush 20, 2) := by decide +kernel
theorem dX3_init_50 : decode cX3_init 50 = .ok (.iastore, 1) := by decide +kernel
theorem dX3_init_51 : decode cX3_init 51 = .ok (.dup, 1) := by decide +kernel
theorem dX3_init_52 : decode cX3_init 52 = .ok (.iconst 2, 1) := by decide +kernel
theorem dX3_init_53 : decode cX3_init 53 = .ok (.bipush 40, 2) := by decide +kernel
theorem dX3_init_55 : decode cX3_init 55 = .ok (.iastore, 1) := by decide +kernel
theorem dX3_init_56 : decode cX3_init 56 = .ok (.dup, 1) := by decide +kernel
theorem dX3_init_57 : decode cX3_init 57 = .ok (.iconst 3, 1) := by decide +kernel
theorem dX3_init_58 : decode cX3_init 58 = .ok (.bipush 80, 2) := by decide +kernel
theorem dX3_init_60 : decode cX3_init 60 = .ok (.iastore, 1) := by decide +kernel
theorem dX3_init_61 : decode cX3_init 61 = .ok (.putfield 30, 3) := by decide +kernel
theorem dX3_init_64 : decode cX3_init 64 = .ok (.aload_n 0, 1) := by decide +kernel
theorem dX3_init_65 : decode cX3_init 65 = .ok (.iconst 4, 1) := by decide +kernel
theorem dX3_init_66 : decode cX3_init 66 = .ok (.newarray .int, 2) := by decide +kernel
theorem dX3_init_68 : decode cX3_init 68 = .ok (.putfield 34, 3) := by decide +kernel
theorem dX3_init_71 : decode cX3_init 71 = .ok (.aload_n 0, 1) := by decide +kernel
theorem dX3_init_72 : decode cX3_init 72 = .ok (.bipush 10, 2) := by decide +kernel
theorem dX3_init_74 : decode cX3_init 74 = .ok (.putfield 37, 3) := by decide +kernel
theorem dX3_init_77 : decode cX3_init 77 = .ok (.aload_n 0, 1) := by decide +kernel
theorem dX3_init_78 : decode cX3_init 78 = .ok (.iconst 1, 1) := by decide +kernel
theorem dX3_init_79 : decode cX3_init 79 = .ok (.putfield 41, 3) := by decide +kernel
theorem dX3_init_82 : decode cX3_init 82 = .ok (.return_, 1) := by decide +kernel
theorem dX3_unit_0 : decode cX3_unit 0 = .ok (.iload_n 1, 1) := by decide +kernel
theorem dX3_unit_1 : decode cX3_unit 1 = .ok (.iload_n 2, 1) := by decide +kernel
theorem dX3_unit_2 : decode cX3_unit 2 = .ok (.iload_n 3, 1) := by decide +kernel
theorem dX3_unit_3 : decode cX3_unit 3 = .ok (.invokestatic 44, 3) := by decide +kernel
theorem dX3_unit_6 : decode cX3_unit 6 = .ok (.ifCond .ne 7, 3) := by decide +kernel
theorem dX3_unit_9 : decode cX3_unit 9 = .ok (.sipush (-1002), 3) := by decide +kernel
theorem dX3_unit_12 : decode cX3_unit 12 = .ok (.ireturn, 1) := by decide +kernel
theorem dX3_unit_13 : decode cX3_unit 13 = .ok (.aload_n 0, 1) := by decide +kernel
theorem dX3_unit_14 : decode cX3_unit 14 = .ok (.getfield 10, 3) := by decide +kernel
theorem dX3_unit_17 : decode cX3_unit 17 = .ok (.getfield 48, 3) := by decide +kernel
theorem dX3_unit_20 : decode cX3_unit 20 = .ok (.bipush 12, 2) := by decide +kernel
theorem dX3_unit_22 : decode cX3_unit 22 = .ok (.if_icmp .lt 7, 3) := by decide +kernel
theorem dX3_unit_25 : decode cX3_unit 25 = .ok (.sipush (-1004), 3) := by decide +kernel
theorem dX3_unit_28 : decode cX3_unit 28 = .ok (.ireturn, 1) := by decide +kernel
theorem dX3_unit_29 : decode cX3_unit 29 = .ok (.aload_n 0, 1) := by decide +kernel
theorem dX3_unit_30 : decode cX3_unit 30 = .ok (.getfield 10, 3) := by decide +kernel
theorem dX3_unit_33 : decode cX3_unit 33 = .ok (.dup, 1) := by decide +kernel
theorem dX3_unit_34 : decode cX3_unit 34 = .ok (.getfield 48, 3) := by decide +kernel
theorem dX3_unit_37 : decode cX3_unit 37 = .ok (.iconst 1, 1) := by decide +kernel
theorem dX3_unit_38 : decode cX3_unit 38 = .ok (.iadd, 1) := by decide +kernel
theorem dX3_unit_39 : decode cX3_unit 39 = .ok (.putfield 48, 3) := by decide +kernel
theorem dX3_unit_42 : decode cX3_unit 42 = .ok (.aload_n 0, 1) := by decide +kernel
theorem dX3_unit_43 : decode cX3_unit 43 = .ok (.getfield 10, 3) := by decide +kernel
theorem dX3_unit_46 : decode cX3_unit 46 = .ok (.aload_n 0, 1) := by decide +kernel
theorem dX3_unit_47 : decode cX3_unit 47 = .ok (.getfield 10, 3) := by decide +kernel
theorem dX3_unit_50 : decode cX3_unit 50 = .ok (.getfield 48, 3) := by decide +kernel
theorem dX3_unit_53 : decode cX3_unit 53 = .ok (.iconst 1, 1) := by decide +kernel
theorem dX3_unit_54 : decode cX3_unit 54 = .ok (.isub, 1) := by decide +kernel
theorem dX3_unit_55 : decode cX3_unit 55 = .ok (.iload_n 1, 1) := by decide +kernel
theorem dX3_unit_56 : decode cX3_unit 56 = .ok (.iload_n 2, 1) := by decide +kernel
theorem dX3_unit_57 : decode cX3_unit 57 = .ok (.iload_n 3, 1) := by decide +kernel
theorem dX3_unit_58 : decode cX3_unit 58 = .ok (.invokevirtual 51, 3) := by decide +kernel
theorem dX3_unit_61 : decode cX3_unit 61 = .ok (.aload_n 0, 1) := by decide +kernel
theorem dX3_unit_62 : decode cX3_unit 62 = .ok (.getfield 10, 3) := by decide +kernel
theorem dX3_unit_65 : decode cX3_unit 65 = .ok (.getfield 48, 3) := by decide +kernel
theorem dX3_unit_68 : decode cX3_unit 68 = .ok (.iconst 1, 1) := by decide +kernel
theorem dX3_unit_69 : decode cX3_unit 69 = .ok (.isub, 1) := by decide +kernel
theorem dX3_unit_70 : decode cX3_unit 70 = .ok (.ireturn, 1) := by decide +kernel
theorem dX3_set_0 : decode cX3_set 0 = .ok (.aload_n 0, 1) := by decide +kernel
theorem dX3_set_1 : decode cX3_set 1 = .ok (.getfield 10, 3) := by decide +kernel
theorem dX3_set_4 : decode cX3_set 4 = .ok (.iload_n 1, 1) := by decide +kernel
theorem dX3_set_5 : decode cX3_set 5 = .ok (.invokevirtual 55, 3) := by decide +kernel
theorem dX3_set_8 : decode cX3_set 8 = .ok (.ifCond .ne 7, 3) := by decide +kernel
theorem dX3_set_11 : decode cX3_set 11 = .ok (.sipush (-1001), 3) := by decide +kernel
theorem dX3_set_14 : decode cX3_set 14 = .ok (.ireturn, 1) := by decide +kernel
theorem dX3_set_15 : decode cX3_set 15 = .ok (.iload_n 2, 1) := by decide +kernel
theorem dX3_set_16 : decode cX3_set 16 = .ok (.iload_n 3, 1) := by decide +kernel
theorem dX3_set_17 : decode cX3_set 17 = .ok (.iload 4, 2) := by decide +kernel
theorem dX3_set_19 : decode cX3_set 19 = .ok (.invokestatic 44, 3) := by decide +kernel
theorem dX3_set_22 : decode cX3_set 22 = .ok (.ifCond .ne 7, 3) := by decide +kernel
theorem dX3_set_25 : decode cX3_set 25 = .ok (.sipush (-1002), 3) := by decide +kernel
theorem dX3_set_28 : decode cX3_set 28 = .ok (.ireturn, 1) := by decide +kernel
theorem dX3_set_29 : decode cX3_set 29 = .ok (.aload_n 0, 1) := by decide +kernel
theorem dX3_set_30 : decode cX3_set 30 = .ok (.getfield 10, 3) := by decide +kernel
theorem dX3_set_33 : decode cX3_set 33 = .ok (.iload_n 1, 1) := by decide +kernel
theorem dX3_set_34 : decode cX3_set 34 = .ok (.iload_n 2, 1) := by decide +kernel
theorem dX3_set_35 : decode cX3_set 35 = .ok (.iload_n 3, 1) := by decide +kernel
theorem dX3_set_36 : decode cX3_set 36 = .ok (.iload 4, 2) := by decide +kernel
theorem dX3_set_38 : decode cX3_set 38 = .ok (.invokevirtual 51, 3) := by decide +kernel
theorem dX3_set_41 : decode cX3_set 41 = .ok (.iconst 1, 1) := by decide +kernel
theorem dX3_set_42 : decode cX3_set 42 = .ok (.ireturn, 1) := by decide +kernel
theorem dX3_drop_0 : decode cX3_drop 0 = .ok (.aload_n 0, 1) := by decide +kernel
theorem dX3_drop_1 : decode cX3_drop 1 = .ok (.getfield 10, 3) := by decide +kernel
theorem dX3_drop_4 : decode cX3_drop 4 = .ok (.getfield 48, 3) := by decide +kernel
theorem dX3_drop_7 : decode cX3_drop 7 = .ok (.ifCond .ne 7, 3) := by decide +kernel
theorem dX3_drop_10 : decode cX3_drop 10 = .ok (.sipush (-1003), 3) := by decide +kernel
theorem dX3_drop_13 : decode cX3_drop 13 = .ok (.ireturn, 1) := by decide +kernel
theorem dX3_drop_14 : decode cX3_drop 14 = .ok (.aload_n 0, 1) := by decide +kernel
theorem dX3_drop_15 : decode cX3_drop 15 = .ok (.getfield 10, 3) := by decide +kernel
theorem dX3_drop_18 : decode cX3_drop 18 = .ok (.dup, 1) := by decide +kernel
theorem dX3_drop_19 : decode cX3_drop 19 = .ok (.getfield 48, 3) := by decide +kernel
theorem dX3_drop_22 : decode cX3_drop 22 = .ok (.iconst 1, 1) := by decide +kernel
theorem dX3_drop_23 : decode cX3_drop 23 = .ok (.isub, 1) := by decide +kernel
theorem dX3_drop_24 : decode cX3_drop 24 = .ok (.putfield 48, 3) := by decide +kernel
theorem dX3_drop_27 : decode cX3_drop 27 = .ok (.aload_n 0, 1) := by decide +kernel
theorem dX3_drop_28 : decode cX3_drop 28 = .ok (.getfield 10, 3) := by decide +kernel
theorem dX3_drop_31 : decode cX3_drop 31 = .ok (.getfield 48, 3) := by decide +kernel
theorem dX3_drop_34 : decode cX3_drop 34 = .ok (.ireturn, 1) := by decide +kernel
theorem dX3_told_0 : decode cX3_told 0 = .ok (.aload_n 0, 1) := by decide +kernel
theorem dX3_told_1 : decode cX3_told 1 = .ok (.getfield 10, 3) := by decide +kernel
theorem dX3_told_4 : decode cX3_told 4 = .ok (.iload_n 1, 1) := by decide +kernel
theorem dX3_told_5 : decode cX3_told 5 = .ok (.invokevirtual 55, 3) := by decide +kernel
theorem dX3_told_8 : decode cX3_told 8 = .ok (.ifCond .ne 7, 3) := by decide +kernel
theorem dX3_told_11 : decode cX3_told 11 = .ok (.sipush (-1001), 3) := by decide +kernel
theorem dX3_told_14 : decode cX3_told 14 = .ok (.ireturn, 1) := by decide +kernel
theorem dX3_told_15 : decode cX3_told 15 = .ok (.iload_n 2, 1) := by decide +kernel
theorem dX3_told_16 : decode cX3_told 16 = .ok (.tableswitch 68 0 3 #[32, 42, 52, 62], 32) := by decide +kernel
theorem dX3_told_48 : decode cX3_told 48 = .ok (.aload_n 0, 1) := by decide +kernel
theorem dX3_told_49 : decode cX3_told 49 = .ok (.getfield 10, 3) := by decide +kernel
theorem dX3_told_52 : decode cX3_told 52 = .ok (.getfield 59, 3) := by decide +kernel
theorem dX3_told_55 : decode cX3_told 55 = .ok (.iload_n 1, 1) := by decide +kernel
theorem dX3_told_56 : decode cX3_told 56 = .ok (.iaload, 1) := by decide +kernel
theorem dX3_told_57 : decode cX3_told 57 = .ok (.ireturn, 1) := by decide +kernel
theorem dX3_told_58 : decode cX3_told 58 = .ok (.aload_n 0, 1) := by decide +kernel
theorem dX3_told_59 : decode cX3_told 59 = .ok (.getfield 10, 3) := by decide +kernel
theorem dX3_told_62 : decode cX3_told 62 = .ok (.getfield 62, 3) := by decide +kernel
theorem dX3_told_65 : decode cX3_told 65 = .ok (.iload_n 1, 1) := by decide +kernel
theorem dX3_told_66 : decode cX3_told 66 = .ok (.iaload, 1) := by decide +kernel
theorem dX3_told_67 : decode cX3_told 67 = .ok (.ireturn, 1) := by decide +kernel
theorem dX3_told_68 : decode cX3_told 68 = .ok (.aload_n 0, 1) := by decide +kernel
theorem dX3_told_69 : decode cX3_told 69 = .ok (.getfield 10, 3) := by decide +kernel
theorem dX3_told_72 : decode cX3_told 72 = .ok (.getfield 65, 3) := by decide +kernel
theorem dX3_told_75 : decode cX3_told 75 = .ok (.iload_n 1, 1) := by decide +kernel
theorem dX3_told_76 : decode cX3_told 76 = .ok (.iaload, 1) := by decide +kernel
theorem dX3_told_77 : decode cX3_told 77 = .ok (.ireturn, 1) := by decide +kernel
theorem dX3_told_78 : decode cX3_told 78 = .ok (.aload_n 0, 1) := by decide +kernel
theorem dX3_told_79 : decode cX3_told 79 = .ok (.iload_n 1, 1) := by decide +kernel
theorem dX3_told_80 : decode cX3_told 80 = .ok (.invokevirtual 68, 3) := by decide +kernel
theorem dX3_told_83 : decode cX3_told 83 = .ok (.ireturn, 1) := by decide +kernel
theorem dX3_told_84 : decode cX3_told 84 = .ok (.sipush (-1002), 3) := by decide +kernel
theorem dX3_told_87 : decode cX3_told 87 = .ok (.ireturn, 1) := by decide +kernel
theorem dX3_count_0 : decode cX3_count 0 = .ok (.iload_n 1, 1) := by decide +kernel
theorem dX3_count_1 : decode cX3_count 1 = .ok (.invokestatic 72, 3) := by decide +kernel
theorem dX3_count_4 : decode cX3_count 4 = .ok (.ifCond .eq 13, 3) := by decide +kernel
theorem dX3_count_7 : decode cX3_count 7 = .ok (.iload_n 2, 1) := by decide +kernel
theorem dX3_count_8 : decode cX3_count 8 = .ok (.iconst 0, 1) := by decide +kernel
theorem dX3_count_9 : decode cX3_count 9 = .ok (.bipush 7, 2) := by decide +kernel
theorem dX3_count_11 : decode cX3_count 11 = .ok (.invokestatic 75, 3) := by decide +kernel
theorem dX3_count_14 : decode cX3_count 14 = .ok (.ifCond .ne 7, 3) := by decide +kernel
theorem dX3_count_17 : decode cX3_count 17 = .ok (.sipush (-1002), 3) := by decide +kernel
theorem dX3_count_20 : decode cX3_count 20 = .ok (.ireturn, 1) := by decide +kernel
theorem dX3_count_21 : decode cX3_count 21 = .ok (.iconst 0, 1) := by decide +kernel
theorem dX3_count_22 : decode cX3_count 22 = .ok (.istore_n 3, 1) := by decide +kernel
theorem dX3_count_23 : decode cX3_count 23 = .ok (.iconst 0, 1) := by decide +kernel
theorem dX3_count_24 : decode cX3_count 24 = .ok (.istore 4, 2) := by decide +kernel
theorem dX3_count_26 : decode cX3_count 26 = .ok (.iload 4, 2) := by decide +kernel
theorem dX3_count_28 : decode cX3_count 28 = .ok (.aload_n 0, 1) := by decide +kernel
theorem dX3_count_29 : decode cX3_count 29 = .ok (.getfield 10, 3) := by decide +kernel
theorem dX3_count_32 : decode cX3_count 32 = .ok (.getfield 48, 3) := by decide +kernel
theorem dX3_count_35 : decode cX3_count 35 = .ok (.if_icmp .ge 32, 3) := by decide +kernel
theorem dX3_count_38 : decode cX3_count 38 = .ok (.aload_n 0, 1) := by decide +kernel
theorem dX3_count_39 : decode cX3_count 39 = .ok (.getfield 10, 3) := by decide +kernel
theorem dX3_count_42 : decode cX3_count 42 = .ok (.iload 4, 2) := by decide +kernel
theorem dX3_count_44 : decode cX3_count 44 = .ok (.iload_n 1, 1) := by decide +kernel
theorem dX3_count_45 : decode cX3_count 45 = .ok (.invokevirtual 78, 3) := by decide +kernel
theorem dX3_count_48 : decode cX3_count 48 = .ok (.ifCond .eq 13, 3) := by decide +kernel
theorem dX3_count_51 : decode cX3_count 51 = .ok (.iload_n 3, 1) := by decide +kernel
theorem dX3_count_52 : decode cX3_count 52 = .ok (.aload_n 0, 1) := by decide +kernel
theorem dX3_count_53 : decode cX3_count 53 = .ok (.iload 4, 2) := by decide +kernel
theorem dX3_count_55 : decode cX3_count 55 = .ok (.iload_n 2, 1) := by decide +kernel
theorem dX3_count_56 : decode cX3_count 56 = .ok (.invokevirtual 82, 3) := by decide +kernel
theorem dX3_count_59 : decode cX3_count 59 = .ok (.iadd, 1) := by decide +kernel
theorem dX3_count_60 : decode cX3_count 60 = .ok (.istore_n 3, 1) := by decide +kernel
theorem dX3_count_61 : decode cX3_count 61 = .ok (.iinc 4 1, 3) := by decide +kernel
theorem dX3_count_64 : decode cX3_count 64 = .ok (.goto (-38), 3) := by decide +kernel
theorem dX3_count_67 : decode cX3_count 67 = .ok (.iload_n 3, 1) := by decide +kernel
theorem dX3_count_68 : decode cX3_count 68 = .ok (.ireturn, 1) := by decide +kernel
theorem dX3_shareInCount_0 : decode cX3_shareInCount 0 = .ok (.aload_n 0, 1) := by decide +kernel
theorem dX3_shareInCount_1 : decode cX3_shareInCount 1 = .ok (.getfield 10, 3) := by decide +kernel
theorem dX3_shareInCount_4 : decode cX3_shareInCount 4 = .ok (.getfield 65, 3) := by decide +kernel
theorem dX3_shareInCount_7 : decode cX3_shareInCount 7 = .ok (.iload_n 1, 1) := by decide +kernel
theorem dX3_shareInCount_8 : decode cX3_shareInCount 8 = .ok (.iaload, 1) := by decide +kernel
theorem dX3_shareInCount_9 : decode cX3_shareInCount 9 = .ok (.istore_n 3, 1) := by decide +kernel
theorem dX3_shareInCount_10 : decode cX3_shareInCount 10 = .ok (.iload_n 2, 1) := by decide +kernel
theorem dX3_shareInCount_11 : decode cX3_shareInCount 11 = .ok (.tableswitch 85 0 7 #[45, 47, 58, 85, 85, 85, 69, 79], 45) := by decide +kernel
theorem dX3_shareInCount_56 : decode cX3_shareInCount 56 = .ok (.iconst 1, 1) := by decide +kernel
theorem dX3_shareInCount_57 : decode cX3_shareInCount 57 = .ok (.ireturn, 1) := by decide +kernel
theorem dX3_shareInCount_58 : decode cX3_shareInCount 58 = .ok (.iload_n 3, 1) := by decide +kernel
theorem dX3_shareInCount_59 : decode cX3_shareInCount 59 = .ok (.iconst (-1), 1) := by decide +kernel
theorem dX3_shareInCount_60 : decode cX3_shareInCount 60 = .ok (.if_icmp .eq 7, 3) := by decide +kernel
theorem dX3_shareInCount_63 : decode cX3_shareInCount 63 = .ok (.iconst 1, 1) := by decide +kernel
theorem dX3_shareInCount_64 : decode cX3_shareInCount 64 = .ok (.goto 4, 3) := by decide +kernel
theorem dX3_shareInCount_67 : decode cX3_shareInCount 67 = .ok (.iconst 0, 1) := by decide +kernel
theorem dX3_shareInCount_68 : decode cX3_shareInCount 68 = .ok (.ireturn, 1) := by decide +kernel
theorem dX3_shareInCount_69 : decode cX3_shareInCount 69 = .ok (.iload_n 3, 1) := by decide +kernel
theorem dX3_shareInCount_70 : decode cX3_shareInCount 70 = .ok (.iconst (-1), 1) := by decide +kernel
theorem dX3_shareInCount_71 : decode cX3_shareInCount 71 = .ok (.if_icmp .ne 7, 3) := by decide +kernel
theorem dX3_shareInCount_74 : decode cX3_shareInCount 74 = .ok (.iconst 1, 1) := by decide +kernel
theorem dX3_shareInCount_75 : decode cX3_shareInCount 75 = .ok (.goto 4, 3) := by decide +kernel
theorem dX3_shareInCount_78 : decode cX3_shareInCount 78 = .ok (.iconst 0, 1) := by decide +kernel
theorem dX3_shareInCount_79 : decode cX3_shareInCount 79 = .ok (.ireturn, 1) := by decide +kernel
theorem dX3_shareInCount_80 : decode cX3_shareInCount 80 = .ok (.aload_n 0, 1) := by decide +kernel
theorem dX3_shareInCount_81 : decode cX3_shareInCount 81 = .ok (.getfield 10, 3) := by decide +kernel
theorem dX3_shareInCount_84 : decode cX3_shareInCount 84 = .ok (.getfield 62, 3) := by decide +kernel
theorem dX3_shareInCount_87 : decode cX3_shareInCount 87 = .ok (.iload_n 1, 1) := by decide +kernel
theorem dX3_shareInCount_88 : decode cX3_shareInCount 88 = .ok (.iaload, 1) := by decide +kernel
theorem dX3_shareInCount_89 : decode cX3_shareInCount 89 = .ok (.ireturn, 1) := by decide +kernel
theorem dX3_shareInCount_90 : decode cX3_shareInCount 90 = .ok (.aload_n 0, 1) := by decide +kernel
theorem dX3_shareInCount_91 : decode cX3_shareInCount 91 = .ok (.iload_n 1, 1) := by decide +kernel
theorem dX3_shareInCount_92 : decode cX3_shareInCount 92 = .ok (.invokevirtual 68, 3) := by decide +kernel
theorem dX3_shareInCount_95 : decode cX3_shareInCount 95 = .ok (.ireturn, 1) := by decide +kernel
theorem dX3_shareInCount_96 : decode cX3_shareInCount 96 = .ok (.iload_n 3, 1) := by decide +kernel
theorem dX3_shareInCount_97 : decode cX3_shareInCount 97 = .ok (.iload_n 2, 1) := by decide +kernel
theorem dX3_shareInCount_98 : decode cX3_shareInCount 98 = .ok (.iconst 3, 1) := by decide +kernel
theorem dX3_shareInCount_99 : decode cX3_shareInCount 99 = .ok (.isub, 1) := by decide +kernel
theorem dX3_shareInCount_100 : decode cX3_shareInCount 100 = .ok (.if_icmp .ne 7, 3) := by decide +kernel
theorem dX3_shareInCount_103 : decode cX3_shareInCount 103 = .ok (.iconst 1, 1) := by decide +kernel
theorem dX3_shareInCount_104 : decode cX3_shareInCount 104 = .ok (.goto 4, 3) := by decide +kernel
theorem dX3_shareInCount_107 : decode cX3_shareInCount 107 = .ok (.iconst 0, 1) := by decide +kernel
theorem dX3_shareInCount_108 : decode cX3_shareInCount 108 = .ok (.ireturn, 1) := by decide +kernel
theorem dX3_useHour_0 : decode cX3_useHour 0 = .ok (.aload_n 0, 1) := by decide +kernel
theorem dX3_useHour_1 : decode cX3_useHour 1 = .ok (.getfield 10, 3) := by decide +kernel
theorem dX3_useHour_4 : decode cX3_useHour 4 = .ok (.getfield 62, 3) := by decide +kernel
theorem dX3_useHour_7 : decode cX3_useHour 7 = .ok (.iload_n 1, 1) := by decide +kernel
theorem dX3_useHour_8 : decode cX3_useHour 8 = .ok (.iaload, 1) := by decide +kernel
theorem dX3_useHour_9 : decode cX3_useHour 9 = .ok (.aload_n 0, 1) := by decide +kernel
theorem dX3_useHour_10 : decode cX3_useHour 10 = .ok (.getfield 30, 3) := by decide +kernel
theorem dX3_useHour_13 : decode cX3_useHour 13 = .ok (.aload_n 0, 1) := by decide +kernel
theorem dX3_useHour_14 : decode cX3_useHour 14 = .ok (.getfield 10, 3) := by decide +kernel
theorem dX3_useHour_17 : decode cX3_useHour 17 = .ok (.getfield 59, 3) := by decide +kernel
theorem dX3_useHour_20 : decode cX3_useHour 20 = .ok (.iload_n 1, 1) := by decide +kernel
theorem dX3_useHour_21 : decode cX3_useHour 21 = .ok (.iaload, 1) := by decide +kernel
theorem dX3_useHour_22 : decode cX3_useHour 22 = .ok (.iaload, 1) := by decide +kernel
theorem dX3_useHour_23 : decode cX3_useHour 23 = .ok (.imul, 1) := by decide +kernel
theorem dX3_useHour_24 : decode cX3_useHour 24 = .ok (.bipush 10, 2) := by decide +kernel
theorem dX3_useHour_26 : decode cX3_useHour 26 = .ok (.idiv, 1) := by decide +kernel
theorem dX3_useHour_27 : decode cX3_useHour 27 = .ok (.ireturn, 1) := by decide +kernel
theorem dX3_risk_0 : decode cX3_risk 0 = .ok (.iload_n 1, 1) := by decide +kernel
theorem dX3_risk_1 : decode cX3_risk 1 = .ok (.invokestatic 72, 3) := by decide +kernel
theorem dX3_risk_4 : decode cX3_risk 4 = .ok (.ifCond .eq 14, 3) := by decide +kernel
theorem dX3_risk_7 : decode cX3_risk 7 = .ok (.iload_n 2, 1) := by decide +kernel
theorem dX3_risk_8 : decode cX3_risk 8 = .ok (.iconst 0, 1) := by decide +kernel
theorem dX3_risk_9 : decode cX3_risk 9 = .ok (.sipush 500, 3) := by decide +kernel
theorem dX3_risk_12 : decode cX3_risk 12 = .ok (.invokestatic 75, 3) := by decide +kernel
theorem dX3_risk_15 : decode cX3_risk 15 = .ok (.ifCond .ne 7, 3) := by decide +kernel
theorem dX3_risk_18 : decode cX3_risk 18 = .ok (.sipush (-1002), 3) := by decide +kernel
theorem dX3_risk_21 : decode cX3_risk 21 = .ok (.ireturn, 1) := by decide +kernel
theorem dX3_risk_22 : decode cX3_risk 22 = .ok (.aload_n 0, 1) := by decide +kernel
theorem dX3_risk_23 : decode cX3_risk 23 = .ok (.getfield 10, 3) := by decide +kernel
theorem dX3_risk_26 : decode cX3_risk 26 = .ok (.iload_n 1, 1) := by decide +kernel
theorem dX3_risk_27 : decode cX3_risk 27 = .ok (.iload_n 2, 1) := by decide +kernel
theorem dX3_risk_28 : decode cX3_risk 28 = .ok (.invokevirtual 86, 3) := by decide +kernel
theorem dX3_risk_31 : decode cX3_risk 31 = .ok (.ireturn, 1) := by decide +kernel
theorem dX3_left_0 : decode cX3_left 0 = .ok (.iload_n 1, 1) := by decide +kernel
theorem dX3_left_1 : decode cX3_left 1 = .ok (.iload_n 2, 1) := by decide +kernel
theorem dX3_left_2 : decode cX3_left 2 = .ok (.invokestatic 89, 3) := by decide +kernel
theorem dX3_left_5 : decode cX3_left 5 = .ok (.ifCond .eq 24, 3) := by decide +kernel
theorem dX3_left_8 : decode cX3_left 8 = .ok (.iload_n 3, 1) := by decide +kernel
theorem dX3_left_9 : decode cX3_left 9 = .ok (.iconst 0, 1) := by decide +kernel
theorem dX3_left_10 : decode cX3_left 10 = .ok (.sipush 500, 3) := by decide +kernel
theorem dX3_left_13 : decode cX3_left 13 = .ok (.invokestatic 75, 3) := by decide +kernel
theorem dX3_left_16 : decode cX3_left 16 = .ok (.ifCond .eq 13, 3) := by decide +kernel
theorem dX3_left_19 : decode cX3_left 19 = .ok (.iload 4, 2) := by decide +kernel
theorem dX3_left_21 : decode cX3_left 21 = .ok (.iconst 0, 1) := by decide +kernel
theorem dX3_left_22 : decode cX3_left 22 = .ok (.iconst 1, 1) := by decide +kernel
theorem dX3_left_23 : decode cX3_left 23 = .ok (.invokestatic 75, 3) := by decide +kernel
theorem dX3_left_26 : decode cX3_left 26 = .ok (.ifCond .ne 7, 3) := by decide +kernel
theorem dX3_left_29 : decode cX3_left 29 = .ok (.ldc2_w 92, 3) := by decide +kernel
theorem dX3_left_32 : decode cX3_left 32 = .ok (.lreturn, 1) := by decide +kernel
theorem dX3_left_33 : decode cX3_left 33 = .ok (.aload_n 0, 1) := by decide +kernel
theorem dX3_left_34 : decode cX3_left 34 = .ok (.getfield 19, 3) := by decide +kernel
theorem dX3_left_37 : decode cX3_left 37 = .ok (.aload_n 0, 1) := by decide +kernel
theorem dX3_left_38 : decode cX3_left 38 = .ok (.getfield 10, 3) := by decide +kernel
theorem dX3_left_41 : decode cX3_left 41 = .ok (.iload_n 1, 1) := by decide +kernel
theorem dX3_left_42 : decode cX3_left 42 = .ok (.iload_n 2, 1) := by decide +kernel
theorem dX3_left_43 : decode cX3_left 43 = .ok (.invokevirtual 94, 3) := by decide +kernel
theorem dX3_left_46 : decode cX3_left 46 = .ok (.aload_n 0, 1) := by decide +kernel
theorem dX3_left_47 : decode cX3_left 47 = .ok (.getfield 19, 3) := by decide +kernel
theorem dX3_left_50 : decode cX3_left 50 = .ok (.iload_n 3, 1) := by decide +kernel
theorem dX3_left_51 : decode cX3_left 51 = .ok (.invokevirtual 98, 3) := by decide +kernel
theorem dX3_left_54 : decode cX3_left 54 = .ok (.aload_n 0, 1) := by decide +kernel
theorem dX3_left_55 : decode cX3_left 55 = .ok (.getfield 19, 3) := by decide +kernel
theorem dX3_left_58 : decode cX3_left 58 = .ok (.invokevirtual 102, 3) := by decide +kernel
theorem dX3_left_61 : decode cX3_left 61 = .ok (.iload 4, 2) := by decide +kernel
theorem dX3_left_63 : decode cX3_left 63 = .ok (.invokestatic 106, 3) := by decide +kernel
theorem dX3_left_66 : decode cX3_left 66 = .ok (.lreturn, 1) := by decide +kernel
theorem dX3_time_0 : decode cX3_time 0 = .ok (.iload_n 1, 1) := by decide +kernel
theorem dX3_time_1 : decode cX3_time 1 = .ok (.iload_n 2, 1) := by decide +kernel
theorem dX3_time_2 : decode cX3_time 2 = .ok (.invokestatic 89, 3) := by decide +kernel
theorem dX3_time_5 : decode cX3_time 5 = .ok (.ifCond .eq 25, 3) := by decide +kernel
theorem dX3_time_8 : decode cX3_time 8 = .ok (.iload 4, 2) := by decide +kernel
theorem dX3_time_10 : decode cX3_time 10 = .ok (.iconst 1, 1) := by decide +kernel
theorem dX3_time_11 : decode cX3_time 11 = .ok (.sipush 1000, 3) := by decide +kernel
theorem dX3_time_14 : decode cX3_time 14 = .ok (.invokestatic 75, 3) := by decide +kernel
theorem dX3_time_17 : decode cX3_time 17 = .ok (.ifCond .eq 13, 3) := by decide +kernel
theorem dX3_time_20 : decode cX3_time 20 = .ok (.iload_n 3, 1) := by decide +kernel
theorem dX3_time_21 : decode cX3_time 21 = .ok (.iconst 0, 1) := by decide +kernel
theorem dX3_time_22 : decode cX3_time 22 = .ok (.iload 4, 2) := by decide +kernel
theorem dX3_time_24 : decode cX3_time 24 = .ok (.invokestatic 75, 3) := by decide +kernel
theorem dX3_time_27 : decode cX3_time 27 = .ok (.ifCond .ne 7, 3) := by decide +kernel
theorem dX3_time_30 : decode cX3_time 30 = .ok (.sipush (-1002), 3) := by decide +kernel
theorem dX3_time_33 : decode cX3_time 33 = .ok (.ireturn, 1) := by decide +kernel
theorem dX3_time_34 : decode cX3_time 34 = .ok (.aload_n 0, 1) := by decide +kernel
theorem dX3_time_35 : decode cX3_time 35 = .ok (.getfield 19, 3) := by decide +kernel
theorem dX3_time_38 : decode cX3_time 38 = .ok (.aload_n 0, 1) := by decide +kernel
theorem dX3_time_39 : decode cX3_time 39 = .ok (.getfield 10, 3) := by decide +kernel
theorem dX3_time_42 : decode cX3_time 42 = .ok (.iload_n 1, 1) := by decide +kernel
theorem dX3_time_43 : decode cX3_time 43 = .ok (.iload_n 2, 1) := by decide +kernel
theorem dX3_time_44 : decode cX3_time 44 = .ok (.invokevirtual 94, 3) := by decide +kernel
theorem dX3_time_47 : decode cX3_time 47 = .ok (.aload_n 0, 1) := by decide +kernel
theorem dX3_time_48 : decode cX3_time 48 = .ok (.getfield 19, 3) := by decide +kernel
theorem dX3_time_51 : decode cX3_time 51 = .ok (.iload_n 3, 1) := by decide +kernel
theorem dX3_time_52 : decode cX3_time 52 = .ok (.iload 4, 2) := by decide +kernel
theorem dX3_time_54 : decode cX3_time 54 = .ok (.invokevirtual 110, 3) := by decide +kernel
theorem dX3_time_57 : decode cX3_time 57 = .ok (.ireturn, 1) := by decide +kernel
theorem dX3_mean_0 : decode cX3_mean 0 = .ok (.iload_n 1, 1) := by decide +kernel
theorem dX3_mean_1 : decode cX3_mean 1 = .ok (.iload_n 2, 1) := by decide +kernel
theorem dX3_mean_2 : decode cX3_mean 2 = .ok (.invokestatic 89, 3) := by decide +kernel
theorem dX3_mean_5 : decode cX3_mean 5 = .ok (.ifCond .eq 24, 3) := by decide +kernel
theorem dX3_mean_8 : decode cX3_mean 8 = .ok (.iload_n 3, 1) := by decide +kernel
theorem dX3_mean_9 : decode cX3_mean 9 = .ok (.iconst 1, 1) := by decide +kernel
theorem dX3_mean_10 : decode cX3_mean 10 = .ok (.sipush 500, 3) := by decide +kernel
theorem dX3_mean_13 : decode cX3_mean 13 = .ok (.invokestatic 75, 3) := by decide +kernel
theorem dX3_mean_16 : decode cX3_mean 16 = .ok (.ifCond .eq 13, 3) := by decide +kernel
theorem dX3_mean_19 : decode cX3_mean 19 = .ok (.iload 4, 2) := by decide +kernel
theorem dX3_mean_21 : decode cX3_mean 21 = .ok (.iconst 0, 1) := by decide +kernel
theorem dX3_mean_22 : decode cX3_mean 22 = .ok (.iconst 1, 1) := by decide +kernel
theorem dX3_mean_23 : decode cX3_mean 23 = .ok (.invokestatic 75, 3) := by decide +kernel
theorem dX3_mean_26 : decode cX3_mean 26 = .ok (.ifCond .ne 7, 3) := by decide +kernel
theorem dX3_mean_29 : decode cX3_mean 29 = .ok (.ldc2_w 92, 3) := by decide +kernel
theorem dX3_mean_32 : decode cX3_mean 32 = .ok (.lreturn, 1) := by decide +kernel
theorem dX3_mean_33 : decode cX3_mean 33 = .ok (.aload_n 0, 1) := by decide +kernel
theorem dX3_mean_34 : decode cX3_mean 34 = .ok (.getfield 19, 3) := by decide +kernel
theorem dX3_mean_37 : decode cX3_mean 37 = .ok (.aload_n 0, 1) := by decide +kernel
theorem dX3_mean_38 : decode cX3_mean 38 = .ok (.getfield 10, 3) := by decide +kernel
theorem dX3_mean_41 : decode cX3_mean 41 = .ok (.iload_n 1, 1) := by decide +kernel
theorem dX3_mean_42 : decode cX3_mean 42 = .ok (.iload_n 2, 1) := by decide +kernel
theorem dX3_mean_43 : decode cX3_mean 43 = .ok (.invokevirtual 94, 3) := by decide +kernel
theorem dX3_mean_46 : decode cX3_mean 46 = .ok (.aload_n 0, 1) := by decide +kernel
theorem dX3_mean_47 : decode cX3_mean 47 = .ok (.getfield 19, 3) := by decide +kernel
theorem dX3_mean_50 : decode cX3_mean 50 = .ok (.iconst 0, 1) := by decide +kernel
theorem dX3_mean_51 : decode cX3_mean 51 = .ok (.iload_n 3, 1) := by decide +kernel
theorem dX3_mean_52 : decode cX3_mean 52 = .ok (.invokevirtual 113, 3) := by decide +kernel
theorem dX3_mean_55 : decode cX3_mean 55 = .ok (.aload_n 0, 1) := by decide +kernel
theorem dX3_mean_56 : decode cX3_mean 56 = .ok (.getfield 19, 3) := by decide +kernel
theorem dX3_mean_59 : decode cX3_mean 59 = .ok (.invokevirtual 102, 3) := by decide +kernel
theorem dX3_mean_62 : decode cX3_mean 62 = .ok (.iload 4, 2) := by decide +kernel
theorem dX3_mean_64 : decode cX3_mean 64 = .ok (.invokestatic 106, 3) := by decide +kernel
theorem dX3_mean_67 : decode cX3_mean 67 = .ok (.lreturn, 1) := by decide +kernel
theorem dX3_rest_0 : decode cX3_rest 0 = .ok (.iload_n 1, 1) := by decide +kernel
theorem dX3_rest_1 : decode cX3_rest 1 = .ok (.iload_n 2, 1) := by decide +kernel
theorem dX3_rest_2 : decode cX3_rest 2 = .ok (.invokestatic 89, 3) := by decide +kernel
theorem dX3_rest_5 : decode cX3_rest 5 = .ok (.ifCond .eq 37, 3) := by decide +kernel
theorem dX3_rest_8 : decode cX3_rest 8 = .ok (.iload 4, 2) := by decide +kernel
theorem dX3_rest_10 : decode cX3_rest 10 = .ok (.iconst 1, 1) := by decide +kernel
theorem dX3_rest_11 : decode cX3_rest 11 = .ok (.sipush 500, 3) := by decide +kernel
theorem dX3_rest_14 : decode cX3_rest 14 = .ok (.invokestatic 75, 3) := by decide +kernel
theorem dX3_rest_17 : decode cX3_rest 17 = .ok (.ifCond .eq 25, 3) := by decide +kernel
theorem dX3_rest_20 : decode cX3_rest 20 = .ok (.iload_n 3, 1) := by decide +kernel
theorem dX3_rest_21 : decode cX3_rest 21 = .ok (.iconst 0, 1) := by decide +kernel
theorem dX3_rest_22 : decode cX3_rest 22 = .ok (.iload 4, 2) := by decide +kernel
theorem dX3_rest_24 : decode cX3_rest 24 = .ok (.iconst 1, 1) := by decide +kernel
theorem dX3_rest_25 : decode cX3_rest 25 = .ok (.isub, 1) := by decide +kernel
theorem dX3_rest_26 : decode cX3_rest 26 = .ok (.invokestatic 75, 3) := by decide +kernel
theorem dX3_rest_29 : decode cX3_rest 29 = .ok (.ifCond .eq 13, 3) := by decide +kernel
theorem dX3_rest_32 : decode cX3_rest 32 = .ok (.iload 5, 2) := by decide +kernel
theorem dX3_rest_34 : decode cX3_rest 34 = .ok (.iconst 0, 1) := by decide +kernel
theorem dX3_rest_35 : decode cX3_rest 35 = .ok (.iconst 1, 1) := by decide +kernel
theorem dX3_rest_36 : decode cX3_rest 36 = .ok (.invokestatic 75, 3) := by decide +kernel
theorem dX3_rest_39 : decode cX3_rest 39 = .ok (.ifCond .ne 7, 3) := by decide +kernel
theorem dX3_rest_42 : decode cX3_rest 42 = .ok (.ldc2_w 92, 3) := by decide +kernel
theorem dX3_rest_45 : decode cX3_rest 45 = .ok (.lreturn, 1) := by decide +kernel
theorem dX3_rest_46 : decode cX3_rest 46 = .ok (.aload_n 0, 1) := by decide +kernel
theorem dX3_rest_47 : decode cX3_rest 47 = .ok (.getfield 19, 3) := by decide +kernel
theorem dX3_rest_50 : decode cX3_rest 50 = .ok (.aload_n 0, 1) := by decide +kernel
theorem dX3_rest_51 : decode cX3_rest 51 = .ok (.getfield 10, 3) := by decide +kernel
theorem dX3_rest_54 : decode cX3_rest 54 = .ok (.iload_n 1, 1) := by decide +kernel
theorem dX3_rest_55 : decode cX3_rest 55 = .ok (.iload_n 2, 1) := by decide +kernel
theorem dX3_rest_56 : decode cX3_rest 56 = .ok (.invokevirtual 94, 3) := by decide +kernel
theorem dX3_rest_59 : decode cX3_rest 59 = .ok (.aload_n 0, 1) := by decide +kernel
theorem dX3_rest_60 : decode cX3_rest 60 = .ok (.getfield 19, 3) := by decide +kernel
theorem dX3_rest_63 : decode cX3_rest 63 = .ok (.iload_n 3, 1) := by decide +kernel
theorem dX3_rest_64 : decode cX3_rest 64 = .ok (.invokevirtual 98, 3) := by decide +kernel
theorem dX3_rest_67 : decode cX3_rest 67 = .ok (.lconst 0, 1) := by decide +kernel
theorem dX3_rest_68 : decode cX3_rest 68 = .ok (.lcmp, 1) := by decide +kernel
theorem dX3_rest_69 : decode cX3_rest 69 = .ok (.ifCond .ne 7, 3) := by decide +kernel
theorem dX3_rest_72 : decode cX3_rest 72 = .ok (.ldc2_w 117, 3) := by decide +kernel
theorem dX3_rest_75 : decode cX3_rest 75 = .ok (.lreturn, 1) := by decide +kernel
theorem dX3_rest_76 : decode cX3_rest 76 = .ok (.aload_n 0, 1) := by decide +kernel
theorem dX3_rest_77 : decode cX3_rest 77 = .ok (.getfield 19, 3) := by decide +kernel
theorem dX3_rest_80 : decode cX3_rest 80 = .ok (.iload_n 3, 1) := by decide +kernel
theorem dX3_rest_81 : decode cX3_rest 81 = .ok (.iload 4, 2) := by decide +kernel
theorem dX3_rest_83 : decode cX3_rest 83 = .ok (.invokevirtual 113, 3) := by decide +kernel
theorem dX3_rest_86 : decode cX3_rest 86 = .ok (.aload_n 0, 1) := by decide +kernel
theorem dX3_rest_87 : decode cX3_rest 87 = .ok (.getfield 19, 3) := by decide +kernel
theorem dX3_rest_90 : decode cX3_rest 90 = .ok (.iload_n 3, 1) := by decide +kernel
theorem dX3_rest_91 : decode cX3_rest 91 = .ok (.invokevirtual 98, 3) := by decide +kernel
theorem dX3_rest_94 : decode cX3_rest 94 = .ok (.iload 5, 2) := by decide +kernel
theorem dX3_rest_96 : decode cX3_rest 96 = .ok (.invokestatic 106, 3) := by decide +kernel
theorem dX3_rest_99 : decode cX3_rest 99 = .ok (.lreturn, 1) := by decide +kernel
theorem dX3_runIn_0 : decode cX3_runIn 0 = .ok (.iload_n 1, 1) := by decide +kernel
theorem dX3_runIn_1 : decode cX3_runIn 1 = .ok (.iload_n 2, 1) := by decide +kernel
theorem dX3_runIn_2 : decode cX3_runIn 2 = .ok (.invokestatic 89, 3) := by decide +kernel
theorem dX3_runIn_5 : decode cX3_runIn 5 = .ok (.ifCond .eq 25, 3) := by decide +kernel
theorem dX3_runIn_8 : decode cX3_runIn 8 = .ok (.iload_n 3, 1) := by decide +kernel
theorem dX3_runIn_9 : decode cX3_runIn 9 = .ok (.iconst 1, 1) := by decide +kernel
theorem dX3_runIn_10 : decode cX3_runIn 10 = .ok (.sipush 500, 3) := by decide +kernel
theorem dX3_runIn_13 : decode cX3_runIn 13 = .ok (.invokestatic 75, 3) := by decide +kernel
theorem dX3_runIn_16 : decode cX3_runIn 16 = .ok (.ifCond .eq 14, 3) := by decide +kernel
theorem dX3_runIn_19 : decode cX3_runIn 19 = .ok (.iload 4, 2) := by decide +kernel
theorem dX3_runIn_21 : decode cX3_runIn 21 = .ok (.iconst 0, 1) := by decide +kernel
theorem dX3_runIn_22 : decode cX3_runIn 22 = .ok (.bipush 100, 2) := by decide +kernel
theorem dX3_runIn_24 : decode cX3_runIn 24 = .ok (.invokestatic 75, 3) := by decide +kernel
theorem dX3_runIn_27 : decode cX3_runIn 27 = .ok (.ifCond .ne 7, 3) := by decide +kernel
theorem dX3_runIn_30 : decode cX3_runIn 30 = .ok (.sipush (-1002), 3) := by decide +kernel
theorem dX3_runIn_33 : decode cX3_runIn 33 = .ok (.ireturn, 1) := by decide +kernel
theorem dX3_runIn_34 : decode cX3_runIn 34 = .ok (.aload_n 0, 1) := by decide +kernel
theorem dX3_runIn_35 : decode cX3_runIn 35 = .ok (.getfield 19, 3) := by decide +kernel
theorem dX3_runIn_38 : decode cX3_runIn 38 = .ok (.aload_n 0, 1) := by decide +kernel
theorem dX3_runIn_39 : decode cX3_runIn 39 = .ok (.getfield 10, 3) := by decide +kernel
theorem dX3_runIn_42 : decode cX3_runIn 42 = .ok (.iload_n 1, 1) := by decide +kernel
theorem dX3_runIn_43 : decode cX3_runIn 43 = .ok (.iload_n 2, 1) := by decide +kernel
theorem dX3_runIn_44 : decode cX3_runIn 44 = .ok (.invokevirtual 94, 3) := by decide +kernel
theorem dX3_runIn_47 : decode cX3_runIn 47 = .ok (.aload_n 0, 1) := by decide +kernel
theorem dX3_runIn_48 : decode cX3_runIn 48 = .ok (.getfield 19, 3) := by decide +kernel
theorem dX3_runIn_51 : decode cX3_runIn 51 = .ok (.iload_n 3, 1) := by decide +kernel
theorem dX3_runIn_52 : decode cX3_runIn 52 = .ok (.iload 4, 2) := by decide +kernel
theorem dX3_runIn_54 : decode cX3_runIn 54 = .ok (.invokevirtual 119, 3) := by decide +kernel
theorem dX3_runIn_57 : decode cX3_runIn 57 = .ok (.ireturn, 1) := by decide +kernel
theorem dX3_speed_0 : decode cX3_speed 0 = .ok (.iload_n 1, 1) := by decide +kernel
theorem dX3_speed_1 : decode cX3_speed 1 = .ok (.invokestatic 122, 3) := by decide +kernel
theorem dX3_speed_4 : decode cX3_speed 4 = .ok (.ifCond .eq 14, 3) := by decide +kernel
theorem dX3_speed_7 : decode cX3_speed 7 = .ok (.iload_n 2, 1) := by decide +kernel
theorem dX3_speed_8 : decode cX3_speed 8 = .ok (.iconst 1, 1) := by decide +kernel
theorem dX3_speed_9 : decode cX3_speed 9 = .ok (.sipush 1000, 3) := by decide +kernel
theorem dX3_speed_12 : decode cX3_speed 12 = .ok (.invokestatic 75, 3) := by decide +kernel
theorem dX3_speed_15 : decode cX3_speed 15 = .ok (.ifCond .ne 7, 3) := by decide +kernel
theorem dX3_speed_18 : decode cX3_speed 18 = .ok (.sipush (-1002), 3) := by decide +kernel
theorem dX3_speed_21 : decode cX3_speed 21 = .ok (.ireturn, 1) := by decide +kernel
theorem dX3_speed_22 : decode cX3_speed 22 = .ok (.aload_n 0, 1) := by decide +kernel
theorem dX3_speed_23 : decode cX3_speed 23 = .ok (.getfield 30, 3) := by decide +kernel
theorem dX3_speed_26 : decode cX3_speed 26 = .ok (.iload_n 1, 1) := by decide +kernel
theorem dX3_speed_27 : decode cX3_speed 27 = .ok (.iaload, 1) := by decide +kernel
theorem dX3_speed_28 : decode cX3_speed 28 = .ok (.istore_n 3, 1) := by decide +kernel
theorem dX3_speed_29 : decode cX3_speed 29 = .ok (.aload_n 0, 1) := by decide +kernel
theorem dX3_speed_30 : decode cX3_speed 30 = .ok (.getfield 30, 3) := by decide +kernel
theorem dX3_speed_33 : decode cX3_speed 33 = .ok (.iload_n 1, 1) := by decide +kernel
theorem dX3_speed_34 : decode cX3_speed 34 = .ok (.iload_n 2, 1) := by decide +kernel
theorem dX3_speed_35 : decode cX3_speed 35 = .ok (.iastore, 1) := by decide +kernel
theorem dX3_speed_36 : decode cX3_speed 36 = .ok (.iload_n 3, 1) := by decide +kernel
theorem dX3_speed_37 : decode cX3_speed 37 = .ok (.ireturn, 1) := by decide +kernel
theorem dX3_says_0 : decode cX3_says 0 = .ok (.iload_n 1, 1) := by decide +kernel
theorem dX3_says_1 : decode cX3_says 1 = .ok (.iload_n 2, 1) := by decide +kernel
theorem dX3_says_2 : decode cX3_says 2 = .ok (.invokestatic 125, 3) := by decide +kernel
theorem dX3_says_5 : decode cX3_says 5 = .ok (.ifCond .eq 10, 3) := by decide +kernel
theorem dX3_says_8 : decode cX3_says 8 = .ok (.iload_n 3, 1) := by decide +kernel
theorem dX3_says_9 : decode cX3_says 9 = .ok (.invokestatic 122, 3) := by decide +kernel
theorem dX3_says_12 : decode cX3_says 12 = .ok (.ifCond .ne 7, 3) := by decide +kernel
theorem dX3_says_15 : decode cX3_says 15 = .ok (.sipush (-1002), 3) := by decide +kernel
theorem dX3_says_18 : decode cX3_says 18 = .ok (.ireturn, 1) := by decide +kernel
theorem dX3_says_19 : decode cX3_says 19 = .ok (.iload_n 1, 1) := by decide +kernel
theorem dX3_says_20 : decode cX3_says 20 = .ok (.iload_n 2, 1) := by decide +kernel
theorem dX3_says_21 : decode cX3_says 21 = .ok (.iload_n 3, 1) := by decide +kernel
theorem dX3_says_22 : decode cX3_says 22 = .ok (.invokestatic 128, 3) := by decide +kernel
theorem dX3_says_25 : decode cX3_says 25 = .ok (.ireturn, 1) := by decide +kernel
theorem dX3_miss_0 : decode cX3_miss 0 = .ok (.iload_n 1, 1) := by decide +kernel
theorem dX3_miss_1 : decode cX3_miss 1 = .ok (.iload_n 2, 1) := by decide +kernel
theorem dX3_miss_2 : decode cX3_miss 2 = .ok (.invokestatic 125, 3) := by decide +kernel
theorem dX3_miss_5 : decode cX3_miss 5 = .ok (.ifCond .ne 7, 3) := by decide +kernel
theorem dX3_miss_8 : decode cX3_miss 8 = .ok (.sipush (-1002), 3) := by decide +kernel
theorem dX3_miss_11 : decode cX3_miss 11 = .ok (.ireturn, 1) := by decide +kernel
theorem dX3_miss_12 : decode cX3_miss 12 = .ok (.aload_n 0, 1) := by decide +kernel
theorem dX3_miss_13 : decode cX3_miss 13 = .ok (.invokevirtual 132, 3) := by decide +kernel
theorem dX3_miss_16 : decode cX3_miss 16 = .ok (.pop, 1) := by decide +kernel
theorem dX3_miss_17 : decode cX3_miss 17 = .ok (.aload_n 0, 1) := by decide +kernel
theorem dX3_miss_18 : decode cX3_miss 18 = .ok (.iload_n 1, 1) := by decide +kernel
theorem dX3_miss_19 : decode cX3_miss 19 = .ok (.iload_n 2, 1) := by decide +kernel
theorem dX3_miss_20 : decode cX3_miss 20 = .ok (.invokevirtual 136, 3) := by decide +kernel
theorem dX3_miss_23 : decode cX3_miss 23 = .ok (.ireturn, 1) := by decide +kernel
theorem dX3_law_0 : decode cX3_law 0 = .ok (.iload_n 1, 1) := by decide +kernel
theorem dX3_law_1 : decode cX3_law 1 = .ok (.iconst 1, 1) := by decide +kernel
theorem dX3_law_2 : decode cX3_law 2 = .ok (.ldc 139, 2) := by decide +kernel
theorem dX3_law_4 : decode cX3_law 4 = .ok (.invokestatic 75, 3) := by decide +kernel
theorem dX3_law_7 : decode cX3_law 7 = .ok (.ifCond .eq 34, 3) := by decide +kernel
theorem dX3_law_10 : decode cX3_law 10 = .ok (.iload_n 2, 1) := by decide +kernel
theorem dX3_law_11 : decode cX3_law 11 = .ok (.iconst 0, 1) := by decide +kernel
theorem dX3_law_12 : decode cX3_law 12 = .ok (.sipush 1000, 3) := by decide +kernel
theorem dX3_law_15 : decode cX3_law 15 = .ok (.invokestatic 75, 3) := by decide +kernel
theorem dX3_law_18 : decode cX3_law 18 = .ok (.ifCond .eq 23, 3) := by decide +kernel
theorem dX3_law_21 : decode cX3_law 21 = .ok (.iload_n 1, 1) := by decide +kernel
theorem dX3_law_22 : decode cX3_law 22 = .ok (.bipush 9, 2) := by decide +kernel
theorem dX3_law_24 : decode cX3_law 24 = .ok (.iload_n 2, 1) := by decide +kernel
theorem dX3_law_25 : decode cX3_law 25 = .ok (.imul, 1) := by decide +kernel
theorem dX3_law_26 : decode cX3_law 26 = .ok (.iadd, 1) := by decide +kernel
theorem dX3_law_27 : decode cX3_law 27 = .ok (.ldc 139, 2) := by decide +kernel
theorem dX3_law_29 : decode cX3_law 29 = .ok (.if_icmp .gt 12, 3) := by decide +kernel
theorem dX3_law_32 : decode cX3_law 32 = .ok (.iload_n 3, 1) := by decide +kernel
theorem dX3_law_33 : decode cX3_law 33 = .ok (.iconst 0, 1) := by decide +kernel
theorem dX3_law_34 : decode cX3_law 34 = .ok (.iconst 2, 1) := by decide +kernel
theorem dX3_law_35 : decode cX3_law 35 = .ok (.invokestatic 75, 3) := by decide +kernel
theorem dX3_law_38 : decode cX3_law 38 = .ok (.ifCond .ne 7, 3) := by decide +kernel
theorem dX3_law_41 : decode cX3_law 41 = .ok (.sipush (-1002), 3) := by decide +kernel
theorem dX3_law_44 : decode cX3_law 44 = .ok (.ireturn, 1) := by decide +kernel
theorem dX3_law_45 : decode cX3_law 45 = .ok (.aload_n 0, 1) := by decide +kernel
theorem dX3_law_46 : decode cX3_law 46 = .ok (.invokevirtual 132, 3) := by decide +kernel
theorem dX3_law_49 : decode cX3_law 49 = .ok (.ifCond .ne 7, 3) := by decide +kernel
theorem dX3_law_52 : decode cX3_law 52 = .ok (.sipush (-1003), 3) := by decide +kernel
theorem dX3_law_55 : decode cX3_law 55 = .ok (.ireturn, 1) := by decide +kernel
theorem dX3_law_56 : decode cX3_law 56 = .ok (.iload_n 1, 1) := by decide +kernel
theorem dX3_law_57 : decode cX3_law 57 = .ok (.istore 4, 2) := by decide +kernel
theorem dX3_law_59 : decode cX3_law 59 = .ok (.iconst 1, 1) := by decide +kernel
theorem dX3_law_60 : decode cX3_law 60 = .ok (.istore 5, 2) := by decide +kernel
theorem dX3_law_62 : decode cX3_law 62 = .ok (.aload_n 0, 1) := by decide +kernel
theorem dX3_law_63 : decode cX3_law 63 = .ok (.iload_n 1, 1) := by decide +kernel
theorem dX3_law_64 : decode cX3_law 64 = .ok (.iconst 1, 1) := by decide +kernel
theorem dX3_law_65 : decode cX3_law 65 = .ok (.invokevirtual 136, 3) := by decide +kernel
theorem dX3_law_68 : decode cX3_law 68 = .ok (.istore 6, 2) := by decide +kernel
theorem dX3_law_70 : decode cX3_law 70 = .ok (.iconst 0, 1) := by decide +kernel
theorem dX3_law_71 : decode cX3_law 71 = .ok (.istore 7, 2) := by decide +kernel
theorem dX3_law_73 : decode cX3_law 73 = .ok (.iload 7, 2) := by decide +kernel
theorem dX3_law_75 : decode cX3_law 75 = .ok (.bipush 10, 2) := by decide +kernel
theorem dX3_law_77 : decode cX3_law 77 = .ok (.if_icmp .ge 62, 3) := by decide +kernel
theorem dX3_law_80 : decode cX3_law 80 = .ok (.iconst 1, 1) := by decide +kernel
theorem dX3_law_81 : decode cX3_law 81 = .ok (.istore 8, 2) := by decide +kernel
theorem dX3_law_83 : decode cX3_law 83 = .ok (.iload 8, 2) := by decide +kernel
theorem dX3_law_85 : decode cX3_law 85 = .ok (.bipush 20, 2) := by decide +kernel
theorem dX3_law_87 : decode cX3_law 87 = .ok (.if_icmp .gt 46, 3) := by decide +kernel
theorem dX3_law_90 : decode cX3_law 90 = .ok (.aload_n 0, 1) := by decide +kernel
theorem dX3_law_91 : decode cX3_law 91 = .ok (.iload_n 1, 1) := by decide +kernel
theorem dX3_law_92 : decode cX3_law 92 = .ok (.iload 7, 2) := by decide +kernel
theorem dX3_law_94 : decode cX3_law 94 = .ok (.iload_n 2, 1) := by decide +kernel
theorem dX3_law_95 : decode cX3_law 95 = .ok (.imul, 1) := by decide +kernel
theorem dX3_law_96 : decode cX3_law 96 = .ok (.iadd, 1) := by decide +kernel
theorem dX3_law_97 : decode cX3_law 97 = .ok (.iload 8, 2) := by decide +kernel
theorem dX3_law_99 : decode cX3_law 99 = .ok (.invokevirtual 136, 3) := by decide +kernel
theorem dX3_law_102 : decode cX3_law 102 = .ok (.istore 9, 2) := by decide +kernel
theorem dX3_law_104 : decode cX3_law 104 = .ok (.iload 9, 2) := by decide +kernel
theorem dX3_law_106 : decode cX3_law 106 = .ok (.iload 6, 2) := by decide +kernel
theorem dX3_law_108 : decode cX3_law 108 = .ok (.if_icmp .ge 19, 3) := by decide +kernel
theorem dX3_law_111 : decode cX3_law 111 = .ok (.iload_n 1, 1) := by decide +kernel
theorem dX3_law_112 : decode cX3_law 112 = .ok (.iload 7, 2) := by decide +kernel
theorem dX3_law_114 : decode cX3_law 114 = .ok (.iload_n 2, 1) := by decide +kernel
theorem dX3_law_115 : decode cX3_law 115 = .ok (.imul, 1) := by decide +kernel
theorem dX3_law_116 : decode cX3_law 116 = .ok (.iadd, 1) := by decide +kernel
theorem dX3_law_117 : decode cX3_law 117 = .ok (.istore 4, 2) := by decide +kernel
theorem dX3_law_119 : decode cX3_law 119 = .ok (.iload 8, 2) := by decide +kernel
theorem dX3_law_121 : decode cX3_law 121 = .ok (.istore 5, 2) := by decide +kernel
theorem dX3_law_123 : decode cX3_law 123 = .ok (.iload 9, 2) := by decide +kernel
theorem dX3_law_125 : decode cX3_law 125 = .ok (.istore 6, 2) := by decide +kernel
theorem dX3_law_127 : decode cX3_law 127 = .ok (.iinc 8 1, 3) := by decide +kernel
theorem dX3_law_130 : decode cX3_law 130 = .ok (.goto (-47), 3) := by decide +kernel
theorem dX3_law_133 : decode cX3_law 133 = .ok (.iinc 7 1, 3) := by decide +kernel
theorem dX3_law_136 : decode cX3_law 136 = .ok (.goto (-63), 3) := by decide +kernel
theorem dX3_law_139 : decode cX3_law 139 = .ok (.iload_n 3, 1) := by decide +kernel
theorem dX3_law_140 : decode cX3_law 140 = .ok (.ifCond .ne 8, 3) := by decide +kernel
theorem dX3_law_143 : decode cX3_law 143 = .ok (.iload 4, 2) := by decide +kernel
theorem dX3_law_145 : decode cX3_law 145 = .ok (.goto 15, 3) := by decide +kernel
theorem dX3_law_148 : decode cX3_law 148 = .ok (.iload_n 3, 1) := by decide +kernel
theorem dX3_law_149 : decode cX3_law 149 = .ok (.iconst 1, 1) := by decide +kernel
theorem dX3_law_150 : decode cX3_law 150 = .ok (.if_icmp .ne 8, 3) := by decide +kernel
theorem dX3_law_153 : decode cX3_law 153 = .ok (.iload 5, 2) := by decide +kernel
theorem dX3_law_155 : decode cX3_law 155 = .ok (.goto 5, 3) := by decide +kernel
theorem dX3_law_158 : decode cX3_law 158 = .ok (.iload 6, 2) := by decide +kernel
theorem dX3_law_160 : decode cX3_law 160 = .ok (.ireturn, 1) := by decide +kernel
theorem dX3_findHalves_0 : decode cX3_findHalves 0 = .ok (.iconst 0, 1) := by decide +kernel
theorem dX3_findHalves_1 : decode cX3_findHalves 1 = .ok (.istore_n 1, 1) := by decide +kernel
theorem dX3_findHalves_2 : decode cX3_findHalves 2 = .ok (.iconst 0, 1) := by decide +kernel
theorem dX3_findHalves_3 : decode cX3_findHalves 3 = .ok (.istore_n 2, 1) := by decide +kernel
theorem dX3_findHalves_4 : decode cX3_findHalves 4 = .ok (.iload_n 2, 1) := by decide +kernel
theorem dX3_findHalves_5 : decode cX3_findHalves 5 = .ok (.iconst 4, 1) := by decide +kernel
theorem dX3_findHalves_6 : decode cX3_findHalves 6 = .ok (.if_icmp .ge 59, 3) := by decide +kernel
theorem dX3_findHalves_9 : decode cX3_findHalves 9 = .ok (.aload_n 0, 1) := by decide +kernel
theorem dX3_findHalves_10 : decode cX3_findHalves 10 = .ok (.getfield 19, 3) := by decide +kernel
theorem dX3_findHalves_13 : decode cX3_findHalves 13 = .ok (.aload_n 0, 1) := by decide +kernel
theorem dX3_findHalves_14 : decode cX3_findHalves 14 = .ok (.getfield 10, 3) := by decide +kernel
theorem dX3_findHalves_17 : decode cX3_findHalves 17 = .ok (.iconst 1, 1) := by decide +kernel
theorem dX3_findHalves_18 : decode cX3_findHalves 18 = .ok (.iload_n 2, 1) := by decide +kernel
theorem dX3_findHalves_19 : decode cX3_findHalves 19 = .ok (.ishl, 1) := by decide +kernel
theorem dX3_findHalves_20 : decode cX3_findHalves 20 = .ok (.iconst (-1), 1) := by decide +kernel
theorem dX3_findHalves_21 : decode cX3_findHalves 21 = .ok (.invokevirtual 94, 3) := by decide +kernel
theorem dX3_findHalves_24 : decode cX3_findHalves 24 = .ok (.aload_n 0, 1) := by decide +kernel
theorem dX3_findHalves_25 : decode cX3_findHalves 25 = .ok (.getfield 34, 3) := by decide +kernel
theorem dX3_findHalves_28 : decode cX3_findHalves 28 = .ok (.iload_n 2, 1) := by decide +kernel
theorem dX3_findHalves_29 : decode cX3_findHalves 29 = .ok (.aload_n 0, 1) := by decide +kernel
theorem dX3_findHalves_30 : decode cX3_findHalves 30 = .ok (.getfield 19, 3) := by decide +kernel
theorem dX3_findHalves_33 : decode cX3_findHalves 33 = .ok (.iconst 1, 1) := by decide +kernel
theorem dX3_findHalves_34 : decode cX3_findHalves 34 = .ok (.iconst 2, 1) := by decide +kernel
theorem dX3_findHalves_35 : decode cX3_findHalves 35 = .ok (.invokevirtual 110, 3) := by decide +kernel
theorem dX3_findHalves_38 : decode cX3_findHalves 38 = .ok (.iastore, 1) := by decide +kernel
theorem dX3_findHalves_39 : decode cX3_findHalves 39 = .ok (.iload_n 1, 1) := by decide +kernel
theorem dX3_findHalves_40 : decode cX3_findHalves 40 = .ok (.ifCond .ne 13, 3) := by decide +kernel
theorem dX3_findHalves_43 : decode cX3_findHalves 43 = .ok (.aload_n 0, 1) := by decide +kernel
theorem dX3_findHalves_44 : decode cX3_findHalves 44 = .ok (.getfield 34, 3) := by decide +kernel
theorem dX3_findHalves_47 : decode cX3_findHalves 47 = .ok (.iload_n 2, 1) := by decide +kernel
theorem dX3_findHalves_48 : decode cX3_findHalves 48 = .ok (.iaload, 1) := by decide +kernel
theorem dX3_findHalves_49 : decode cX3_findHalves 49 = .ok (.iconst (-1), 1) := by decide +kernel
theorem dX3_findHalves_50 : decode cX3_findHalves 50 = .ok (.if_icmp .eq 7, 3) := by decide +kernel
theorem dX3_findHalves_53 : decode cX3_findHalves 53 = .ok (.iconst 1, 1) := by decide +kernel
theorem dX3_findHalves_54 : decode cX3_findHalves 54 = .ok (.goto 4, 3) := by decide +kernel
theorem dX3_findHalves_57 : decode cX3_findHalves 57 = .ok (.iconst 0, 1) := by decide +kernel
theorem dX3_findHalves_58 : decode cX3_findHalves 58 = .ok (.istore_n 1, 1) := by decide +kernel
theorem dX3_findHalves_59 : decode cX3_findHalves 59 = .ok (.iinc 2 1, 3) := by decide +kernel
theorem dX3_findHalves_62 : decode cX3_findHalves 62 = .ok (.goto (-58), 3) := by decide +kernel
theorem dX3_findHalves_65 : decode cX3_findHalves 65 = .ok (.iload_n 1, 1) := by decide +kernel
theorem dX3_findHalves_66 : decode cX3_findHalves 66 = .ok (.ireturn, 1) := by decide +kernel
theorem dX3_missOfHalves_0 : decode cX3_missOfHalves 0 = .ok (.iconst 0, 1) := by decide +kernel
theorem dX3_missOfHalves_1 : decode cX3_missOfHalves 1 = .ok (.istore_n 3, 1) := by decide +kernel
theorem dX3_missOfHalves_2 : decode cX3_missOfHalves 2 = .ok (.iconst 0, 1) := by decide +kernel
theorem dX3_missOfHalves_3 : decode cX3_missOfHalves 3 = .ok (.istore 4, 2) := by decide +kernel
theorem dX3_missOfHalves_5 : decode cX3_missOfHalves 5 = .ok (.iload 4, 2) := by decide +kernel
theorem dX3_missOfHalves_7 : decode cX3_missOfHalves 7 = .ok (.iconst 4, 1) := by decide +kernel
theorem dX3_missOfHalves_8 : decode cX3_missOfHalves 8 = .ok (.if_icmp .ge 41, 3) := by decide +kernel
theorem dX3_missOfHalves_11 : decode cX3_missOfHalves 11 = .ok (.aload_n 0, 1) := by decide +kernel
theorem dX3_missOfHalves_12 : decode cX3_missOfHalves 12 = .ok (.getfield 34, 3) := by decide +kernel
theorem dX3_missOfHalves_15 : decode cX3_missOfHalves 15 = .ok (.iload 4, 2) := by decide +kernel
theorem dX3_missOfHalves_17 : decode cX3_missOfHalves 17 = .ok (.iaload, 1) := by decide +kernel
theorem dX3_missOfHalves_18 : decode cX3_missOfHalves 18 = .ok (.iconst (-1), 1) := by decide +kernel
theorem dX3_missOfHalves_19 : decode cX3_missOfHalves 19 = .ok (.if_icmp .eq 24, 3) := by decide +kernel
theorem dX3_missOfHalves_22 : decode cX3_missOfHalves 22 = .ok (.iload_n 3, 1) := by decide +kernel
theorem dX3_missOfHalves_23 : decode cX3_missOfHalves 23 = .ok (.aload_n 0, 1) := by decide +kernel
theorem dX3_missOfHalves_24 : decode cX3_missOfHalves 24 = .ok (.getfield 34, 3) := by decide +kernel
theorem dX3_missOfHalves_27 : decode cX3_missOfHalves 27 = .ok (.iload 4, 2) := by decide +kernel
theorem dX3_missOfHalves_29 : decode cX3_missOfHalves 29 = .ok (.iaload, 1) := by decide +kernel
theorem dX3_missOfHalves_30 : decode cX3_missOfHalves 30 = .ok (.iload_n 1, 1) := by decide +kernel
theorem dX3_missOfHalves_31 : decode cX3_missOfHalves 31 = .ok (.iload_n 2, 1) := by decide +kernel
theorem dX3_missOfHalves_32 : decode cX3_missOfHalves 32 = .ok (.iload 4, 2) := by decide +kernel
theorem dX3_missOfHalves_34 : decode cX3_missOfHalves 34 = .ok (.invokestatic 128, 3) := by decide +kernel
theorem dX3_missOfHalves_37 : decode cX3_missOfHalves 37 = .ok (.isub, 1) := by decide +kernel
theorem dX3_missOfHalves_38 : decode cX3_missOfHalves 38 = .ok (.invokestatic 140, 3) := by decide +kernel
theorem dX3_missOfHalves_41 : decode cX3_missOfHalves 41 = .ok (.iadd, 1) := by decide +kernel
theorem dX3_missOfHalves_42 : decode cX3_missOfHalves 42 = .ok (.istore_n 3, 1) := by decide +kernel
theorem dX3_missOfHalves_43 : decode cX3_missOfHalves 43 = .ok (.iinc 4 1, 3) := by decide +kernel
theorem dX3_missOfHalves_46 : decode cX3_missOfHalves 46 = .ok (.goto (-41), 3) := by decide +kernel
theorem dX3_missOfHalves_49 : decode cX3_missOfHalves 49 = .ok (.iload_n 3, 1) := by decide +kernel
theorem dX3_missOfHalves_50 : decode cX3_missOfHalves 50 = .ok (.ireturn, 1) := by decide +kernel
theorem dX3_lawAt_0 : decode cX3_lawAt 0 = .ok (.iload_n 0, 1) := by decide +kernel
theorem dX3_lawAt_1 : decode cX3_lawAt 1 = .ok (.istore_n 3, 1) := by decide +kernel
theorem dX3_lawAt_2 : decode cX3_lawAt 2 = .ok (.iconst 0, 1) := by decide +kernel
theorem dX3_lawAt_3 : decode cX3_lawAt 3 = .ok (.istore 4, 2) := by decide +kernel
theorem dX3_lawAt_5 : decode cX3_lawAt 5 = .ok (.iload 4, 2) := by decide +kernel
theorem dX3_lawAt_7 : decode cX3_lawAt 7 = .ok (.iload_n 2, 1) := by decide +kernel
theorem dX3_lawAt_8 : decode cX3_lawAt 8 = .ok (.if_icmp .ge 21, 3) := by decide +kernel
theorem dX3_lawAt_11 : decode cX3_lawAt 11 = .ok (.iload_n 3, 1) := by decide +kernel
theorem dX3_lawAt_12 : decode cX3_lawAt 12 = .ok (.bipush 10, 2) := by decide +kernel
theorem dX3_lawAt_14 : decode cX3_lawAt 14 = .ok (.imul, 1) := by decide +kernel
theorem dX3_lawAt_15 : decode cX3_lawAt 15 = .ok (.bipush 10, 2) := by decide +kernel
theorem dX3_lawAt_17 : decode cX3_lawAt 17 = .ok (.iload_n 1, 1) := by decide +kernel
theorem dX3_lawAt_18 : decode cX3_lawAt 18 = .ok (.iadd, 1) := by decide +kernel
theorem dX3_lawAt_19 : decode cX3_lawAt 19 = .ok (.invokestatic 145, 3) := by decide +kernel
theorem dX3_lawAt_22 : decode cX3_lawAt 22 = .ok (.istore_n 3, 1) := by decide +kernel
theorem dX3_lawAt_23 : decode cX3_lawAt 23 = .ok (.iinc 4 1, 3) := by decide +kernel
theorem dX3_lawAt_26 : decode cX3_lawAt 26 = .ok (.goto (-21), 3) := by decide +kernel
theorem dX3_lawAt_29 : decode cX3_lawAt 29 = .ok (.iload_n 3, 1) := by decide +kernel
theorem dX3_lawAt_30 : decode cX3_lawAt 30 = .ok (.ireturn, 1) := by decide +kernel
theorem dX3_step_0 : decode cX3_step 0 = .ok (.iload_n 1, 1) := by decide +kernel
theorem dX3_step_1 : decode cX3_step 1 = .ok (.invokestatic 122, 3) := by decide +kernel
theorem dX3_step_4 : decode cX3_step 4 = .ok (.ifCond .eq 14, 3) := by decide +kernel
theorem dX3_step_7 : decode cX3_step 7 = .ok (.iload_n 2, 1) := by decide +kernel
theorem dX3_step_8 : decode cX3_step 8 = .ok (.iconst 1, 1) := by decide +kernel
theorem dX3_step_9 : decode cX3_step 9 = .ok (.sipush 500, 3) := by decide +kernel
theorem dX3_step_12 : decode cX3_step 12 = .ok (.invokestatic 75, 3) := by decide +kernel
theorem dX3_step_15 : decode cX3_step 15 = .ok (.ifCond .ne 7, 3) := by decide +kernel
theorem dX3_step_18 : decode cX3_step 18 = .ok (.sipush (-1002), 3) := by decide +kernel
theorem dX3_step_21 : decode cX3_step 21 = .ok (.ireturn, 1) := by decide +kernel
theorem dX3_step_22 : decode cX3_step 22 = .ok (.aload_n 0, 1) := by decide +kernel
theorem dX3_step_23 : decode cX3_step 23 = .ok (.getfield 26, 3) := by decide +kernel
theorem dX3_step_26 : decode cX3_step 26 = .ok (.getfield 148, 3) := by decide +kernel
theorem dX3_step_29 : decode cX3_step 29 = .ok (.bipush 10, 2) := by decide +kernel
theorem dX3_step_31 : decode cX3_step 31 = .ok (.if_icmp .lt 7, 3) := by decide +kernel
theorem dX3_step_34 : decode cX3_step 34 = .ok (.sipush (-1004), 3) := by decide +kernel
theorem dX3_step_37 : decode cX3_step 37 = .ok (.ireturn, 1) := by decide +kernel
theorem dX3_step_38 : decode cX3_step 38 = .ok (.aload_n 0, 1) := by decide +kernel
theorem dX3_step_39 : decode cX3_step 39 = .ok (.getfield 26, 3) := by decide +kernel
theorem dX3_step_42 : decode cX3_step 42 = .ok (.getfield 149, 3) := by decide +kernel
theorem dX3_step_45 : decode cX3_step 45 = .ok (.aload_n 0, 1) := by decide +kernel
theorem dX3_step_46 : decode cX3_step 46 = .ok (.getfield 26, 3) := by decide +kernel
theorem dX3_step_49 : decode cX3_step 49 = .ok (.getfield 148, 3) := by decide +kernel
theorem dX3_step_52 : decode cX3_step 52 = .ok (.iload_n 1, 1) := by decide +kernel
theorem dX3_step_53 : decode cX3_step 53 = .ok (.iastore, 1) := by decide +kernel
theorem dX3_step_54 : decode cX3_step 54 = .ok (.aload_n 0, 1) := by decide +kernel
theorem dX3_step_55 : decode cX3_step 55 = .ok (.getfield 26, 3) := by decide +kernel
theorem dX3_step_58 : decode cX3_step 58 = .ok (.getfield 150, 3) := by decide +kernel
theorem dX3_step_61 : decode cX3_step 61 = .ok (.aload_n 0, 1) := by decide +kernel
theorem dX3_step_62 : decode cX3_step 62 = .ok (.getfield 26, 3) := by decide +kernel
theorem dX3_step_65 : decode cX3_step 65 = .ok (.getfield 148, 3) := by decide +kernel
theorem dX3_step_68 : decode cX3_step 68 = .ok (.iload_n 2, 1) := by decide +kernel
theorem dX3_step_69 : decode cX3_step 69 = .ok (.iastore, 1) := by decide +kernel
theorem dX3_step_70 : decode cX3_step 70 = .ok (.aload_n 0, 1) := by decide +kernel
theorem dX3_step_71 : decode cX3_step 71 = .ok (.getfield 26, 3) := by decide +kernel
theorem dX3_step_74 : decode cX3_step 74 = .ok (.dup, 1) := by decide +kernel
theorem dX3_step_75 : decode cX3_step 75 = .ok (.getfield 148, 3) := by decide +kernel
theorem dX3_step_78 : decode cX3_step 78 = .ok (.iconst 1, 1) := by decide +kernel
theorem dX3_step_79 : decode cX3_step 79 = .ok (.iadd, 1) := by decide +kernel
theorem dX3_step_80 : decode cX3_step 80 = .ok (.putfield 148, 3) := by decide +kernel
theorem dX3_step_83 : decode cX3_step 83 = .ok (.aload_n 0, 1) := by decide +kernel
theorem dX3_step_84 : decode cX3_step 84 = .ok (.getfield 26, 3) := by decide +kernel
theorem dX3_step_87 : decode cX3_step 87 = .ok (.getfield 148, 3) := by decide +kernel
theorem dX3_step_90 : decode cX3_step 90 = .ok (.ireturn, 1) := by decide +kernel
theorem dX3_clear_0 : decode cX3_clear 0 = .ok (.aload_n 0, 1) := by decide +kernel
theorem dX3_clear_1 : decode cX3_clear 1 = .ok (.getfield 26, 3) := by decide +kernel
theorem dX3_clear_4 : decode cX3_clear 4 = .ok (.getfield 148, 3) := by decide +kernel
theorem dX3_clear_7 : decode cX3_clear 7 = .ok (.istore_n 1, 1) := by decide +kernel
theorem dX3_clear_8 : decode cX3_clear 8 = .ok (.aload_n 0, 1) := by decide +kernel
theorem dX3_clear_9 : decode cX3_clear 9 = .ok (.getfield 26, 3) := by decide +kernel
theorem dX3_clear_12 : decode cX3_clear 12 = .ok (.iconst 0, 1) := by decide +kernel
theorem dX3_clear_13 : decode cX3_clear 13 = .ok (.putfield 148, 3) := by decide +kernel
theorem dX3_clear_16 : decode cX3_clear 16 = .ok (.iload_n 1, 1) := by decide +kernel
theorem dX3_clear_17 : decode cX3_clear 17 = .ok (.ireturn, 1) := by decide +kernel
theorem dX3_used_0 : decode cX3_used 0 = .ok (.iload_n 1, 1) := by decide +kernel
theorem dX3_used_1 : decode cX3_used 1 = .ok (.iconst 1, 1) := by decide +kernel
theorem dX3_used_2 : decode cX3_used 2 = .ok (.ldc 139, 2) := by decide +kernel
theorem dX3_used_4 : decode cX3_used 4 = .ok (.invokestatic 75, 3) := by decide +kernel
theorem dX3_used_7 : decode cX3_used 7 = .ok (.ifCond .ne 7, 3) := by decide +kernel
theorem dX3_used_10 : decode cX3_used 10 = .ok (.sipush (-1002), 3) := by decide +kernel
theorem dX3_used_13 : decode cX3_used 13 = .ok (.ireturn, 1) := by decide +kernel
theorem dX3_used_14 : decode cX3_used 14 = .ok (.iconst 0, 1) := by decide +kernel
theorem dX3_used_15 : decode cX3_used 15 = .ok (.istore_n 2, 1) := by decide +kernel
theorem dX3_used_16 : decode cX3_used 16 = .ok (.iconst 0, 1) := by decide +kernel
theorem dX3_used_17 : decode cX3_used 17 = .ok (.istore_n 3, 1) := by decide +kernel
theorem dX3_used_18 : decode cX3_used 18 = .ok (.iload_n 3, 1) := by decide +kernel
theorem dX3_used_19 : decode cX3_used 19 = .ok (.aload_n 0, 1) := by decide +kernel
theorem dX3_used_20 : decode cX3_used 20 = .ok (.getfield 26, 3) := by decide +kernel
theorem dX3_used_23 : decode cX3_used 23 = .ok (.getfield 148, 3) := by decide +kernel
theorem dX3_used_26 : decode cX3_used 26 = .ok (.if_icmp .ge 39, 3) := by decide +kernel
theorem dX3_used_29 : decode cX3_used 29 = .ok (.iload_n 2, 1) := by decide +kernel
theorem dX3_used_30 : decode cX3_used 30 = .ok (.aload_n 0, 1) := by decide +kernel
theorem dX3_used_31 : decode cX3_used 31 = .ok (.getfield 26, 3) := by decide +kernel
theorem dX3_used_34 : decode cX3_used 34 = .ok (.getfield 150, 3) := by decide +kernel
theorem dX3_used_37 : decode cX3_used 37 = .ok (.iload_n 3, 1) := by decide +kernel
theorem dX3_used_38 : decode cX3_used 38 = .ok (.iaload, 1) := by decide +kernel
theorem dX3_used_39 : decode cX3_used 39 = .ok (.aload_n 0, 1) := by decide +kernel
theorem dX3_used_40 : decode cX3_used 40 = .ok (.getfield 30, 3) := by decide +kernel
theorem dX3_used_43 : decode cX3_used 43 = .ok (.aload_n 0, 1) := by decide +kernel
theorem dX3_used_44 : decode cX3_used 44 = .ok (.getfield 26, 3) := by decide +kernel
theorem dX3_used_47 : decode cX3_used 47 = .ok (.getfield 149, 3) := by decide +kernel
theorem dX3_used_50 : decode cX3_used 50 = .ok (.iload_n 3, 1) := by decide +kernel
theorem dX3_used_51 : decode cX3_used 51 = .ok (.iaload, 1) := by decide +kernel
theorem dX3_used_52 : decode cX3_used 52 = .ok (.iaload, 1) := by decide +kernel
theorem dX3_used_53 : decode cX3_used 53 = .ok (.imul, 1) := by decide +kernel
theorem dX3_used_54 : decode cX3_used 54 = .ok (.bipush 10, 2) := by decide +kernel
theorem dX3_used_56 : decode cX3_used 56 = .ok (.imul, 1) := by decide +kernel
theorem dX3_used_57 : decode cX3_used 57 = .ok (.iadd, 1) := by decide +kernel
theorem dX3_used_58 : decode cX3_used 58 = .ok (.istore_n 2, 1) := by decide +kernel
theorem dX3_used_59 : decode cX3_used 59 = .ok (.iinc 3 1, 3) := by decide +kernel
theorem dX3_used_62 : decode cX3_used 62 = .ok (.goto (-44), 3) := by decide +kernel
theorem dX3_used_65 : decode cX3_used 65 = .ok (.iload_n 2, 1) := by decide +kernel
theorem dX3_used_66 : decode cX3_used 66 = .ok (.iload_n 1, 1) := by decide +kernel
theorem dX3_used_67 : decode cX3_used 67 = .ok (.invokestatic 145, 3) := by decide +kernel
theorem dX3_used_70 : decode cX3_used 70 = .ok (.ireturn, 1) := by decide +kernel
theorem dX3_fails_0 : decode cX3_fails 0 = .ok (.iload_n 1, 1) := by decide +kernel
theorem dX3_fails_1 : decode cX3_fails 1 = .ok (.iconst 1, 1) := by decide +kernel
theorem dX3_fails_2 : decode cX3_fails 2 = .ok (.ldc 139, 2) := by decide +kernel
theorem dX3_fails_4 : decode cX3_fails 4 = .ok (.invokestatic 75, 3) := by decide +kernel
theorem dX3_fails_7 : decode cX3_fails 7 = .ok (.ifCond .ne 7, 3) := by decide +kernel
theorem dX3_fails_10 : decode cX3_fails 10 = .ok (.sipush (-1002), 3) := by decide +kernel
theorem dX3_fails_13 : decode cX3_fails 13 = .ok (.ireturn, 1) := by decide +kernel
theorem dX3_fails_14 : decode cX3_fails 14 = .ok (.iload_n 1, 1) := by decide +kernel
theorem dX3_fails_15 : decode cX3_fails 15 = .ok (.bipush 10, 2) := by decide +kernel
theorem dX3_fails_17 : decode cX3_fails 17 = .ok (.imul, 1) := by decide +kernel
theorem dX3_fails_18 : decode cX3_fails 18 = .ok (.istore_n 2, 1) := by decide +kernel
theorem dX3_fails_19 : decode cX3_fails 19 = .ok (.iconst 0, 1) := by decide +kernel
theorem dX3_fails_20 : decode cX3_fails 20 = .ok (.istore_n 3, 1) := by decide +kernel
theorem dX3_fails_21 : decode cX3_fails 21 = .ok (.iconst 0, 1) := by decide +kernel
theorem dX3_fails_22 : decode cX3_fails 22 = .ok (.istore 4, 2) := by decide +kernel
theorem dX3_fails_24 : decode cX3_fails 24 = .ok (.iload 4, 2) := by decide +kernel
theorem dX3_fails_26 : decode cX3_fails 26 = .ok (.aload_n 0, 1) := by decide +kernel
theorem dX3_fails_27 : decode cX3_fails 27 = .ok (.getfield 26, 3) := by decide +kernel
theorem dX3_fails_30 : decode cX3_fails 30 = .ok (.getfield 148, 3) := by decide +kernel
theorem dX3_fails_33 : decode cX3_fails 33 = .ok (.if_icmp .ge 81, 3) := by decide +kernel
theorem dX3_fails_36 : decode cX3_fails 36 = .ok (.aload_n 0, 1) := by decide +kernel
theorem dX3_fails_37 : decode cX3_fails 37 = .ok (.getfield 30, 3) := by decide +kernel
theorem dX3_fails_40 : decode cX3_fails 40 = .ok (.aload_n 0, 1) := by decide +kernel
theorem dX3_fails_41 : decode cX3_fails 41 = .ok (.getfield 26, 3) := by decide +kernel
theorem dX3_fails_44 : decode cX3_fails 44 = .ok (.getfield 149, 3) := by decide +kernel
theorem dX3_fails_47 : decode cX3_fails 47 = .ok (.iload 4, 2) := by decide +kernel
theorem dX3_fails_49 : decode cX3_fails 49 = .ok (.iaload, 1) := by decide +kernel
theorem dX3_fails_50 : decode cX3_fails 50 = .ok (.iaload, 1) := by decide +kernel
theorem dX3_fails_51 : decode cX3_fails 51 = .ok (.istore 5, 2) := by decide +kernel
theorem dX3_fails_53 : decode cX3_fails 53 = .ok (.aload_n 0, 1) := by decide +kernel
theorem dX3_fails_54 : decode cX3_fails 54 = .ok (.getfield 26, 3) := by decide +kernel
theorem dX3_fails_57 : decode cX3_fails 57 = .ok (.getfield 150, 3) := by decide +kernel
theorem dX3_fails_60 : decode cX3_fails 60 = .ok (.iload 4, 2) := by decide +kernel
theorem dX3_fails_62 : decode cX3_fails 62 = .ok (.iaload, 1) := by decide +kernel
theorem dX3_fails_63 : decode cX3_fails 63 = .ok (.iload 5, 2) := by decide +kernel
theorem dX3_fails_65 : decode cX3_fails 65 = .ok (.imul, 1) := by decide +kernel
theorem dX3_fails_66 : decode cX3_fails 66 = .ok (.iload_n 2, 1) := by decide +kernel
theorem dX3_fails_67 : decode cX3_fails 67 = .ok (.if_icmp .lt 12, 3) := by decide +kernel
theorem dX3_fails_70 : decode cX3_fails 70 = .ok (.iload_n 3, 1) := by decide +kernel
theorem dX3_fails_71 : decode cX3_fails 71 = .ok (.iload_n 2, 1) := by decide +kernel
theorem dX3_fails_72 : decode cX3_fails 72 = .ok (.iload 5, 2) := by decide +kernel
theorem dX3_fails_74 : decode cX3_fails 74 = .ok (.invokestatic 153, 3) := by decide +kernel
theorem dX3_fails_77 : decode cX3_fails 77 = .ok (.iadd, 1) := by decide +kernel
theorem dX3_fails_78 : decode cX3_fails 78 = .ok (.ireturn, 1) := by decide +kernel
theorem dX3_fails_79 : decode cX3_fails 79 = .ok (.iload_n 2, 1) := by decide +kernel
theorem dX3_fails_80 : decode cX3_fails 80 = .ok (.aload_n 0, 1) := by decide +kernel
theorem dX3_fails_81 : decode cX3_fails 81 = .ok (.getfield 26, 3) := by decide +kernel
theorem dX3_fails_84 : decode cX3_fails 84 = .ok (.getfield 150, 3) := by decide +kernel
theorem dX3_fails_87 : decode cX3_fails 87 = .ok (.iload 4, 2) := by decide +kernel
theorem dX3_fails_89 : decode cX3_fails 89 = .ok (.iaload, 1) := by decide +kernel
theorem dX3_fails_90 : decode cX3_fails 90 = .ok (.iload 5, 2) := by decide +kernel
theorem dX3_fails_92 : decode cX3_fails 92 = .ok (.imul, 1) := by decide +kernel
theorem dX3_fails_93 : decode cX3_fails 93 = .ok (.isub, 1) := by decide +kernel
theorem dX3_fails_94 : decode cX3_fails 94 = .ok (.istore_n 2, 1) := by decide +kernel
theorem dX3_fails_95 : decode cX3_fails 95 = .ok (.iload_n 3, 1) := by decide +kernel
theorem dX3_fails_96 : decode cX3_fails 96 = .ok (.aload_n 0, 1) := by decide +kernel
theorem dX3_fails_97 : decode cX3_fails 97 = .ok (.getfield 26, 3) := by decide +kernel
theorem dX3_fails_100 : decode cX3_fails 100 = .ok (.getfield 150, 3) := by decide +kernel
theorem dX3_fails_103 : decode cX3_fails 103 = .ok (.iload 4, 2) := by decide +kernel
theorem dX3_fails_105 : decode cX3_fails 105 = .ok (.iaload, 1) := by decide +kernel
theorem dX3_fails_106 : decode cX3_fails 106 = .ok (.iadd, 1) := by decide +kernel
theorem dX3_fails_107 : decode cX3_fails 107 = .ok (.istore_n 3, 1) := by decide +kernel
theorem dX3_fails_108 : decode cX3_fails 108 = .ok (.iinc 4 1, 3) := by decide +kernel
theorem dX3_fails_111 : decode cX3_fails 111 = .ok (.goto (-87), 3) := by decide +kernel
theorem dX3_fails_114 : decode cX3_fails 114 = .ok (.iconst (-1), 1) := by decide +kernel
theorem dX3_fails_115 : decode cX3_fails 115 = .ok (.ireturn, 1) := by decide +kernel
theorem dX3_end_0 : decode cX3_end 0 = .ok (.iload_n 1, 1) := by decide +kernel
theorem dX3_end_1 : decode cX3_end 1 = .ok (.iconst 1, 1) := by decide +kernel
theorem dX3_end_2 : decode cX3_end 2 = .ok (.bipush 12, 2) := by decide +kernel
theorem dX3_end_4 : decode cX3_end 4 = .ok (.invokestatic 75, 3) := by decide +kernel
theorem dX3_end_7 : decode cX3_end 7 = .ok (.ifCond .eq 33, 3) := by decide +kernel
theorem dX3_end_10 : decode cX3_end 10 = .ok (.iload_n 2, 1) := by decide +kernel
theorem dX3_end_11 : decode cX3_end 11 = .ok (.iconst 0, 1) := by decide +kernel
theorem dX3_end_12 : decode cX3_end 12 = .ok (.iload_n 1, 1) := by decide +kernel
theorem dX3_end_13 : decode cX3_end 13 = .ok (.invokestatic 75, 3) := by decide +kernel
theorem dX3_end_16 : decode cX3_end 16 = .ok (.ifCond .eq 24, 3) := by decide +kernel
theorem dX3_end_19 : decode cX3_end 19 = .ok (.iload_n 3, 1) := by decide +kernel
theorem dX3_end_20 : decode cX3_end 20 = .ok (.bipush 50, 2) := by decide +kernel
theorem dX3_end_22 : decode cX3_end 22 = .ok (.bipush 99, 2) := by decide +kernel
theorem dX3_end_24 : decode cX3_end 24 = .ok (.invokestatic 75, 3) := by decide +kernel
theorem dX3_end_27 : decode cX3_end 27 = .ok (.ifCond .eq 13, 3) := by decide +kernel
theorem dX3_end_30 : decode cX3_end 30 = .ok (.iload 4, 2) := by decide +kernel
theorem dX3_end_32 : decode cX3_end 32 = .ok (.iconst 0, 1) := by decide +kernel
theorem dX3_end_33 : decode cX3_end 33 = .ok (.iconst 1, 1) := by decide +kernel
theorem dX3_end_34 : decode cX3_end 34 = .ok (.invokestatic 75, 3) := by decide +kernel
theorem dX3_end_37 : decode cX3_end 37 = .ok (.ifCond .ne 7, 3) := by decide +kernel
theorem dX3_end_40 : decode cX3_end 40 = .ok (.sipush (-1002), 3) := by decide +kernel
theorem dX3_end_43 : decode cX3_end 43 = .ok (.ireturn, 1) := by decide +kernel
theorem dX3_end_44 : decode cX3_end 44 = .ok (.iload 4, 2) := by decide +kernel
theorem dX3_end_46 : decode cX3_end 46 = .ok (.ifCond .ne 15, 3) := by decide +kernel
theorem dX3_end_49 : decode cX3_end 49 = .ok (.iload_n 1, 1) := by decide +kernel
theorem dX3_end_50 : decode cX3_end 50 = .ok (.iload_n 2, 1) := by decide +kernel
theorem dX3_end_51 : decode cX3_end 51 = .ok (.bipush 100, 2) := by decide +kernel
theorem dX3_end_53 : decode cX3_end 53 = .ok (.iload_n 3, 1) := by decide +kernel
theorem dX3_end_54 : decode cX3_end 54 = .ok (.isub, 1) := by decide +kernel
theorem dX3_end_55 : decode cX3_end 55 = .ok (.invokestatic 156, 3) := by decide +kernel
theorem dX3_end_58 : decode cX3_end 58 = .ok (.goto 12, 3) := by decide +kernel
theorem dX3_end_61 : decode cX3_end 61 = .ok (.iload_n 1, 1) := by decide +kernel
theorem dX3_end_62 : decode cX3_end 62 = .ok (.iload_n 2, 1) := by decide +kernel
theorem dX3_end_63 : decode cX3_end 63 = .ok (.bipush 100, 2) := by decide +kernel
theorem dX3_end_65 : decode cX3_end 65 = .ok (.iload_n 3, 1) := by decide +kernel
theorem dX3_end_66 : decode cX3_end 66 = .ok (.isub, 1) := by decide +kernel
theorem dX3_end_67 : decode cX3_end 67 = .ok (.invokestatic 159, 3) := by decide +kernel
theorem dX3_end_70 : decode cX3_end 70 = .ok (.ireturn, 1) := by decide +kernel
theorem dX3_lowEnd_0 : decode cX3_lowEnd 0 = .ok (.bipush 10, 2) := by decide +kernel
theorem dX3_lowEnd_2 : decode cX3_lowEnd 2 = .ok (.istore_n 3, 1) := by decide +kernel
theorem dX3_lowEnd_3 : decode cX3_lowEnd 3 = .ok (.iload_n 3, 1) := by decide +kernel
theorem dX3_lowEnd_4 : decode cX3_lowEnd 4 = .ok (.ifCond .le 26, 3) := by decide +kernel
theorem dX3_lowEnd_7 : decode cX3_lowEnd 7 = .ok (.iload_n 2, 1) := by decide +kernel
theorem dX3_lowEnd_8 : decode cX3_lowEnd 8 = .ok (.iload_n 0, 1) := by decide +kernel
theorem dX3_lowEnd_9 : decode cX3_lowEnd 9 = .ok (.iload_n 0, 1) := by decide +kernel
theorem dX3_lowEnd_10 : decode cX3_lowEnd 10 = .ok (.iload_n 1, 1) := by decide +kernel
theorem dX3_lowEnd_11 : decode cX3_lowEnd 11 = .ok (.iload_n 0, 1) := by decide +kernel
theorem dX3_lowEnd_12 : decode cX3_lowEnd 12 = .ok (.iload_n 3, 1) := by decide +kernel
theorem dX3_lowEnd_13 : decode cX3_lowEnd 13 = .ok (.invokestatic 162, 3) := by decide +kernel
theorem dX3_lowEnd_16 : decode cX3_lowEnd 16 = .ok (.invokestatic 166, 3) := by decide +kernel
theorem dX3_lowEnd_19 : decode cX3_lowEnd 19 = .ok (.ifCond .eq 5, 3) := by decide +kernel
theorem dX3_lowEnd_22 : decode cX3_lowEnd 22 = .ok (.iload_n 3, 1) := by decide +kernel
theorem dX3_lowEnd_23 : decode cX3_lowEnd 23 = .ok (.ireturn, 1) := by decide +kernel
theorem dX3_lowEnd_24 : decode cX3_lowEnd 24 = .ok (.iinc 3 (-1), 3) := by decide +kernel
theorem dX3_lowEnd_27 : decode cX3_lowEnd 27 = .ok (.goto (-24), 3) := by decide +kernel
theorem dX3_lowEnd_30 : decode cX3_lowEnd 30 = .ok (.iconst 0, 1) := by decide +kernel
theorem dX3_lowEnd_31 : decode cX3_lowEnd 31 = .ok (.ireturn, 1) := by decide +kernel
theorem dX3_highEnd_0 : decode cX3_highEnd 0 = .ok (.iconst 0, 1) := by decide +kernel
theorem dX3_highEnd_1 : decode cX3_highEnd 1 = .ok (.istore_n 3, 1) := by decide +kernel
theorem dX3_highEnd_2 : decode cX3_highEnd 2 = .ok (.iload_n 3, 1) := by decide +kernel
theorem dX3_highEnd_3 : decode cX3_highEnd 3 = .ok (.bipush 10, 2) := by decide +kernel
theorem dX3_highEnd_5 : decode cX3_highEnd 5 = .ok (.if_icmp .ge 26, 3) := by decide +kernel
theorem dX3_highEnd_8 : decode cX3_highEnd 8 = .ok (.iload_n 2, 1) := by decide +kernel
theorem dX3_highEnd_9 : decode cX3_highEnd 9 = .ok (.iload_n 0, 1) := by decide +kernel
theorem dX3_highEnd_10 : decode cX3_highEnd 10 = .ok (.iload_n 0, 1) := by decide +kernel
theorem dX3_highEnd_11 : decode cX3_highEnd 11 = .ok (.iconst 0, 1) := by decide +kernel
theorem dX3_highEnd_12 : decode cX3_highEnd 12 = .ok (.iload_n 1, 1) := by decide +kernel
theorem dX3_highEnd_13 : decode cX3_highEnd 13 = .ok (.iload_n 3, 1) := by decide +kernel
theorem dX3_highEnd_14 : decode cX3_highEnd 14 = .ok (.invokestatic 162, 3) := by decide +kernel
theorem dX3_highEnd_17 : decode cX3_highEnd 17 = .ok (.invokestatic 166, 3) := by decide +kernel
theorem dX3_highEnd_20 : decode cX3_highEnd 20 = .ok (.ifCond .eq 5, 3) := by decide +kernel
theorem dX3_highEnd_23 : decode cX3_highEnd 23 = .ok (.iload_n 3, 1) := by decide +kernel
theorem dX3_highEnd_24 : decode cX3_highEnd 24 = .ok (.ireturn, 1) := by decide +kernel
theorem dX3_highEnd_25 : decode cX3_highEnd 25 = .ok (.iinc 3 1, 3) := by decide +kernel
theorem dX3_highEnd_28 : decode cX3_highEnd 28 = .ok (.goto (-26), 3) := by decide +kernel
theorem dX3_highEnd_31 : decode cX3_highEnd 31 = .ok (.bipush 10, 2) := by decide +kernel
theorem dX3_highEnd_33 : decode cX3_highEnd 33 = .ok (.ireturn, 1) := by decide +kernel
theorem dX3_isAtMost_0 : decode cX3_isAtMost 0 = .ok (.lload_n 2, 1) := by decide +kernel
theorem dX3_isAtMost_1 : decode cX3_isAtMost 1 = .ok (.ldc2_w 170, 3) := by decide +kernel
theorem dX3_isAtMost_4 : decode cX3_isAtMost 4 = .ok (.lmul, 1) := by decide +kernel
theorem dX3_isAtMost_5 : decode cX3_isAtMost 5 = .ok (.iload_n 0, 1) := by decide +kernel
theorem dX3_isAtMost_6 : decode cX3_isAtMost 6 = .ok (.i2l, 1) := by decide +kernel
theorem dX3_isAtMost_7 : decode cX3_isAtMost 7 = .ok (.bipush 10, 2) := by decide +kernel
theorem dX3_isAtMost_9 : decode cX3_isAtMost 9 = .ok (.iload_n 1, 1) := by decide +kernel
theorem dX3_isAtMost_10 : decode cX3_isAtMost 10 = .ok (.invokestatic 172, 3) := by decide +kernel
theorem dX3_isAtMost_13 : decode cX3_isAtMost 13 = .ok (.lmul, 1) := by decide +kernel
theorem dX3_isAtMost_14 : decode cX3_isAtMost 14 = .ok (.lcmp, 1) := by decide +kernel
theorem dX3_isAtMost_15 : decode cX3_isAtMost 15 = .ok (.ifCond .gt 7, 3) := by decide +kernel
theorem dX3_isAtMost_18 : decode cX3_isAtMost 18 = .ok (.iconst 1, 1) := by decide +kernel
theorem dX3_isAtMost_19 : decode cX3_isAtMost 19 = .ok (.goto 4, 3) := by decide +kernel
theorem dX3_isAtMost_22 : decode cX3_isAtMost 22 = .ok (.iconst 0, 1) := by decide +kernel
theorem dX3_isAtMost_23 : decode cX3_isAtMost 23 = .ok (.ireturn, 1) := by decide +kernel
theorem dX3_casesOf_0 : decode cX3_casesOf 0 = .ok (.lconst 0, 1) := by decide +kernel
theorem dX3_casesOf_1 : decode cX3_casesOf 1 = .ok (.lstore 4, 2) := by decide +kernel
theorem dX3_casesOf_3 : decode cX3_casesOf 3 = .ok (.iload_n 1, 1) := by decide +kernel
theorem dX3_casesOf_4 : decode cX3_casesOf 4 = .ok (.istore 6, 2) := by decide +kernel
theorem dX3_casesOf_6 : decode cX3_casesOf 6 = .ok (.iload 6, 2) := by decide +kernel
theorem dX3_casesOf_8 : decode cX3_casesOf 8 = .ok (.iload_n 2, 1) := by decide +kernel
theorem dX3_casesOf_9 : decode cX3_casesOf 9 = .ok (.if_icmp .gt 39, 3) := by decide +kernel
theorem dX3_casesOf_12 : decode cX3_casesOf 12 = .ok (.lload 4, 2) := by decide +kernel
theorem dX3_casesOf_14 : decode cX3_casesOf 14 = .ok (.iload_n 0, 1) := by decide +kernel
theorem dX3_casesOf_15 : decode cX3_casesOf 15 = .ok (.iload 6, 2) := by decide +kernel
theorem dX3_casesOf_17 : decode cX3_casesOf 17 = .ok (.invokestatic 175, 3) := by decide +kernel
theorem dX3_casesOf_20 : decode cX3_casesOf 20 = .ok (.iload_n 3, 1) := by decide +kernel
theorem dX3_casesOf_21 : decode cX3_casesOf 21 = .ok (.iload 6, 2) := by decide +kernel
theorem dX3_casesOf_23 : decode cX3_casesOf 23 = .ok (.invokestatic 172, 3) := by decide +kernel
theorem dX3_casesOf_26 : decode cX3_casesOf 26 = .ok (.lmul, 1) := by decide +kernel
theorem dX3_casesOf_27 : decode cX3_casesOf 27 = .ok (.bipush 10, 2) := by decide +kernel
theorem dX3_casesOf_29 : decode cX3_casesOf 29 = .ok (.iload_n 3, 1) := by decide +kernel
theorem dX3_casesOf_30 : decode cX3_casesOf 30 = .ok (.isub, 1) := by decide +kernel
theorem dX3_casesOf_31 : decode cX3_casesOf 31 = .ok (.iload_n 0, 1) := by decide +kernel
theorem dX3_casesOf_32 : decode cX3_casesOf 32 = .ok (.iload 6, 2) := by decide +kernel
theorem dX3_casesOf_34 : decode cX3_casesOf 34 = .ok (.isub, 1) := by decide +kernel
theorem dX3_casesOf_35 : decode cX3_casesOf 35 = .ok (.invokestatic 172, 3) := by decide +kernel
theorem dX3_casesOf_38 : decode cX3_casesOf 38 = .ok (.lmul, 1) := by decide +kernel
theorem dX3_casesOf_39 : decode cX3_casesOf 39 = .ok (.ladd, 1) := by decide +kernel
theorem dX3_casesOf_40 : decode cX3_casesOf 40 = .ok (.lstore 4, 2) := by decide +kernel
theorem dX3_casesOf_42 : decode cX3_casesOf 42 = .ok (.iinc 6 1, 3) := by decide +kernel
theorem dX3_casesOf_45 : decode cX3_casesOf 45 = .ok (.goto (-39), 3) := by decide +kernel
theorem dX3_casesOf_48 : decode cX3_casesOf 48 = .ok (.lload 4, 2) := by decide +kernel
theorem dX3_casesOf_50 : decode cX3_casesOf 50 = .ok (.lreturn, 1) := by decide +kernel
theorem dX3_ways_0 : decode cX3_ways 0 = .ok (.lconst 1, 1) := by decide +kernel
theorem dX3_ways_1 : decode cX3_ways 1 = .ok (.lstore_n 2, 1) := by decide +kernel
theorem dX3_ways_2 : decode cX3_ways 2 = .ok (.iconst 0, 1) := by decide +kernel
theorem dX3_ways_3 : decode cX3_ways 3 = .ok (.istore 4, 2) := by decide +kernel
theorem dX3_ways_5 : decode cX3_ways 5 = .ok (.iload 4, 2) := by decide +kernel
theorem dX3_ways_7 : decode cX3_ways 7 = .ok (.iload_n 1, 1) := by decide +kernel
theorem dX3_ways_8 : decode cX3_ways 8 = .ok (.if_icmp .ge 23, 3) := by decide +kernel
theorem dX3_ways_11 : decode cX3_ways 11 = .ok (.lload_n 2, 1) := by decide +kernel
theorem dX3_ways_12 : decode cX3_ways 12 = .ok (.iload_n 0, 1) := by decide +kernel
theorem dX3_ways_13 : decode cX3_ways 13 = .ok (.iload 4, 2) := by decide +kernel
theorem dX3_ways_15 : decode cX3_ways 15 = .ok (.isub, 1) := by decide +kernel
theorem dX3_ways_16 : decode cX3_ways 16 = .ok (.i2l, 1) := by decide +kernel
theorem dX3_ways_17 : decode cX3_ways 17 = .ok (.lmul, 1) := by decide +kernel
theorem dX3_ways_18 : decode cX3_ways 18 = .ok (.iload 4, 2) := by decide +kernel
theorem dX3_ways_20 : decode cX3_ways 20 = .ok (.iconst 1, 1) := by decide +kernel
theorem dX3_ways_21 : decode cX3_ways 21 = .ok (.iadd, 1) := by decide +kernel
theorem dX3_ways_22 : decode cX3_ways 22 = .ok (.i2l, 1) := by decide +kernel
theorem dX3_ways_23 : decode cX3_ways 23 = .ok (.ldiv, 1) := by decide +kernel
theorem dX3_ways_24 : decode cX3_ways 24 = .ok (.lstore_n 2, 1) := by decide +kernel
theorem dX3_ways_25 : decode cX3_ways 25 = .ok (.iinc 4 1, 3) := by decide +kernel
theorem dX3_ways_28 : decode cX3_ways 28 = .ok (.goto (-23), 3) := by decide +kernel
theorem dX3_ways_31 : decode cX3_ways 31 = .ok (.lload_n 2, 1) := by decide +kernel
theorem dX3_ways_32 : decode cX3_ways 32 = .ok (.lreturn, 1) := by decide +kernel
theorem dX3_power_0 : decode cX3_power 0 = .ok (.lconst 1, 1) := by decide +kernel
theorem dX3_power_1 : decode cX3_power 1 = .ok (.lstore_n 2, 1) := by decide +kernel
theorem dX3_power_2 : decode cX3_power 2 = .ok (.iconst 0, 1) := by decide +kernel
theorem dX3_power_3 : decode cX3_power 3 = .ok (.istore 4, 2) := by decide +kernel
theorem dX3_power_5 : decode cX3_power 5 = .ok (.iload 4, 2) := by decide +kernel
theorem dX3_power_7 : decode cX3_power 7 = .ok (.iload_n 1, 1) := by decide +kernel
theorem dX3_power_8 : decode cX3_power 8 = .ok (.if_icmp .ge 14, 3) := by decide +kernel
theorem dX3_power_11 : decode cX3_power 11 = .ok (.lload_n 2, 1) := by decide +kernel
theorem dX3_power_12 : decode cX3_power 12 = .ok (.iload_n 0, 1) := by decide +kernel
theorem dX3_power_13 : decode cX3_power 13 = .ok (.i2l, 1) := by decide +kernel
theorem dX3_power_14 : decode cX3_power 14 = .ok (.lmul, 1) := by decide +kernel
theorem dX3_power_15 : decode cX3_power 15 = .ok (.lstore_n 2, 1) := by decide +kernel
theorem dX3_power_16 : decode cX3_power 16 = .ok (.iinc 4 1, 3) := by decide +kernel
theorem dX3_power_19 : decode cX3_power 19 = .ok (.goto (-14), 3) := by decide +kernel
theorem dX3_power_22 : decode cX3_power 22 = .ok (.lload_n 2, 1) := by decide +kernel
theorem dX3_power_23 : decode cX3_power 23 = .ok (.lreturn, 1) := by decide +kernel
theorem dX3_rule_0 : decode cX3_rule 0 = .ok (.iload_n 1, 1) := by decide +kernel
theorem dX3_rule_1 : decode cX3_rule 1 = .ok (.ifCond .ne 26, 3) := by decide +kernel
theorem dX3_rule_4 : decode cX3_rule 4 = .ok (.iload_n 2, 1) := by decide +kernel
theorem dX3_rule_5 : decode cX3_rule 5 = .ok (.iconst 1, 1) := by decide +kernel
theorem dX3_rule_6 : decode cX3_rule 6 = .ok (.sipush 500, 3) := by decide +kernel
theorem dX3_rule_9 : decode cX3_rule 9 = .ok (.invokestatic 75, 3) := by decide +kernel
theorem dX3_rule_12 : decode cX3_rule 12 = .ok (.ifCond .eq 15, 3) := by decide +kernel
theorem dX3_rule_15 : decode cX3_rule 15 = .ok (.aload_n 0, 1) := by decide +kernel
theorem dX3_rule_16 : decode cX3_rule 16 = .ok (.getfield 37, 3) := by decide +kernel
theorem dX3_rule_19 : decode cX3_rule 19 = .ok (.istore_n 3, 1) := by decide +kernel
theorem dX3_rule_20 : decode cX3_rule 20 = .ok (.aload_n 0, 1) := by decide +kernel
theorem dX3_rule_21 : decode cX3_rule 21 = .ok (.iload_n 2, 1) := by decide +kernel
theorem dX3_rule_22 : decode cX3_rule 22 = .ok (.putfield 37, 3) := by decide +kernel
theorem dX3_rule_25 : decode cX3_rule 25 = .ok (.iload_n 3, 1) := by decide +kernel
theorem dX3_rule_26 : decode cX3_rule 26 = .ok (.ireturn, 1) := by decide +kernel
theorem dX3_rule_27 : decode cX3_rule 27 = .ok (.iload_n 1, 1) := by decide +kernel
theorem dX3_rule_28 : decode cX3_rule 28 = .ok (.iconst 1, 1) := by decide +kernel
theorem dX3_rule_29 : decode cX3_rule 29 = .ok (.if_icmp .ne 25, 3) := by decide +kernel
theorem dX3_rule_32 : decode cX3_rule 32 = .ok (.iload_n 2, 1) := by decide +kernel
theorem dX3_rule_33 : decode cX3_rule 33 = .ok (.iconst 0, 1) := by decide +kernel
theorem dX3_rule_34 : decode cX3_rule 34 = .ok (.bipush 20, 2) := by decide +kernel
theorem dX3_rule_36 : decode cX3_rule 36 = .ok (.invokestatic 75, 3) := by decide +kernel
theorem dX3_rule_39 : decode cX3_rule 39 = .ok (.ifCond .eq 15, 3) := by decide +kernel
theorem dX3_rule_42 : decode cX3_rule 42 = .ok (.aload_n 0, 1) := by decide +kernel
theorem dX3_rule_43 : decode cX3_rule 43 = .ok (.getfield 41, 3) := by decide +kernel
theorem dX3_rule_46 : decode cX3_rule 46 = .ok (.istore_n 3, 1) := by decide +kernel
theorem dX3_rule_47 : decode cX3_rule 47 = .ok (.aload_n 0, 1) := by decide +kernel
theorem dX3_rule_48 : decode cX3_rule 48 = .ok (.iload_n 2, 1) := by decide +kernel
theorem dX3_rule_49 : decode cX3_rule 49 = .ok (.putfield 41, 3) := by decide +kernel
theorem dX3_rule_52 : decode cX3_rule 52 = .ok (.iload_n 3, 1) := by decide +kernel
theorem dX3_rule_53 : decode cX3_rule 53 = .ok (.ireturn, 1) := by decide +kernel
theorem dX3_rule_54 : decode cX3_rule 54 = .ok (.sipush (-1002), 3) := by decide +kernel
theorem dX3_rule_57 : decode cX3_rule 57 = .ok (.ireturn, 1) := by decide +kernel
theorem dX3_plan_0 : decode cX3_plan 0 = .ok (.iload_n 1, 1) := by decide +kernel
theorem dX3_plan_1 : decode cX3_plan 1 = .ok (.iconst 0, 1) := by decide +kernel
theorem dX3_plan_2 : decode cX3_plan 2 = .ok (.sipush 10000, 3) := by decide +kernel
theorem dX3_plan_5 : decode cX3_plan 5 = .ok (.invokestatic 75, 3) := by decide +kernel
theorem dX3_plan_8 : decode cX3_plan 8 = .ok (.ifCond .eq 23, 3) := by decide +kernel
theorem dX3_plan_11 : decode cX3_plan 11 = .ok (.iload_n 2, 1) := by decide +kernel
theorem dX3_plan_12 : decode cX3_plan 12 = .ok (.iconst 1, 1) := by decide +kernel
theorem dX3_plan_13 : decode cX3_plan 13 = .ok (.sipush 500, 3) := by decide +kernel
theorem dX3_plan_16 : decode cX3_plan 16 = .ok (.invokestatic 75, 3) := by decide +kernel
theorem dX3_plan_19 : decode cX3_plan 19 = .ok (.ifCond .eq 12, 3) := by decide +kernel
theorem dX3_plan_22 : decode cX3_plan 22 = .ok (.iload_n 3, 1) := by decide +kernel
theorem dX3_plan_23 : decode cX3_plan 23 = .ok (.iconst 0, 1) := by decide +kernel
theorem dX3_plan_24 : decode cX3_plan 24 = .ok (.iconst 2, 1) := by decide +kernel
theorem dX3_plan_25 : decode cX3_plan 25 = .ok (.invokestatic 75, 3) := by decide +kernel
theorem dX3_plan_28 : decode cX3_plan 28 = .ok (.ifCond .ne 7, 3) := by decide +kernel
theorem dX3_plan_31 : decode cX3_plan 31 = .ok (.sipush (-1002), 3) := by decide +kernel
theorem dX3_plan_34 : decode cX3_plan 34 = .ok (.ireturn, 1) := by decide +kernel
theorem dX3_plan_35 : decode cX3_plan 35 = .ok (.aload_n 0, 1) := by decide +kernel
theorem dX3_plan_36 : decode cX3_plan 36 = .ok (.getfield 37, 3) := by decide +kernel
theorem dX3_plan_39 : decode cX3_plan 39 = .ok (.iload_n 2, 1) := by decide +kernel
theorem dX3_plan_40 : decode cX3_plan 40 = .ok (.aload_n 0, 1) := by decide +kernel
theorem dX3_plan_41 : decode cX3_plan 41 = .ok (.getfield 41, 3) := by decide +kernel
theorem dX3_plan_44 : decode cX3_plan 44 = .ok (.imul, 1) := by decide +kernel
theorem dX3_plan_45 : decode cX3_plan 45 = .ok (.iadd, 1) := by decide +kernel
theorem dX3_plan_46 : decode cX3_plan 46 = .ok (.istore 4, 2) := by decide +kernel
theorem dX3_plan_48 : decode cX3_plan 48 = .ok (.aload_n 0, 1) := by decide +kernel
theorem dX3_plan_49 : decode cX3_plan 49 = .ok (.getfield 37, 3) := by decide +kernel
theorem dX3_plan_52 : decode cX3_plan 52 = .ok (.iload_n 2, 1) := by decide +kernel
theorem dX3_plan_53 : decode cX3_plan 53 = .ok (.bipush 10, 2) := by decide +kernel
theorem dX3_plan_55 : decode cX3_plan 55 = .ok (.imul, 1) := by decide +kernel
theorem dX3_plan_56 : decode cX3_plan 56 = .ok (.aload_n 0, 1) := by decide +kernel
theorem dX3_plan_57 : decode cX3_plan 57 = .ok (.getfield 30, 3) := by decide +kernel
theorem dX3_plan_60 : decode cX3_plan 60 = .ok (.iconst 2, 1) := by decide +kernel
theorem dX3_plan_61 : decode cX3_plan 61 = .ok (.iaload, 1) := by decide +kernel
theorem dX3_plan_62 : decode cX3_plan 62 = .ok (.invokestatic 153, 3) := by decide +kernel
theorem dX3_plan_65 : decode cX3_plan 65 = .ok (.aload_n 0, 1) := by decide +kernel
theorem dX3_plan_66 : decode cX3_plan 66 = .ok (.getfield 41, 3) := by decide +kernel
theorem dX3_plan_69 : decode cX3_plan 69 = .ok (.imul, 1) := by decide +kernel
theorem dX3_plan_70 : decode cX3_plan 70 = .ok (.iadd, 1) := by decide +kernel
theorem dX3_plan_71 : decode cX3_plan 71 = .ok (.istore 5, 2) := by decide +kernel
theorem dX3_plan_73 : decode cX3_plan 73 = .ok (.bipush 24, 2) := by decide +kernel
theorem dX3_plan_75 : decode cX3_plan 75 = .ok (.istore 6, 2) := by decide +kernel
theorem dX3_plan_77 : decode cX3_plan 77 = .ok (.iload 6, 2) := by decide +kernel
theorem dX3_plan_79 : decode cX3_plan 79 = .ok (.ifCond .le 85, 3) := by decide +kernel
theorem dX3_plan_82 : decode cX3_plan 82 = .ok (.iload 6, 2) := by decide +kernel
theorem dX3_plan_84 : decode cX3_plan 84 = .ok (.bipush 12, 2) := by decide +kernel
theorem dX3_plan_86 : decode cX3_plan 86 = .ok (.invokestatic 178, 3) := by decide +kernel
theorem dX3_plan_89 : decode cX3_plan 89 = .ok (.istore 7, 2) := by decide +kernel
theorem dX3_plan_91 : decode cX3_plan 91 = .ok (.iload 7, 2) := by decide +kernel
theorem dX3_plan_93 : decode cX3_plan 93 = .ok (.iconst 0, 1) := by decide +kernel
theorem dX3_plan_94 : decode cX3_plan 94 = .ok (.iload 6, 2) := by decide +kernel
theorem dX3_plan_96 : decode cX3_plan 96 = .ok (.bipush 12, 2) := by decide +kernel
theorem dX3_plan_98 : decode cX3_plan 98 = .ok (.isub, 1) := by decide +kernel
theorem dX3_plan_99 : decode cX3_plan 99 = .ok (.invokestatic 181, 3) := by decide +kernel
theorem dX3_plan_102 : decode cX3_plan 102 = .ok (.if_icmp .lt 56, 3) := by decide +kernel
theorem dX3_plan_105 : decode cX3_plan 105 = .ok (.iload 7, 2) := by decide +kernel
theorem dX3_plan_107 : decode cX3_plan 107 = .ok (.iload 4, 2) := by decide +kernel
theorem dX3_plan_109 : decode cX3_plan 109 = .ok (.imul, 1) := by decide +kernel
theorem dX3_plan_110 : decode cX3_plan 110 = .ok (.iload 6, 2) := by decide +kernel
theorem dX3_plan_112 : decode cX3_plan 112 = .ok (.iload 7, 2) := by decide +kernel
theorem dX3_plan_114 : decode cX3_plan 114 = .ok (.isub, 1) := by decide +kernel
theorem dX3_plan_115 : decode cX3_plan 115 = .ok (.iload 5, 2) := by decide +kernel
theorem dX3_plan_117 : decode cX3_plan 117 = .ok (.imul, 1) := by decide +kernel
theorem dX3_plan_118 : decode cX3_plan 118 = .ok (.iadd, 1) := by decide +kernel
theorem dX3_plan_119 : decode cX3_plan 119 = .ok (.istore 8, 2) := by decide +kernel
theorem dX3_plan_121 : decode cX3_plan 121 = .ok (.iload 8, 2) := by decide +kernel
theorem dX3_plan_123 : decode cX3_plan 123 = .ok (.iload_n 1, 1) := by decide +kernel
theorem dX3_plan_124 : decode cX3_plan 124 = .ok (.if_icmp .gt 28, 3) := by decide +kernel
theorem dX3_plan_127 : decode cX3_plan 127 = .ok (.iload_n 3, 1) := by decide +kernel
theorem dX3_plan_128 : decode cX3_plan 128 = .ok (.ifCond .ne 8, 3) := by decide +kernel
theorem dX3_plan_131 : decode cX3_plan 131 = .ok (.iload 7, 2) := by decide +kernel
theorem dX3_plan_133 : decode cX3_plan 133 = .ok (.goto 18, 3) := by decide +kernel
theorem dX3_plan_136 : decode cX3_plan 136 = .ok (.iload_n 3, 1) := by decide +kernel
theorem dX3_plan_137 : decode cX3_plan 137 = .ok (.iconst 1, 1) := by decide +kernel
theorem dX3_plan_138 : decode cX3_plan 138 = .ok (.if_icmp .ne 11, 3) := by decide +kernel
theorem dX3_plan_141 : decode cX3_plan 141 = .ok (.iload 6, 2) := by decide +kernel
theorem dX3_plan_143 : decode cX3_plan 143 = .ok (.iload 7, 2) := by decide +kernel
theorem dX3_plan_145 : decode cX3_plan 145 = .ok (.isub, 1) := by decide +kernel
theorem dX3_plan_146 : decode cX3_plan 146 = .ok (.goto 5, 3) := by decide +kernel
theorem dX3_plan_149 : decode cX3_plan 149 = .ok (.iload 8, 2) := by decide +kernel
theorem dX3_plan_151 : decode cX3_plan 151 = .ok (.ireturn, 1) := by decide +kernel
theorem dX3_plan_152 : decode cX3_plan 152 = .ok (.iinc 7 (-1), 3) := by decide +kernel
theorem dX3_plan_155 : decode cX3_plan 155 = .ok (.goto (-64), 3) := by decide +kernel
theorem dX3_plan_158 : decode cX3_plan 158 = .ok (.iinc 6 (-1), 3) := by decide +kernel
theorem dX3_plan_161 : decode cX3_plan 161 = .ok (.goto (-84), 3) := by decide +kernel
theorem dX3_plan_164 : decode cX3_plan 164 = .ok (.iconst 0, 1) := by decide +kernel
theorem dX3_plan_165 : decode cX3_plan 165 = .ok (.ireturn, 1) := by decide +kernel
theorem dX3_isWithin_0 : decode cX3_isWithin 0 = .ok (.iload_n 1, 1) := by decide +kernel
theorem dX3_isWithin_1 : decode cX3_isWithin 1 = .ok (.iload_n 0, 1) := by decide +kernel
theorem dX3_isWithin_2 : decode cX3_isWithin 2 = .ok (.if_icmp .gt 12, 3) := by decide +kernel
theorem dX3_isWithin_5 : decode cX3_isWithin 5 = .ok (.iload_n 0, 1) := by decide +kernel
theorem dX3_isWithin_6 : decode cX3_isWithin 6 = .ok (.iload_n 2, 1) := by decide +kernel
theorem dX3_isWithin_7 : decode cX3_isWithin 7 = .ok (.if_icmp .gt 7, 3) := by decide +kernel
theorem dX3_isWithin_10 : decode cX3_isWithin 10 = .ok (.iconst 1, 1) := by decide +kernel
theorem dX3_isWithin_11 : decode cX3_isWithin 11 = .ok (.goto 4, 3) := by decide +kernel
theorem dX3_isWithin_14 : decode cX3_isWithin 14 = .ok (.iconst 0, 1) := by decide +kernel
theorem dX3_isWithin_15 : decode cX3_isWithin 15 = .ok (.ireturn, 1) := by decide +kernel
theorem dX3_isStress_0 : decode cX3_isStress 0 = .ok (.iload_n 0, 1) := by decide +kernel
theorem dX3_isStress_1 : decode cX3_isStress 1 = .ok (.iconst 0, 1) := by decide +kernel
theorem dX3_isStress_2 : decode cX3_isStress 2 = .ok (.iconst 3, 1) := by decide +kernel
theorem dX3_isStress_3 : decode cX3_isStress 3 = .ok (.invokestatic 75, 3) := by decide +kernel
theorem dX3_isStress_6 : decode cX3_isStress 6 = .ok (.ireturn, 1) := by decide +kernel
theorem dX3_isUnit_0 : decode cX3_isUnit 0 = .ok (.iload_n 0, 1) := by decide +kernel
theorem dX3_isUnit_1 : decode cX3_isUnit 1 = .ok (.invokestatic 122, 3) := by decide +kernel
theorem dX3_isUnit_4 : decode cX3_isUnit 4 = .ok (.ifCond .eq 27, 3) := by decide +kernel
theorem dX3_isUnit_7 : decode cX3_isUnit 7 = .ok (.iload_n 1, 1) := by decide +kernel
theorem dX3_isUnit_8 : decode cX3_isUnit 8 = .ok (.iconst 1, 1) := by decide +kernel
theorem dX3_isUnit_9 : decode cX3_isUnit 9 = .ok (.sipush 500, 3) := by decide +kernel
theorem dX3_isUnit_12 : decode cX3_isUnit 12 = .ok (.invokestatic 75, 3) := by decide +kernel
theorem dX3_isUnit_15 : decode cX3_isUnit 15 = .ok (.ifCond .eq 16, 3) := by decide +kernel
theorem dX3_isUnit_18 : decode cX3_isUnit 18 = .ok (.iload_n 2, 1) := by decide +kernel
theorem dX3_isUnit_19 : decode cX3_isUnit 19 = .ok (.iconst (-1), 1) := by decide +kernel
theorem dX3_isUnit_20 : decode cX3_isUnit 20 = .ok (.iconst 2, 1) := by decide +kernel
theorem dX3_isUnit_21 : decode cX3_isUnit 21 = .ok (.invokestatic 75, 3) := by decide +kernel
theorem dX3_isUnit_24 : decode cX3_isUnit 24 = .ok (.ifCond .eq 7, 3) := by decide +kernel
theorem dX3_isUnit_27 : decode cX3_isUnit 27 = .ok (.iconst 1, 1) := by decide +kernel
theorem dX3_isUnit_28 : decode cX3_isUnit 28 = .ok (.goto 4, 3) := by decide +kernel
theorem dX3_isUnit_31 : decode cX3_isUnit 31 = .ok (.iconst 0, 1) := by decide +kernel
theorem dX3_isUnit_32 : decode cX3_isUnit 32 = .ok (.ireturn, 1) := by decide +kernel
theorem dX3_isSet_0 : decode cX3_isSet 0 = .ok (.iload_n 0, 1) := by decide +kernel
theorem dX3_isSet_1 : decode cX3_isSet 1 = .ok (.iconst 0, 1) := by decide +kernel
theorem dX3_isSet_2 : decode cX3_isSet 2 = .ok (.bipush 15, 2) := by decide +kernel
theorem dX3_isSet_4 : decode cX3_isSet 4 = .ok (.invokestatic 75, 3) := by decide +kernel
theorem dX3_isSet_7 : decode cX3_isSet 7 = .ok (.ireturn, 1) := by decide +kernel
theorem dX3_isSetByCause_0 : decode cX3_isSetByCause 0 = .ok (.iload_n 0, 1) := by decide +kernel
theorem dX3_isSetByCause_1 : decode cX3_isSetByCause 1 = .ok (.invokestatic 72, 3) := by decide +kernel
theorem dX3_isSetByCause_4 : decode cX3_isSetByCause 4 = .ok (.ifCond .eq 16, 3) := by decide +kernel
theorem dX3_isSetByCause_7 : decode cX3_isSetByCause 7 = .ok (.iload_n 1, 1) := by decide +kernel
theorem dX3_isSetByCause_8 : decode cX3_isSetByCause 8 = .ok (.iconst (-1), 1) := by decide +kernel
theorem dX3_isSetByCause_9 : decode cX3_isSetByCause 9 = .ok (.iconst 2, 1) := by decide +kernel
theorem dX3_isSetByCause_10 : decode cX3_isSetByCause 10 = .ok (.invokestatic 75, 3) := by decide +kernel
theorem dX3_isSetByCause_13 : decode cX3_isSetByCause 13 = .ok (.ifCond .eq 7, 3) := by decide +kernel
theorem dX3_isSetByCause_16 : decode cX3_isSetByCause 16 = .ok (.iconst 1, 1) := by decide +kernel
theorem dX3_isSetByCause_17 : decode cX3_isSetByCause 17 = .ok (.goto 4, 3) := by decide +kernel
theorem dX3_isSetByCause_20 : decode cX3_isSetByCause 20 = .ok (.iconst 0, 1) := by decide +kernel
theorem dX3_isSetByCause_21 : decode cX3_isSetByCause 21 = .ok (.ireturn, 1) := by decide +kernel
theorem dX3_isLaw_0 : decode cX3_isLaw 0 = .ok (.iload_n 0, 1) := by decide +kernel
theorem dX3_isLaw_1 : decode cX3_isLaw 1 = .ok (.iconst 1, 1) := by decide +kernel
theorem dX3_isLaw_2 : decode cX3_isLaw 2 = .ok (.ldc 139, 2) := by decide +kernel
theorem dX3_isLaw_4 : decode cX3_isLaw 4 = .ok (.invokestatic 75, 3) := by decide +kernel
theorem dX3_isLaw_7 : decode cX3_isLaw 7 = .ok (.ifCond .eq 17, 3) := by decide +kernel
theorem dX3_isLaw_10 : decode cX3_isLaw 10 = .ok (.iload_n 1, 1) := by decide +kernel
theorem dX3_isLaw_11 : decode cX3_isLaw 11 = .ok (.iconst 1, 1) := by decide +kernel
theorem dX3_isLaw_12 : decode cX3_isLaw 12 = .ok (.bipush 20, 2) := by decide +kernel
theorem dX3_isLaw_14 : decode cX3_isLaw 14 = .ok (.invokestatic 75, 3) := by decide +kernel
theorem dX3_isLaw_17 : decode cX3_isLaw 17 = .ok (.ifCond .eq 7, 3) := by decide +kernel
theorem dX3_isLaw_20 : decode cX3_isLaw 20 = .ok (.iconst 1, 1) := by decide +kernel
theorem dX3_isLaw_21 : decode cX3_isLaw 21 = .ok (.goto 4, 3) := by decide +kernel
theorem dX3_isLaw_24 : decode cX3_isLaw 24 = .ok (.iconst 0, 1) := by decide +kernel
theorem dX3_isLaw_25 : decode cX3_isLaw 25 = .ok (.ireturn, 1) := by decide +kernel
theorem dX3_cut_0 : decode cX3_cut 0 = .ok (.iload_n 1, 1) := by decide +kernel
theorem dX3_cut_1 : decode cX3_cut 1 = .ok (.ifCond .le 9, 3) := by decide +kernel
theorem dX3_cut_4 : decode cX3_cut 4 = .ok (.iload_n 0, 1) := by decide +kernel
theorem dX3_cut_5 : decode cX3_cut 5 = .ok (.iload_n 1, 1) := by decide +kernel
theorem dX3_cut_6 : decode cX3_cut 6 = .ok (.idiv, 1) := by decide +kernel
theorem dX3_cut_7 : decode cX3_cut 7 = .ok (.goto 4, 3) := by decide +kernel
theorem dX3_cut_10 : decode cX3_cut 10 = .ok (.iconst 0, 1) := by decide +kernel
theorem dX3_cut_11 : decode cX3_cut 11 = .ok (.ireturn, 1) := by decide +kernel
theorem dX3_roundedUp_0 : decode cX3_roundedUp 0 = .ok (.iload_n 0, 1) := by decide +kernel
theorem dX3_roundedUp_1 : decode cX3_roundedUp 1 = .ok (.iload_n 1, 1) := by decide +kernel
theorem dX3_roundedUp_2 : decode cX3_roundedUp 2 = .ok (.iadd, 1) := by decide +kernel
theorem dX3_roundedUp_3 : decode cX3_roundedUp 3 = .ok (.iconst 1, 1) := by decide +kernel
theorem dX3_roundedUp_4 : decode cX3_roundedUp 4 = .ok (.isub, 1) := by decide +kernel
theorem dX3_roundedUp_5 : decode cX3_roundedUp 5 = .ok (.iload_n 1, 1) := by decide +kernel
theorem dX3_roundedUp_6 : decode cX3_roundedUp 6 = .ok (.invokestatic 145, 3) := by decide +kernel
theorem dX3_roundedUp_9 : decode cX3_roundedUp 9 = .ok (.ireturn, 1) := by decide +kernel
theorem dX3_leastTerms_0 : decode cX3_leastTerms 0 = .ok (.lload_n 0, 1) := by decide +kernel
theorem dX3_leastTerms_1 : decode cX3_leastTerms 1 = .ok (.lload_n 2, 1) := by decide +kernel
theorem dX3_leastTerms_2 : decode cX3_leastTerms 2 = .ok (.invokestatic 184, 3) := by decide +kernel
theorem dX3_leastTerms_5 : decode cX3_leastTerms 5 = .ok (.lstore 5, 2) := by decide +kernel
theorem dX3_leastTerms_7 : decode cX3_leastTerms 7 = .ok (.iload 4, 2) := by decide +kernel
theorem dX3_leastTerms_9 : decode cX3_leastTerms 9 = .ok (.ifCond .ne 7, 3) := by decide +kernel
theorem dX3_leastTerms_12 : decode cX3_leastTerms 12 = .ok (.lload_n 0, 1) := by decide +kernel
theorem dX3_leastTerms_13 : decode cX3_leastTerms 13 = .ok (.goto 4, 3) := by decide +kernel
theorem dX3_leastTerms_16 : decode cX3_leastTerms 16 = .ok (.lload_n 2, 1) := by decide +kernel
theorem dX3_leastTerms_17 : decode cX3_leastTerms 17 = .ok (.lstore 7, 2) := by decide +kernel
theorem dX3_leastTerms_19 : decode cX3_leastTerms 19 = .ok (.lload 5, 2) := by decide +kernel
theorem dX3_leastTerms_21 : decode cX3_leastTerms 21 = .ok (.lconst 0, 1) := by decide +kernel
theorem dX3_leastTerms_22 : decode cX3_leastTerms 22 = .ok (.lcmp, 1) := by decide +kernel
theorem dX3_leastTerms_23 : decode cX3_leastTerms 23 = .ok (.ifCond .le 11, 3) := by decide +kernel
theorem dX3_leastTerms_26 : decode cX3_leastTerms 26 = .ok (.lload 7, 2) := by decide +kernel
theorem dX3_leastTerms_28 : decode cX3_leastTerms 28 = .ok (.lload 5, 2) := by decide +kernel
theorem dX3_leastTerms_30 : decode cX3_leastTerms 30 = .ok (.ldiv, 1) := by decide +kernel
theorem dX3_leastTerms_31 : decode cX3_leastTerms 31 = .ok (.goto 5, 3) := by decide +kernel
theorem dX3_leastTerms_34 : decode cX3_leastTerms 34 = .ok (.lload 7, 2) := by decide +kernel
theorem dX3_leastTerms_36 : decode cX3_leastTerms 36 = .ok (.lreturn, 1) := by decide +kernel
theorem dX3_sharedFactor_0 : decode cX3_sharedFactor 0 = .ok (.lload_n 0, 1) := by decide +kernel
theorem dX3_sharedFactor_1 : decode cX3_sharedFactor 1 = .ok (.lstore 4, 2) := by decide +kernel
theorem dX3_sharedFactor_3 : decode cX3_sharedFactor 3 = .ok (.lload_n 2, 1) := by decide +kernel
theorem dX3_sharedFactor_4 : decode cX3_sharedFactor 4 = .ok (.lstore 6, 2) := by decide +kernel
theorem dX3_sharedFactor_6 : decode cX3_sharedFactor 6 = .ok (.iconst 0, 1) := by decide +kernel
theorem dX3_sharedFactor_7 : decode cX3_sharedFactor 7 = .ok (.istore 8, 2) := by decide +kernel
theorem dX3_sharedFactor_9 : decode cX3_sharedFactor 9 = .ok (.iload 8, 2) := by decide +kernel
theorem dX3_sharedFactor_11 : decode cX3_sharedFactor 11 = .ok (.bipush 100, 2) := by decide +kernel
theorem dX3_sharedFactor_13 : decode cX3_sharedFactor 13 = .ok (.if_icmp .ge 31, 3) := by decide +kernel
theorem dX3_sharedFactor_16 : decode cX3_sharedFactor 16 = .ok (.lload 6, 2) := by decide +kernel
theorem dX3_sharedFactor_18 : decode cX3_sharedFactor 18 = .ok (.lconst 0, 1) := by decide +kernel
theorem dX3_sharedFactor_19 : decode cX3_sharedFactor 19 = .ok (.lcmp, 1) := by decide +kernel
theorem dX3_sharedFactor_20 : decode cX3_sharedFactor 20 = .ok (.ifCond .eq 24, 3) := by decide +kernel
theorem dX3_sharedFactor_23 : decode cX3_sharedFactor 23 = .ok (.lload 4, 2) := by decide +kernel
theorem dX3_sharedFactor_25 : decode cX3_sharedFactor 25 = .ok (.lload 6, 2) := by decide +kernel
theorem dX3_sharedFactor_27 : decode cX3_sharedFactor 27 = .ok (.lrem, 1) := by decide +kernel
theorem dX3_sharedFactor_28 : decode cX3_sharedFactor 28 = .ok (.lstore 9, 2) := by decide +kernel
theorem dX3_sharedFactor_30 : decode cX3_sharedFactor 30 = .ok (.lload 6, 2) := by decide +kernel
theorem dX3_sharedFactor_32 : decode cX3_sharedFactor 32 = .ok (.lstore 4, 2) := by decide +kernel
theorem dX3_sharedFactor_34 : decode cX3_sharedFactor 34 = .ok (.lload 9, 2) := by decide +kernel
theorem dX3_sharedFactor_36 : decode cX3_sharedFactor 36 = .ok (.lstore 6, 2) := by decide +kernel
theorem dX3_sharedFactor_38 : decode cX3_sharedFactor 38 = .ok (.iinc 8 1, 3) := by decide +kernel
theorem dX3_sharedFactor_41 : decode cX3_sharedFactor 41 = .ok (.goto (-32), 3) := by decide +kernel
theorem dX3_sharedFactor_44 : decode cX3_sharedFactor 44 = .ok (.lload 4, 2) := by decide +kernel
theorem dX3_sharedFactor_46 : decode cX3_sharedFactor 46 = .ok (.lreturn, 1) := by decide +kernel
theorem dJ9_abs_0f7a4_0 : decode cJ9_abs_0f7a4 0 = .ok (.iload_n 0, 1) := by decide +kernel
theorem dJ9_abs_0f7a4_1 : decode cJ9_abs_0f7a4 1 = .ok (.ifCond .ge 8, 3) := by decide +kernel
theorem dJ9_abs_0f7a4_4 : decode cJ9_abs_0f7a4 4 = .ok (.iload_n 0, 1) := by decide +kernel
theorem dJ9_abs_0f7a4_5 : decode cJ9_abs_0f7a4 5 = .ok (.ineg, 1) := by decide +kernel
theorem dJ9_abs_0f7a4_6 : decode cJ9_abs_0f7a4 6 = .ok (.goto 4, 3) := by decide +kernel
theorem dJ9_abs_0f7a4_9 : decode cJ9_abs_0f7a4 9 = .ok (.iload_n 0, 1) := by decide +kernel
theorem dJ9_abs_0f7a4_10 : decode cJ9_abs_0f7a4 10 = .ok (.ireturn, 1) := by decide +kernel
theorem dJ9_max_7cf53_0 : decode cJ9_max_7cf53 0 = .ok (.iload_n 0, 1) := by decide +kernel
theorem dJ9_max_7cf53_1 : decode cJ9_max_7cf53 1 = .ok (.iload_n 1, 1) := by decide +kernel
theorem dJ9_max_7cf53_2 : decode cJ9_max_7cf53 2 = .ok (.if_icmp .lt 7, 3) := by decide +kernel
theorem dJ9_max_7cf53_5 : decode cJ9_max_7cf53 5 = .ok (.iload_n 0, 1) := by decide +kernel
theorem dJ9_max_7cf53_6 : decode cJ9_max_7cf53 6 = .ok (.goto 4, 3) := by decide +kernel
theorem dJ9_max_7cf53_9 : decode cJ9_max_7cf53 9 = .ok (.iload_n 1, 1) := by decide +kernel
theorem dJ9_max_7cf53_10 : decode cJ9_max_7cf53 10 = .ok (.ireturn, 1) := by decide +kernel
theorem dJ9_min_7cf53_0 : decode cJ9_min_7cf53 0 = .ok (.iload_n 0, 1) := by decide +kernel
theorem dJ9_min_7cf53_1 : decode cJ9_min_7cf53 1 = .ok (.iload_n 1, 1) := by decide +kernel
theorem dJ9_min_7cf53_2 : decode cJ9_min_7cf53 2 = .ok (.if_icmp .gt 7, 3) := by decide +kernel
theorem dJ9_min_7cf53_5 : decode cJ9_min_7cf53 5 = .ok (.iload_n 0, 1) := by decide +kernel
theorem dJ9_min_7cf53_6 : decode cJ9_min_7cf53 6 = .ok (.goto 4, 3) := by decide +kernel
theorem dJ9_min_7cf53_9 : decode cJ9_min_7cf53 9 = .ok (.iload_n 1, 1) := by decide +kernel
theorem dJ9_min_7cf53_10 : decode cJ9_min_7cf53 10 = .ok (.ireturn, 1) := by decide +kernel
