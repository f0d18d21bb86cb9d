theorem dX4_init_0 : decode cX4_init 0 = .ok (.aload_n 0, 1) := by decide +kernel
theorem dX4_init_1 : decode cX4_init 1 = .ok (.invokespecial 1, 3) := by decide +kernel
theorem dX4_init_4 : decode cX4_init 4 = .ok (.aload_n 0, 1) := by decide +kernel
theorem dX4_init_5 : decode cX4_init 5 = .ok (.bipush 12, 2) := by decide +kernel
theorem dX4_init_7 : decode cX4_init 7 = .ok (.newarray .int, 2) := by decide +kernel
theorem dX4_init_9 : decode cX4_init 9 = .ok (.putfield 7, 3) := by decide +kernel
theorem dX4_init_12 : decode cX4_init 12 = .ok (.aload_n 0, 1) := by decide +kernel
theorem dX4_init_13 : decode cX4_init 13 = .ok (.bipush 12, 2) := by decide +kernel
theorem dX4_init_15 : decode cX4_init 15 = .ok (.newarray .int, 2) := by decide +kernel
theorem dX4_init_17 : decode cX4_init 17 = .ok (.putfield 13, 3) := by decide +kernel
theorem dX4_init_20 : decode cX4_init 20 = .ok (.aload_n 0, 1) := by decide +kernel
theorem dX4_init_21 : decode cX4_init 21 = .ok (.bipush 12, 2) := by decide +kernel
theorem dX4_init_23 : decode cX4_init 23 = .ok (.newarray .int, 2) := by decide +kernel
theorem dX4_init_25 : decode cX4_init 25 = .ok (.putfield 16, 3) := by decide +kernel
theorem dX4_init_28 : decode cX4_init 28 = .ok (.aload_n 0, 1) := by decide +kernel
theorem dX4_init_29 : decode cX4_init 29 = .ok (.iconst 4, 1) := by decide +kernel
theorem dX4_init_30 : decode cX4_init 30 = .ok (.newarray .int, 2) := by decide +kernel
theorem dX4_init_32 : decode cX4_init 32 = .ok (.putfield 19, 3) := by decide +kernel
theorem dX4_init_35 : decode cX4_init 35 = .ok (.aload_n 0, 1) := by decide +kernel
theorem dX4_init_36 : decode cX4_init 36 = .ok (.bipush 10, 2) := by decide +kernel
theorem dX4_init_38 : decode cX4_init 38 = .ok (.newarray .int, 2) := by decide +kernel
theorem dX4_init_40 : decode cX4_init 40 = .ok (.putfield 22, 3) := by decide +kernel
theorem dX4_init_43 : decode cX4_init 43 = .ok (.aload_n 0, 1) := by decide +kernel
theorem dX4_init_44 : decode cX4_init 44 = .ok (.bipush 10, 2) := by decide +kernel
theorem dX4_init_46 : decode cX4_init 46 = .ok (.newarray .int, 2) := by decide +kernel
theorem dX4_init_48 : decode cX4_init 48 = .ok (.putfield 25, 3) := by decide +kernel
theorem dX4_init_51 : decode cX4_init 51 = .ok (.aload_n 0, 1) := by decide +kernel
theorem dX4_init_52 : decode cX4_init 52 = .ok (.bipush 10, 2) := by decide +kernel
theorem dX4_init_54 : decode cX4_init 54 = .ok (.putfield 28, 3) := by decide +kernel
theorem dX4_init_57 : decode cX4_init 57 = .ok (.aload_n 0, 1) := by decide +kernel
theorem dX4_init_58 : decode cX4_init 58 = .ok (.iconst 1, 1) := by decide +kernel
theorem dX4_init_59 : decode cX4_init 59 = .ok (.putfield 32, 3) := by decide +kernel
theorem dX4_init_62 : decode cX4_init 62 = .ok (.aload_n 0, 1) := by decide +kernel
theorem dX4_init_63 : decode cX4_init 63 = .ok (.sipush 501, 3) := by decide +kernel
theorem dX4_init_66 : decode cX4_init 66 = .ok (.newarray .int, 2) := by decide +kernel
theorem dX4_init_68 : decode cX4_init 68 = .ok (.putfield 35, 3) := by decide +kernel
theorem dX4_init_71 : decode cX4_init 71 = .ok (.aload_n 0, 1) := by decide +kernel
theorem dX4_init_72 : decode cX4_init 72 = .ok (.sipush 501, 3) := by decide +kernel
theorem dX4_init_75 : decode cX4_init 75 = .ok (.newarray .int, 2) := by decide +kernel
theorem dX4_init_77 : decode cX4_init 77 = .ok (.putfield 38, 3) := by decide +kernel
theorem dX4_init_80 : decode cX4_init 80 = .ok (.aload_n 0, 1) := by decide +kernel
theorem dX4_init_81 : decode cX4_init 81 = .ok (.iconst 4, 1) := by decide +kernel
theorem dX4_init_82 : decode cX4_init 82 = .ok (.newarray .int, 2) := by decide +kernel
theorem dX4_init_84 : decode cX4_init 84 = .ok (.putfield 41, 3) := by decide +kernel
theorem dX4_init_87 : decode cX4_init 87 = .ok (.aload_n 0, 1) := by decide +kernel
theorem dX4_init_88 : decode cX4_init 88 = .ok (.getfield 19, 3) := by decide +kernel
theorem dX4_init_91 : decode cX4_init 91 = .ok (.iconst 0, 1) := by decide +kernel
theorem dX4_init_92 : decode cX4_init 92 = .ok (.bipush 10, 2) := by decide +kernel
theorem dX4_init_94 : decode cX4_init 94 = .ok (.iastore, 1) := by decide +kernel
theorem dX4_init_95 : decode cX4_init 95 = .ok (.aload_n 0, 1) := by decide +kernel
theorem dX4_init_96 : decode cX4_init 96 = .ok (.getfield 19, 3) := by decide +kernel
theorem dX4_init_99 : decode cX4_init 99 = .ok (.iconst 1, 1) := by decide +kernel
theorem dX4_init_100 : decode cX4_init 100 = .ok (.bipush 20, 2) := by decide +kernel
theorem dX4_init_102 : decode cX4_init 102 = .ok (.iastore, 1) := by decide +kernel
theorem dX4_init_103 : decode cX4_init 103 = .ok (.aload_n 0, 1) := by decide +kernel
theorem dX4_init_104 : decode cX4_init 104 = .ok (.getfield 19, 3) := by decide +kernel
theorem dX4_init_107 : decode cX4_init 107 = .ok (.iconst 2, 1) := by decide +kernel
theorem dX4_init_108 : decode cX4_init 108 = .ok (.bipush 40, 2) := by decide +kernel
theorem dX4_init_110 : decode cX4_init 110 = .ok (.iastore, 1) := by decide +kernel
theorem dX4_init_111 : decode cX4_init 111 = .ok (.aload_n 0, 1) := by decide +kernel
theorem dX4_init_112 : decode cX4_init 112 = .ok (.getfield 19, 3) := by decide +kernel
theorem dX4_init_115 : decode cX4_init 115 = .ok (.iconst 3, 1) := by decide +kernel
theorem dX4_init_116 : decode cX4_init 116 = .ok (.bipush 80, 2) := by decide +kernel
theorem dX4_init_118 : decode cX4_init 118 = .ok (.iastore, 1) := by decide +kernel
theorem dX4_init_119 : decode cX4_init 119 = .ok (.return_, 1) := by decide +kernel
theorem dX4_in_0 : decode cX4_in 0 = .ok (.lload_n 0, 1) := by decide +kernel
theorem dX4_in_1 : decode cX4_in 1 = .ok (.lload_n 2, 1) := by decide +kernel
theorem dX4_in_2 : decode cX4_in 2 = .ok (.lcmp, 1) := by decide +kernel
theorem dX4_in_3 : decode cX4_in 3 = .ok (.ifCond .lt 14, 3) := by decide +kernel
theorem dX4_in_6 : decode cX4_in 6 = .ok (.lload_n 0, 1) := by decide +kernel
theorem dX4_in_7 : decode cX4_in 7 = .ok (.lload 4, 2) := by decide +kernel
theorem dX4_in_9 : decode cX4_in 9 = .ok (.lcmp, 1) := by decide +kernel
theorem dX4_in_10 : decode cX4_in 10 = .ok (.ifCond .gt 7, 3) := by decide +kernel
theorem dX4_in_13 : decode cX4_in 13 = .ok (.iconst 1, 1) := by decide +kernel
theorem dX4_in_14 : decode cX4_in 14 = .ok (.goto 4, 3) := by decide +kernel
theorem dX4_in_17 : decode cX4_in 17 = .ok (.iconst 0, 1) := by decide +kernel
theorem dX4_in_18 : decode cX4_in 18 = .ok (.ireturn, 1) := by decide +kernel
theorem dX4_isStress_0 : decode cX4_isStress 0 = .ok (.iload_n 0, 1) := by decide +kernel
theorem dX4_isStress_1 : decode cX4_isStress 1 = .ok (.i2l, 1) := by decide +kernel
theorem dX4_isStress_2 : decode cX4_isStress 2 = .ok (.lconst 0, 1) := by decide +kernel
theorem dX4_isStress_3 : decode cX4_isStress 3 = .ok (.ldc2_w 44, 3) := by decide +kernel
theorem dX4_isStress_6 : decode cX4_isStress 6 = .ok (.invokestatic 46, 3) := by decide +kernel
theorem dX4_isStress_9 : decode cX4_isStress 9 = .ok (.ireturn, 1) := by decide +kernel
theorem dX4_isCause_0 : decode cX4_isCause 0 = .ok (.iload_n 0, 1) := by decide +kernel
theorem dX4_isCause_1 : decode cX4_isCause 1 = .ok (.i2l, 1) := by decide +kernel
theorem dX4_isCause_2 : decode cX4_isCause 2 = .ok (.ldc2_w 50, 3) := by decide +kernel
theorem dX4_isCause_5 : decode cX4_isCause 5 = .ok (.ldc2_w 52, 3) := by decide +kernel
theorem dX4_isCause_8 : decode cX4_isCause 8 = .ok (.invokestatic 46, 3) := by decide +kernel
theorem dX4_isCause_11 : decode cX4_isCause 11 = .ok (.ireturn, 1) := by decide +kernel
theorem dX4_isSet_0 : decode cX4_isSet 0 = .ok (.iload_n 0, 1) := by decide +kernel
theorem dX4_isSet_1 : decode cX4_isSet 1 = .ok (.i2l, 1) := by decide +kernel
theorem dX4_isSet_2 : decode cX4_isSet 2 = .ok (.lconst 0, 1) := by decide +kernel
theorem dX4_isSet_3 : decode cX4_isSet 3 = .ok (.ldc2_w 54, 3) := by decide +kernel
theorem dX4_isSet_6 : decode cX4_isSet 6 = .ok (.invokestatic 46, 3) := by decide +kernel
theorem dX4_isSet_9 : decode cX4_isSet 9 = .ok (.ireturn, 1) := by decide +kernel
theorem dX4_isUnitLike_0 : decode cX4_isUnitLike 0 = .ok (.iload_n 0, 1) := by decide +kernel
theorem dX4_isUnitLike_1 : decode cX4_isUnitLike 1 = .ok (.invokestatic 56, 3) := by decide +kernel
theorem dX4_isUnitLike_4 : decode cX4_isUnitLike 4 = .ok (.ifCond .eq 26, 3) := by decide +kernel
theorem dX4_isUnitLike_7 : decode cX4_isUnitLike 7 = .ok (.iload_n 1, 1) := by decide +kernel
theorem dX4_isUnitLike_8 : decode cX4_isUnitLike 8 = .ok (.i2l, 1) := by decide +kernel
theorem dX4_isUnitLike_9 : decode cX4_isUnitLike 9 = .ok (.lconst 1, 1) := by decide +kernel
theorem dX4_isUnitLike_10 : decode cX4_isUnitLike 10 = .ok (.ldc2_w 60, 3) := by decide +kernel
theorem dX4_isUnitLike_13 : decode cX4_isUnitLike 13 = .ok (.invokestatic 46, 3) := by decide +kernel
theorem dX4_isUnitLike_16 : decode cX4_isUnitLike 16 = .ok (.ifCond .eq 14, 3) := by decide +kernel
theorem dX4_isUnitLike_19 : decode cX4_isUnitLike 19 = .ok (.iload_n 2, 1) := by decide +kernel
theorem dX4_isUnitLike_20 : decode cX4_isUnitLike 20 = .ok (.invokestatic 62, 3) := by decide +kernel
theorem dX4_isUnitLike_23 : decode cX4_isUnitLike 23 = .ok (.ifCond .eq 7, 3) := by decide +kernel
theorem dX4_isUnitLike_26 : decode cX4_isUnitLike 26 = .ok (.iconst 1, 1) := by decide +kernel
theorem dX4_isUnitLike_27 : decode cX4_isUnitLike 27 = .ok (.goto 4, 3) := by decide +kernel
theorem dX4_isUnitLike_30 : decode cX4_isUnitLike 30 = .ok (.iconst 0, 1) := by decide +kernel
theorem dX4_isUnitLike_31 : decode cX4_isUnitLike 31 = .ok (.ireturn, 1) := by decide +kernel
theorem dX4_unit_0 : decode cX4_unit 0 = .ok (.iload_n 1, 1) := by decide +kernel
theorem dX4_unit_1 : decode cX4_unit 1 = .ok (.iload_n 2, 1) := by decide +kernel
theorem dX4_unit_2 : decode cX4_unit 2 = .ok (.iload_n 3, 1) := by decide +kernel
theorem dX4_unit_3 : decode cX4_unit 3 = .ok (.invokestatic 65, 3) := by decide +kernel
theorem dX4_unit_6 : decode cX4_unit 6 = .ok (.ifCond .ne 7, 3) := by decide +kernel
theorem dX4_unit_9 : decode cX4_unit 9 = .ok (.sipush (-1002), 3) := by decide +kernel
theorem dX4_unit_12 : decode cX4_unit 12 = .ok (.ireturn, 1) := by decide +kernel
theorem dX4_unit_13 : decode cX4_unit 13 = .ok (.aload_n 0, 1) := by decide +kernel
theorem dX4_unit_14 : decode cX4_unit 14 = .ok (.getfield 69, 3) := by decide +kernel
theorem dX4_unit_17 : decode cX4_unit 17 = .ok (.bipush 12, 2) := by decide +kernel
theorem dX4_unit_19 : decode cX4_unit 19 = .ok (.if_icmp .ne 7, 3) := by decide +kernel
theorem dX4_unit_22 : decode cX4_unit 22 = .ok (.sipush (-1004), 3) := by decide +kernel
theorem dX4_unit_25 : decode cX4_unit 25 = .ok (.ireturn, 1) := by decide +kernel
theorem dX4_unit_26 : decode cX4_unit 26 = .ok (.aload_n 0, 1) := by decide +kernel
theorem dX4_unit_27 : decode cX4_unit 27 = .ok (.getfield 7, 3) := by decide +kernel
theorem dX4_unit_30 : decode cX4_unit 30 = .ok (.aload_n 0, 1) := by decide +kernel
theorem dX4_unit_31 : decode cX4_unit 31 = .ok (.getfield 69, 3) := by decide +kernel
theorem dX4_unit_34 : decode cX4_unit 34 = .ok (.iload_n 1, 1) := by decide +kernel
theorem dX4_unit_35 : decode cX4_unit 35 = .ok (.iastore, 1) := by decide +kernel
theorem dX4_unit_36 : decode cX4_unit 36 = .ok (.aload_n 0, 1) := by decide +kernel
theorem dX4_unit_37 : decode cX4_unit 37 = .ok (.getfield 13, 3) := by decide +kernel
theorem dX4_unit_40 : decode cX4_unit 40 = .ok (.aload_n 0, 1) := by decide +kernel
theorem dX4_unit_41 : decode cX4_unit 41 = .ok (.getfield 69, 3) := by decide +kernel
theorem dX4_unit_44 : decode cX4_unit 44 = .ok (.iload_n 2, 1) := by decide +kernel
theorem dX4_unit_45 : decode cX4_unit 45 = .ok (.iastore, 1) := by decide +kernel
theorem dX4_unit_46 : decode cX4_unit 46 = .ok (.aload_n 0, 1) := by decide +kernel
theorem dX4_unit_47 : decode cX4_unit 47 = .ok (.getfield 16, 3) := by decide +kernel
theorem dX4_unit_50 : decode cX4_unit 50 = .ok (.aload_n 0, 1) := by decide +kernel
theorem dX4_unit_51 : decode cX4_unit 51 = .ok (.getfield 69, 3) := by decide +kernel
theorem dX4_unit_54 : decode cX4_unit 54 = .ok (.iload_n 3, 1) := by decide +kernel
theorem dX4_unit_55 : decode cX4_unit 55 = .ok (.iastore, 1) := by decide +kernel
theorem dX4_unit_56 : decode cX4_unit 56 = .ok (.aload_n 0, 1) := by decide +kernel
theorem dX4_unit_57 : decode cX4_unit 57 = .ok (.dup, 1) := by decide +kernel
theorem dX4_unit_58 : decode cX4_unit 58 = .ok (.getfield 69, 3) := by decide +kernel
theorem dX4_unit_61 : decode cX4_unit 61 = .ok (.iconst 1, 1) := by decide +kernel
theorem dX4_unit_62 : decode cX4_unit 62 = .ok (.iadd, 1) := by decide +kernel
theorem dX4_unit_63 : decode cX4_unit 63 = .ok (.putfield 69, 3) := by decide +kernel
theorem dX4_unit_66 : decode cX4_unit 66 = .ok (.aload_n 0, 1) := by decide +kernel
theorem dX4_unit_67 : decode cX4_unit 67 = .ok (.getfield 69, 3) := by decide +kernel
theorem dX4_unit_70 : decode cX4_unit 70 = .ok (.iconst 1, 1) := by decide +kernel
theorem dX4_unit_71 : decode cX4_unit 71 = .ok (.isub, 1) := by decide +kernel
theorem dX4_unit_72 : decode cX4_unit 72 = .ok (.ireturn, 1) := by decide +kernel
theorem dX4_isUnit_0 : decode cX4_isUnit 0 = .ok (.iload_n 1, 1) := by decide +kernel
theorem dX4_isUnit_1 : decode cX4_isUnit 1 = .ok (.i2l, 1) := by decide +kernel
theorem dX4_isUnit_2 : decode cX4_isUnit 2 = .ok (.lconst 0, 1) := by decide +kernel
theorem dX4_isUnit_3 : decode cX4_isUnit 3 = .ok (.aload_n 0, 1) := by decide +kernel
theorem dX4_isUnit_4 : decode cX4_isUnit 4 = .ok (.getfield 69, 3) := by decide +kernel
theorem dX4_isUnit_7 : decode cX4_isUnit 7 = .ok (.iconst 1, 1) := by decide +kernel
theorem dX4_isUnit_8 : decode cX4_isUnit 8 = .ok (.isub, 1) := by decide +kernel
theorem dX4_isUnit_9 : decode cX4_isUnit 9 = .ok (.i2l, 1) := by decide +kernel
theorem dX4_isUnit_10 : decode cX4_isUnit 10 = .ok (.invokestatic 46, 3) := by decide +kernel
theorem dX4_isUnit_13 : decode cX4_isUnit 13 = .ok (.ireturn, 1) := by decide +kernel
theorem dX4_set_0 : decode cX4_set 0 = .ok (.aload_n 0, 1) := by decide +kernel
theorem dX4_set_1 : decode cX4_set 1 = .ok (.iload_n 1, 1) := by decide +kernel
theorem dX4_set_2 : decode cX4_set 2 = .ok (.invokevirtual 72, 3) := by decide +kernel
theorem dX4_set_5 : decode cX4_set 5 = .ok (.ifCond .ne 7, 3) := by decide +kernel
theorem dX4_set_8 : decode cX4_set 8 = .ok (.sipush (-1001), 3) := by decide +kernel
theorem dX4_set_11 : decode cX4_set 11 = .ok (.ireturn, 1) := by decide +kernel
theorem dX4_set_12 : decode cX4_set 12 = .ok (.iload_n 2, 1) := by decide +kernel
theorem dX4_set_13 : decode cX4_set 13 = .ok (.iload_n 3, 1) := by decide +kernel
theorem dX4_set_14 : decode cX4_set 14 = .ok (.iload 4, 2) := by decide +kernel
theorem dX4_set_16 : decode cX4_set 16 = .ok (.invokestatic 65, 3) := by decide +kernel
theorem dX4_set_19 : decode cX4_set 19 = .ok (.ifCond .ne 7, 3) := by decide +kernel
theorem dX4_set_22 : decode cX4_set 22 = .ok (.sipush (-1002), 3) := by decide +kernel
theorem dX4_set_25 : decode cX4_set 25 = .ok (.ireturn, 1) := by decide +kernel
theorem dX4_set_26 : decode cX4_set 26 = .ok (.aload_n 0, 1) := by decide +kernel
theorem dX4_set_27 : decode cX4_set 27 = .ok (.getfield 7, 3) := by decide +kernel
theorem dX4_set_30 : decode cX4_set 30 = .ok (.iload_n 1, 1) := by decide +kernel
theorem dX4_set_31 : decode cX4_set 31 = .ok (.iload_n 2, 1) := by decide +kernel
theorem dX4_set_32 : decode cX4_set 32 = .ok (.iastore, 1) := by decide +kernel
theorem dX4_set_33 : decode cX4_set 33 = .ok (.aload_n 0, 1) := by decide +kernel
theorem dX4_set_34 : decode cX4_set 34 = .ok (.getfield 13, 3) := by decide +kernel
theorem dX4_set_37 : decode cX4_set 37 = .ok (.iload_n 1, 1) := by decide +kernel
theorem dX4_set_38 : decode cX4_set 38 = .ok (.iload_n 3, 1) := by decide +kernel
theorem dX4_set_39 : decode cX4_set 39 = .ok (.iastore, 1) := by decide +kernel
theorem dX4_set_40 : decode cX4_set 40 = .ok (.aload_n 0, 1) := by decide +kernel
theorem dX4_set_41 : decode cX4_set 41 = .ok (.getfield 16, 3) := by decide +kernel
theorem dX4_set_44 : decode cX4_set 44 = .ok (.iload_n 1, 1) := by decide +kernel
theorem dX4_set_45 : decode cX4_set 45 = .ok (.iload 4, 2) := by decide +kernel
theorem dX4_set_47 : decode cX4_set 47 = .ok (.iastore, 1) := by decide +kernel
theorem dX4_set_48 : decode cX4_set 48 = .ok (.iconst 1, 1) := by decide +kernel
theorem dX4_set_49 : decode cX4_set 49 = .ok (.ireturn, 1) := by decide +kernel
theorem dX4_drop_0 : decode cX4_drop 0 = .ok (.aload_n 0, 1) := by decide +kernel
theorem dX4_drop_1 : decode cX4_drop 1 = .ok (.getfield 69, 3) := by decide +kernel
theorem dX4_drop_4 : decode cX4_drop 4 = .ok (.ifCond .ne 7, 3) := by decide +kernel
theorem dX4_drop_7 : decode cX4_drop 7 = .ok (.sipush (-1003), 3) := by decide +kernel
theorem dX4_drop_10 : decode cX4_drop 10 = .ok (.ireturn, 1) := by decide +kernel
theorem dX4_drop_11 : decode cX4_drop 11 = .ok (.aload_n 0, 1) := by decide +kernel
theorem dX4_drop_12 : decode cX4_drop 12 = .ok (.dup, 1) := by decide +kernel
theorem dX4_drop_13 : decode cX4_drop 13 = .ok (.getfield 69, 3) := by decide +kernel
theorem dX4_drop_16 : decode cX4_drop 16 = .ok (.iconst 1, 1) := by decide +kernel
theorem dX4_drop_17 : decode cX4_drop 17 = .ok (.isub, 1) := by decide +kernel
theorem dX4_drop_18 : decode cX4_drop 18 = .ok (.putfield 69, 3) := by decide +kernel
theorem dX4_drop_21 : decode cX4_drop 21 = .ok (.aload_n 0, 1) := by decide +kernel
theorem dX4_drop_22 : decode cX4_drop 22 = .ok (.getfield 69, 3) := by decide +kernel
theorem dX4_drop_25 : decode cX4_drop 25 = .ok (.ireturn, 1) := by decide +kernel
theorem dX4_useHour_0 : decode cX4_useHour 0 = .ok (.aload_n 0, 1) := by decide +kernel
theorem dX4_useHour_1 : decode cX4_useHour 1 = .ok (.getfield 13, 3) := by decide +kernel
theorem dX4_useHour_4 : decode cX4_useHour 4 = .ok (.iload_n 1, 1) := by decide +kernel
theorem dX4_useHour_5 : decode cX4_useHour 5 = .ok (.iaload, 1) := by decide +kernel
theorem dX4_useHour_6 : decode cX4_useHour 6 = .ok (.aload_n 0, 1) := by decide +kernel
theorem dX4_useHour_7 : decode cX4_useHour 7 = .ok (.getfield 19, 3) := by decide +kernel
theorem dX4_useHour_10 : decode cX4_useHour 10 = .ok (.aload_n 0, 1) := by decide +kernel
theorem dX4_useHour_11 : decode cX4_useHour 11 = .ok (.getfield 7, 3) := by decide +kernel
theorem dX4_useHour_14 : decode cX4_useHour 14 = .ok (.iload_n 1, 1) := by decide +kernel
theorem dX4_useHour_15 : decode cX4_useHour 15 = .ok (.iaload, 1) := by decide +kernel
theorem dX4_useHour_16 : decode cX4_useHour 16 = .ok (.iaload, 1) := by decide +kernel
theorem dX4_useHour_17 : decode cX4_useHour 17 = .ok (.imul, 1) := by decide +kernel
theorem dX4_useHour_18 : decode cX4_useHour 18 = .ok (.bipush 10, 2) := by decide +kernel
theorem dX4_useHour_20 : decode cX4_useHour 20 = .ok (.idiv, 1) := by decide +kernel
theorem dX4_useHour_21 : decode cX4_useHour 21 = .ok (.ireturn, 1) := by decide +kernel
theorem dX4_told_0 : decode cX4_told 0 = .ok (.aload_n 0, 1) := by decide +kernel
theorem dX4_told_1 : decode cX4_told 1 = .ok (.iload_n 1, 1) := by decide +kernel
theorem dX4_told_2 : decode cX4_told 2 = .ok (.invokevirtual 72, 3) := by decide +kernel
theorem dX4_told_5 : decode cX4_told 5 = .ok (.ifCond .ne 7, 3) := by decide +kernel
theorem dX4_told_8 : decode cX4_told 8 = .ok (.sipush (-1001), 3) := by decide +kernel
theorem dX4_told_11 : decode cX4_told 11 = .ok (.ireturn, 1) := by decide +kernel
theorem dX4_told_12 : decode cX4_told 12 = .ok (.iload_n 2, 1) := by decide +kernel
theorem dX4_told_13 : decode cX4_told 13 = .ok (.tableswitch 58 0 3 #[31, 38, 45, 52], 31) := by decide +kernel
theorem dX4_told_44 : decode cX4_told 44 = .ok (.aload_n 0, 1) := by decide +kernel
theorem dX4_told_45 : decode cX4_told 45 = .ok (.getfield 7, 3) := by decide +kernel
theorem dX4_told_48 : decode cX4_told 48 = .ok (.iload_n 1, 1) := by decide +kernel
theorem dX4_told_49 : decode cX4_told 49 = .ok (.iaload, 1) := by decide +kernel
theorem dX4_told_50 : decode cX4_told 50 = .ok (.ireturn, 1) := by decide +kernel
theorem dX4_told_51 : decode cX4_told 51 = .ok (.aload_n 0, 1) := by decide +kernel
theorem dX4_told_52 : decode cX4_told 52 = .ok (.getfield 13, 3) := by decide +kernel
theorem dX4_told_55 : decode cX4_told 55 = .ok (.iload_n 1, 1) := by decide +kernel
theorem dX4_told_56 : decode cX4_told 56 = .ok (.iaload, 1) := by decide +kernel
theorem dX4_told_57 : decode cX4_told 57 = .ok (.ireturn, 1) := by decide +kernel
theorem dX4_told_58 : decode cX4_told 58 = .ok (.aload_n 0, 1) := by decide +kernel
theorem dX4_told_59 : decode cX4_told 59 = .ok (.getfield 16, 3) := by decide +kernel
theorem dX4_told_62 : decode cX4_told 62 = .ok (.iload_n 1, 1) := by decide +kernel
theorem dX4_told_63 : decode cX4_told 63 = .ok (.iaload, 1) := by decide +kernel
theorem dX4_told_64 : decode cX4_told 64 = .ok (.ireturn, 1) := by decide +kernel
theorem dX4_told_65 : decode cX4_told 65 = .ok (.aload_n 0, 1) := by decide +kernel
theorem dX4_told_66 : decode cX4_told 66 = .ok (.iload_n 1, 1) := by decide +kernel
theorem dX4_told_67 : decode cX4_told 67 = .ok (.invokevirtual 75, 3) := by decide +kernel
theorem dX4_told_70 : decode cX4_told 70 = .ok (.ireturn, 1) := by decide +kernel
theorem dX4_told_71 : decode cX4_told 71 = .ok (.sipush (-1002), 3) := by decide +kernel
theorem dX4_told_74 : decode cX4_told 74 = .ok (.ireturn, 1) := by decide +kernel
theorem dX4_isIn_0 : decode cX4_isIn 0 = .ok (.iload_n 2, 1) := by decide +kernel
theorem dX4_isIn_1 : decode cX4_isIn 1 = .ok (.aload_n 0, 1) := by decide +kernel
theorem dX4_isIn_2 : decode cX4_isIn 2 = .ok (.getfield 7, 3) := by decide +kernel
theorem dX4_isIn_5 : decode cX4_isIn 5 = .ok (.iload_n 1, 1) := by decide +kernel
theorem dX4_isIn_6 : decode cX4_isIn 6 = .ok (.iaload, 1) := by decide +kernel
theorem dX4_isIn_7 : decode cX4_isIn 7 = .ok (.ishr, 1) := by decide +kernel
theorem dX4_isIn_8 : decode cX4_isIn 8 = .ok (.iconst 1, 1) := by decide +kernel
theorem dX4_isIn_9 : decode cX4_isIn 9 = .ok (.iand, 1) := by decide +kernel
theorem dX4_isIn_10 : decode cX4_isIn 10 = .ok (.iconst 1, 1) := by decide +kernel
theorem dX4_isIn_11 : decode cX4_isIn 11 = .ok (.if_icmp .ne 7, 3) := by decide +kernel
theorem dX4_isIn_14 : decode cX4_isIn 14 = .ok (.iconst 1, 1) := by decide +kernel
theorem dX4_isIn_15 : decode cX4_isIn 15 = .ok (.goto 4, 3) := by decide +kernel
theorem dX4_isIn_18 : decode cX4_isIn 18 = .ok (.iconst 0, 1) := by decide +kernel
theorem dX4_isIn_19 : decode cX4_isIn 19 = .ok (.ireturn, 1) := by decide +kernel
theorem dX4_count_0 : decode cX4_count 0 = .ok (.iload_n 1, 1) := by decide +kernel
theorem dX4_count_1 : decode cX4_count 1 = .ok (.invokestatic 79, 3) := by decide +kernel
theorem dX4_count_4 : decode cX4_count 4 = .ok (.ifCond .eq 15, 3) := by decide +kernel
theorem dX4_count_7 : decode cX4_count 7 = .ok (.iload_n 2, 1) := by decide +kernel
theorem dX4_count_8 : decode cX4_count 8 = .ok (.i2l, 1) := by decide +kernel
theorem dX4_count_9 : decode cX4_count 9 = .ok (.lconst 0, 1) := by decide +kernel
theorem dX4_count_10 : decode cX4_count 10 = .ok (.ldc2_w 82, 3) := by decide +kernel
theorem dX4_count_13 : decode cX4_count 13 = .ok (.invokestatic 46, 3) := by decide +kernel
theorem dX4_count_16 : decode cX4_count 16 = .ok (.ifCond .ne 7, 3) := by decide +kernel
theorem dX4_count_19 : decode cX4_count 19 = .ok (.sipush (-1002), 3) := by decide +kernel
theorem dX4_count_22 : decode cX4_count 22 = .ok (.ireturn, 1) := by decide +kernel
theorem dX4_count_23 : decode cX4_count 23 = .ok (.iconst 0, 1) := by decide +kernel
theorem dX4_count_24 : decode cX4_count 24 = .ok (.istore_n 3, 1) := by decide +kernel
theorem dX4_count_25 : decode cX4_count 25 = .ok (.iconst 0, 1) := by decide +kernel
theorem dX4_count_26 : decode cX4_count 26 = .ok (.istore 4, 2) := by decide +kernel
theorem dX4_count_28 : decode cX4_count 28 = .ok (.iload 4, 2) := by decide +kernel
theorem dX4_count_30 : decode cX4_count 30 = .ok (.aload_n 0, 1) := by decide +kernel
theorem dX4_count_31 : decode cX4_count 31 = .ok (.getfield 69, 3) := by decide +kernel
theorem dX4_count_34 : decode cX4_count 34 = .ok (.if_icmp .ge 122, 3) := by decide +kernel
theorem dX4_count_37 : decode cX4_count 37 = .ok (.aload_n 0, 1) := by decide +kernel
theorem dX4_count_38 : decode cX4_count 38 = .ok (.iload 4, 2) := by decide +kernel
theorem dX4_count_40 : decode cX4_count 40 = .ok (.iload_n 1, 1) := by decide +kernel
theorem dX4_count_41 : decode cX4_count 41 = .ok (.invokevirtual 84, 3) := by decide +kernel
theorem dX4_count_44 : decode cX4_count 44 = .ok (.ifCond .eq 106, 3) := by decide +kernel
theorem dX4_count_47 : decode cX4_count 47 = .ok (.aload_n 0, 1) := by decide +kernel
theorem dX4_count_48 : decode cX4_count 48 = .ok (.getfield 16, 3) := by decide +kernel
theorem dX4_count_51 : decode cX4_count 51 = .ok (.iload 4, 2) := by decide +kernel
theorem dX4_count_53 : decode cX4_count 53 = .ok (.iaload, 1) := by decide +kernel
theorem dX4_count_54 : decode cX4_count 54 = .ok (.istore 5, 2) := by decide +kernel
theorem dX4_count_56 : decode cX4_count 56 = .ok (.iload_n 2, 1) := by decide +kernel
theorem dX4_count_57 : decode cX4_count 57 = .ok (.ifCond .eq 42, 3) := by decide +kernel
theorem dX4_count_60 : decode cX4_count 60 = .ok (.iload_n 2, 1) := by decide +kernel
theorem dX4_count_61 : decode cX4_count 61 = .ok (.iconst 1, 1) := by decide +kernel
theorem dX4_count_62 : decode cX4_count 62 = .ok (.if_icmp .ne 8, 3) := by decide +kernel
theorem dX4_count_65 : decode cX4_count 65 = .ok (.iload 5, 2) := by decide +kernel
theorem dX4_count_67 : decode cX4_count 67 = .ok (.ifCond .ge 32, 3) := by decide +kernel
theorem dX4_count_70 : decode cX4_count 70 = .ok (.iload_n 2, 1) := by decide +kernel
theorem dX4_count_71 : decode cX4_count 71 = .ok (.iconst 2, 1) := by decide +kernel
theorem dX4_count_72 : decode cX4_count 72 = .ok (.if_icmp .ne 8, 3) := by decide +kernel
theorem dX4_count_75 : decode cX4_count 75 = .ok (.iload 5, 2) := by decide +kernel
theorem dX4_count_77 : decode cX4_count 77 = .ok (.ifCond .lt 22, 3) := by decide +kernel
theorem dX4_count_80 : decode cX4_count 80 = .ok (.iload_n 2, 1) := by decide +kernel
theorem dX4_count_81 : decode cX4_count 81 = .ok (.bipush 6, 2) := by decide +kernel
theorem dX4_count_83 : decode cX4_count 83 = .ok (.if_icmp .ge 20, 3) := by decide +kernel
theorem dX4_count_86 : decode cX4_count 86 = .ok (.iload_n 2, 1) := by decide +kernel
theorem dX4_count_87 : decode cX4_count 87 = .ok (.iconst 2, 1) := by decide +kernel
theorem dX4_count_88 : decode cX4_count 88 = .ok (.if_icmp .le 15, 3) := by decide +kernel
theorem dX4_count_91 : decode cX4_count 91 = .ok (.iload 5, 2) := by decide +kernel
theorem dX4_count_93 : decode cX4_count 93 = .ok (.iload_n 2, 1) := by decide +kernel
theorem dX4_count_94 : decode cX4_count 94 = .ok (.iconst 3, 1) := by decide +kernel
theorem dX4_count_95 : decode cX4_count 95 = .ok (.isub, 1) := by decide +kernel
theorem dX4_count_96 : decode cX4_count 96 = .ok (.if_icmp .ne 7, 3) := by decide +kernel
theorem dX4_count_99 : decode cX4_count 99 = .ok (.iconst 1, 1) := by decide +kernel
theorem dX4_count_100 : decode cX4_count 100 = .ok (.goto 4, 3) := by decide +kernel
theorem dX4_count_103 : decode cX4_count 103 = .ok (.iconst 0, 1) := by decide +kernel
theorem dX4_count_104 : decode cX4_count 104 = .ok (.istore 6, 2) := by decide +kernel
theorem dX4_count_106 : decode cX4_count 106 = .ok (.iload_n 3, 1) := by decide +kernel
theorem dX4_count_107 : decode cX4_count 107 = .ok (.iload_n 2, 1) := by decide +kernel
theorem dX4_count_108 : decode cX4_count 108 = .ok (.bipush 6, 2) := by decide +kernel
theorem dX4_count_110 : decode cX4_count 110 = .ok (.if_icmp .ne 13, 3) := by decide +kernel
theorem dX4_count_113 : decode cX4_count 113 = .ok (.aload_n 0, 1) := by decide +kernel
theorem dX4_count_114 : decode cX4_count 114 = .ok (.getfield 13, 3) := by decide +kernel
theorem dX4_count_117 : decode cX4_count 117 = .ok (.iload 4, 2) := by decide +kernel
theorem dX4_count_119 : decode cX4_count 119 = .ok (.iaload, 1) := by decide +kernel
theorem dX4_count_120 : decode cX4_count 120 = .ok (.goto 28, 3) := by decide +kernel
theorem dX4_count_123 : decode cX4_count 123 = .ok (.iload_n 2, 1) := by decide +kernel
theorem dX4_count_124 : decode cX4_count 124 = .ok (.bipush 7, 2) := by decide +kernel
theorem dX4_count_126 : decode cX4_count 126 = .ok (.if_icmp .ne 12, 3) := by decide +kernel
theorem dX4_count_129 : decode cX4_count 129 = .ok (.aload_n 0, 1) := by decide +kernel
theorem dX4_count_130 : decode cX4_count 130 = .ok (.iload 4, 2) := by decide +kernel
theorem dX4_count_132 : decode cX4_count 132 = .ok (.invokevirtual 75, 3) := by decide +kernel
theorem dX4_count_135 : decode cX4_count 135 = .ok (.goto 13, 3) := by decide +kernel
theorem dX4_count_138 : decode cX4_count 138 = .ok (.iload 6, 2) := by decide +kernel
theorem dX4_count_140 : decode cX4_count 140 = .ok (.ifCond .eq 7, 3) := by decide +kernel
theorem dX4_count_143 : decode cX4_count 143 = .ok (.iconst 1, 1) := by decide +kernel
theorem dX4_count_144 : decode cX4_count 144 = .ok (.goto 4, 3) := by decide +kernel
theorem dX4_count_147 : decode cX4_count 147 = .ok (.iconst 0, 1) := by decide +kernel
theorem dX4_count_148 : decode cX4_count 148 = .ok (.iadd, 1) := by decide +kernel
theorem dX4_count_149 : decode cX4_count 149 = .ok (.istore_n 3, 1) := by decide +kernel
theorem dX4_count_150 : decode cX4_count 150 = .ok (.iinc 4 1, 3) := by decide +kernel
theorem dX4_count_153 : decode cX4_count 153 = .ok (.goto (-125), 3) := by decide +kernel
theorem dX4_count_156 : decode cX4_count 156 = .ok (.iload_n 3, 1) := by decide +kernel
theorem dX4_count_157 : decode cX4_count 157 = .ok (.ireturn, 1) := by decide +kernel
theorem dX4_riskAt_0 : decode cX4_riskAt 0 = .ok (.iconst 0, 1) := by decide +kernel
theorem dX4_riskAt_1 : decode cX4_riskAt 1 = .ok (.istore_n 3, 1) := by decide +kernel
theorem dX4_riskAt_2 : decode cX4_riskAt 2 = .ok (.iconst 0, 1) := by decide +kernel
theorem dX4_riskAt_3 : decode cX4_riskAt 3 = .ok (.istore 4, 2) := by decide +kernel
theorem dX4_riskAt_5 : decode cX4_riskAt 5 = .ok (.iload 4, 2) := by decide +kernel
theorem dX4_riskAt_7 : decode cX4_riskAt 7 = .ok (.aload_n 0, 1) := by decide +kernel
theorem dX4_riskAt_8 : decode cX4_riskAt 8 = .ok (.getfield 69, 3) := by decide +kernel
theorem dX4_riskAt_11 : decode cX4_riskAt 11 = .ok (.if_icmp .ge 38, 3) := by decide +kernel
theorem dX4_riskAt_14 : decode cX4_riskAt 14 = .ok (.iload_n 3, 1) := by decide +kernel
theorem dX4_riskAt_15 : decode cX4_riskAt 15 = .ok (.aload_n 0, 1) := by decide +kernel
theorem dX4_riskAt_16 : decode cX4_riskAt 16 = .ok (.iload 4, 2) := by decide +kernel
theorem dX4_riskAt_18 : decode cX4_riskAt 18 = .ok (.iload_n 1, 1) := by decide +kernel
theorem dX4_riskAt_19 : decode cX4_riskAt 19 = .ok (.invokevirtual 84, 3) := by decide +kernel
theorem dX4_riskAt_22 : decode cX4_riskAt 22 = .ok (.ifCond .eq 18, 3) := by decide +kernel
theorem dX4_riskAt_25 : decode cX4_riskAt 25 = .ok (.aload_n 0, 1) := by decide +kernel
theorem dX4_riskAt_26 : decode cX4_riskAt 26 = .ok (.getfield 13, 3) := by decide +kernel
theorem dX4_riskAt_29 : decode cX4_riskAt 29 = .ok (.iload 4, 2) := by decide +kernel
theorem dX4_riskAt_31 : decode cX4_riskAt 31 = .ok (.iaload, 1) := by decide +kernel
theorem dX4_riskAt_32 : decode cX4_riskAt 32 = .ok (.iload_n 2, 1) := by decide +kernel
theorem dX4_riskAt_33 : decode cX4_riskAt 33 = .ok (.if_icmp .lt 7, 3) := by decide +kernel
theorem dX4_riskAt_36 : decode cX4_riskAt 36 = .ok (.iconst 1, 1) := by decide +kernel
theorem dX4_riskAt_37 : decode cX4_riskAt 37 = .ok (.goto 4, 3) := by decide +kernel
theorem dX4_riskAt_40 : decode cX4_riskAt 40 = .ok (.iconst 0, 1) := by decide +kernel
theorem dX4_riskAt_41 : decode cX4_riskAt 41 = .ok (.iadd, 1) := by decide +kernel
theorem dX4_riskAt_42 : decode cX4_riskAt 42 = .ok (.istore_n 3, 1) := by decide +kernel
theorem dX4_riskAt_43 : decode cX4_riskAt 43 = .ok (.iinc 4 1, 3) := by decide +kernel
theorem dX4_riskAt_46 : decode cX4_riskAt 46 = .ok (.goto (-41), 3) := by decide +kernel
theorem dX4_riskAt_49 : decode cX4_riskAt 49 = .ok (.iload_n 3, 1) := by decide +kernel
theorem dX4_riskAt_50 : decode cX4_riskAt 50 = .ok (.ireturn, 1) := by decide +kernel
theorem dX4_risk_0 : decode cX4_risk 0 = .ok (.iload_n 1, 1) := by decide +kernel
theorem dX4_risk_1 : decode cX4_risk 1 = .ok (.invokestatic 79, 3) := by decide +kernel
theorem dX4_risk_4 : decode cX4_risk 4 = .ok (.ifCond .eq 24, 3) := by decide +kernel
theorem dX4_risk_7 : decode cX4_risk 7 = .ok (.iload_n 2, 1) := by decide +kernel
theorem dX4_risk_8 : decode cX4_risk 8 = .ok (.i2l, 1) := by decide +kernel
theorem dX4_risk_9 : decode cX4_risk 9 = .ok (.lconst 0, 1) := by decide +kernel
theorem dX4_risk_10 : decode cX4_risk 10 = .ok (.ldc2_w 60, 3) := by decide +kernel
theorem dX4_risk_13 : decode cX4_risk 13 = .ok (.invokestatic 46, 3) := by decide +kernel
theorem dX4_risk_16 : decode cX4_risk 16 = .ok (.ifCond .eq 12, 3) := by decide +kernel
theorem dX4_risk_19 : decode cX4_risk 19 = .ok (.aload_n 0, 1) := by decide +kernel
theorem dX4_risk_20 : decode cX4_risk 20 = .ok (.iload_n 1, 1) := by decide +kernel
theorem dX4_risk_21 : decode cX4_risk 21 = .ok (.iload_n 2, 1) := by decide +kernel
theorem dX4_risk_22 : decode cX4_risk 22 = .ok (.invokevirtual 88, 3) := by decide +kernel
theorem dX4_risk_25 : decode cX4_risk 25 = .ok (.goto 6, 3) := by decide +kernel
theorem dX4_risk_28 : decode cX4_risk 28 = .ok (.sipush (-1002), 3) := by decide +kernel
theorem dX4_risk_31 : decode cX4_risk 31 = .ok (.ireturn, 1) := by decide +kernel
theorem dX4_failedAt_0 : decode cX4_failedAt 0 = .ok (.iconst 0, 1) := by decide +kernel
theorem dX4_failedAt_1 : decode cX4_failedAt 1 = .ok (.istore 4, 2) := by decide +kernel
theorem dX4_failedAt_3 : decode cX4_failedAt 3 = .ok (.iconst 0, 1) := by decide +kernel
theorem dX4_failedAt_4 : decode cX4_failedAt 4 = .ok (.istore 5, 2) := by decide +kernel
theorem dX4_failedAt_6 : decode cX4_failedAt 6 = .ok (.iload 5, 2) := by decide +kernel
theorem dX4_failedAt_8 : decode cX4_failedAt 8 = .ok (.aload_n 0, 1) := by decide +kernel
theorem dX4_failedAt_9 : decode cX4_failedAt 9 = .ok (.getfield 69, 3) := by decide +kernel
theorem dX4_failedAt_12 : decode cX4_failedAt 12 = .ok (.if_icmp .ge 85, 3) := by decide +kernel
theorem dX4_failedAt_15 : decode cX4_failedAt 15 = .ok (.iload_n 2, 1) := by decide +kernel
theorem dX4_failedAt_16 : decode cX4_failedAt 16 = .ok (.ifCond .ge 21, 3) := by decide +kernel
theorem dX4_failedAt_19 : decode cX4_failedAt 19 = .ok (.aload_n 0, 1) := by decide +kernel
theorem dX4_failedAt_20 : decode cX4_failedAt 20 = .ok (.getfield 16, 3) := by decide +kernel
theorem dX4_failedAt_23 : decode cX4_failedAt 23 = .ok (.iload 5, 2) := by decide +kernel
theorem dX4_failedAt_25 : decode cX4_failedAt 25 = .ok (.iaload, 1) := by decide +kernel
theorem dX4_failedAt_26 : decode cX4_failedAt 26 = .ok (.ifCond .lt 7, 3) := by decide +kernel
theorem dX4_failedAt_29 : decode cX4_failedAt 29 = .ok (.iconst 1, 1) := by decide +kernel
theorem dX4_failedAt_30 : decode cX4_failedAt 30 = .ok (.goto 23, 3) := by decide +kernel
theorem dX4_failedAt_33 : decode cX4_failedAt 33 = .ok (.iconst 0, 1) := by decide +kernel
theorem dX4_failedAt_34 : decode cX4_failedAt 34 = .ok (.goto 19, 3) := by decide +kernel
theorem dX4_failedAt_37 : decode cX4_failedAt 37 = .ok (.aload_n 0, 1) := by decide +kernel
theorem dX4_failedAt_38 : decode cX4_failedAt 38 = .ok (.getfield 16, 3) := by decide +kernel
theorem dX4_failedAt_41 : decode cX4_failedAt 41 = .ok (.iload 5, 2) := by decide +kernel
theorem dX4_failedAt_43 : decode cX4_failedAt 43 = .ok (.iaload, 1) := by decide +kernel
theorem dX4_failedAt_44 : decode cX4_failedAt 44 = .ok (.iload_n 2, 1) := by decide +kernel
theorem dX4_failedAt_45 : decode cX4_failedAt 45 = .ok (.if_icmp .ne 7, 3) := by decide +kernel
theorem dX4_failedAt_48 : decode cX4_failedAt 48 = .ok (.iconst 1, 1) := by decide +kernel
theorem dX4_failedAt_49 : decode cX4_failedAt 49 = .ok (.goto 4, 3) := by decide +kernel
theorem dX4_failedAt_52 : decode cX4_failedAt 52 = .ok (.iconst 0, 1) := by decide +kernel
theorem dX4_failedAt_53 : decode cX4_failedAt 53 = .ok (.istore 6, 2) := by decide +kernel
theorem dX4_failedAt_55 : decode cX4_failedAt 55 = .ok (.iload 4, 2) := by decide +kernel
theorem dX4_failedAt_57 : decode cX4_failedAt 57 = .ok (.aload_n 0, 1) := by decide +kernel
theorem dX4_failedAt_58 : decode cX4_failedAt 58 = .ok (.iload 5, 2) := by decide +kernel
theorem dX4_failedAt_60 : decode cX4_failedAt 60 = .ok (.iload_n 1, 1) := by decide +kernel
theorem dX4_failedAt_61 : decode cX4_failedAt 61 = .ok (.invokevirtual 84, 3) := by decide +kernel
theorem dX4_failedAt_64 : decode cX4_failedAt 64 = .ok (.ifCond .eq 23, 3) := by decide +kernel
theorem dX4_failedAt_67 : decode cX4_failedAt 67 = .ok (.iload 6, 2) := by decide +kernel
theorem dX4_failedAt_69 : decode cX4_failedAt 69 = .ok (.ifCond .eq 18, 3) := by decide +kernel
theorem dX4_failedAt_72 : decode cX4_failedAt 72 = .ok (.aload_n 0, 1) := by decide +kernel
theorem dX4_failedAt_73 : decode cX4_failedAt 73 = .ok (.getfield 13, 3) := by decide +kernel
theorem dX4_failedAt_76 : decode cX4_failedAt 76 = .ok (.iload 5, 2) := by decide +kernel
theorem dX4_failedAt_78 : decode cX4_failedAt 78 = .ok (.iaload, 1) := by decide +kernel
theorem dX4_failedAt_79 : decode cX4_failedAt 79 = .ok (.iload_n 3, 1) := by decide +kernel
theorem dX4_failedAt_80 : decode cX4_failedAt 80 = .ok (.if_icmp .ne 7, 3) := by decide +kernel
theorem dX4_failedAt_83 : decode cX4_failedAt 83 = .ok (.iconst 1, 1) := by decide +kernel
theorem dX4_failedAt_84 : decode cX4_failedAt 84 = .ok (.goto 4, 3) := by decide +kernel
theorem dX4_failedAt_87 : decode cX4_failedAt 87 = .ok (.iconst 0, 1) := by decide +kernel
theorem dX4_failedAt_88 : decode cX4_failedAt 88 = .ok (.iadd, 1) := by decide +kernel
theorem dX4_failedAt_89 : decode cX4_failedAt 89 = .ok (.istore 4, 2) := by decide +kernel
theorem dX4_failedAt_91 : decode cX4_failedAt 91 = .ok (.iinc 5 1, 3) := by decide +kernel
theorem dX4_failedAt_94 : decode cX4_failedAt 94 = .ok (.goto (-88), 3) := by decide +kernel
theorem dX4_failedAt_97 : decode cX4_failedAt 97 = .ok (.iload 4, 2) := by decide +kernel
theorem dX4_failedAt_99 : decode cX4_failedAt 99 = .ok (.ireturn, 1) := by decide +kernel
theorem dX4_common_0 : decode cX4_common 0 = .ok (.lload_n 0, 1) := by decide +kernel
theorem dX4_common_1 : decode cX4_common 1 = .ok (.lconst 0, 1) := by decide +kernel
theorem dX4_common_2 : decode cX4_common 2 = .ok (.lcmp, 1) := by decide +kernel
theorem dX4_common_3 : decode cX4_common 3 = .ok (.ifCond .ge 8, 3) := by decide +kernel
theorem dX4_common_6 : decode cX4_common 6 = .ok (.lload_n 0, 1) := by decide +kernel
theorem dX4_common_7 : decode cX4_common 7 = .ok (.lneg, 1) := by decide +kernel
theorem dX4_common_8 : decode cX4_common 8 = .ok (.goto 4, 3) := by decide +kernel
theorem dX4_common_11 : decode cX4_common 11 = .ok (.lload_n 0, 1) := by decide +kernel
theorem dX4_common_12 : decode cX4_common 12 = .ok (.lstore 4, 2) := by decide +kernel
theorem dX4_common_14 : decode cX4_common 14 = .ok (.lload_n 2, 1) := by decide +kernel
theorem dX4_common_15 : decode cX4_common 15 = .ok (.lstore 6, 2) := by decide +kernel
theorem dX4_common_17 : decode cX4_common 17 = .ok (.lload 6, 2) := by decide +kernel
theorem dX4_common_19 : decode cX4_common 19 = .ok (.lconst 0, 1) := by decide +kernel
theorem dX4_common_20 : decode cX4_common 20 = .ok (.lcmp, 1) := by decide +kernel
theorem dX4_common_21 : decode cX4_common 21 = .ok (.ifCond .eq 21, 3) := by decide +kernel
theorem dX4_common_24 : decode cX4_common 24 = .ok (.lload 4, 2) := by decide +kernel
theorem dX4_common_26 : decode cX4_common 26 = .ok (.lload 6, 2) := by decide +kernel
theorem dX4_common_28 : decode cX4_common 28 = .ok (.lrem, 1) := by decide +kernel
theorem dX4_common_29 : decode cX4_common 29 = .ok (.lstore 8, 2) := by decide +kernel
theorem dX4_common_31 : decode cX4_common 31 = .ok (.lload 6, 2) := by decide +kernel
theorem dX4_common_33 : decode cX4_common 33 = .ok (.lstore 4, 2) := by decide +kernel
theorem dX4_common_35 : decode cX4_common 35 = .ok (.lload 8, 2) := by decide +kernel
theorem dX4_common_37 : decode cX4_common 37 = .ok (.lstore 6, 2) := by decide +kernel
theorem dX4_common_39 : decode cX4_common 39 = .ok (.goto (-22), 3) := by decide +kernel
theorem dX4_common_42 : decode cX4_common 42 = .ok (.lload 4, 2) := by decide +kernel
theorem dX4_common_44 : decode cX4_common 44 = .ok (.lreturn, 1) := by decide +kernel
theorem dX4_lay_0 : decode cX4_lay 0 = .ok (.iconst 0, 1) := by decide +kernel
theorem dX4_lay_1 : decode cX4_lay 1 = .ok (.istore_n 3, 1) := by decide +kernel
theorem dX4_lay_2 : decode cX4_lay 2 = .ok (.iload_n 3, 1) := by decide +kernel
theorem dX4_lay_3 : decode cX4_lay 3 = .ok (.sipush 500, 3) := by decide +kernel
theorem dX4_lay_6 : decode cX4_lay 6 = .ok (.if_icmp .gt 23, 3) := by decide +kernel
theorem dX4_lay_9 : decode cX4_lay 9 = .ok (.aload_n 0, 1) := by decide +kernel
theorem dX4_lay_10 : decode cX4_lay 10 = .ok (.getfield 35, 3) := by decide +kernel
theorem dX4_lay_13 : decode cX4_lay 13 = .ok (.iload_n 3, 1) := by decide +kernel
theorem dX4_lay_14 : decode cX4_lay 14 = .ok (.iconst 0, 1) := by decide +kernel
theorem dX4_lay_15 : decode cX4_lay 15 = .ok (.iastore, 1) := by decide +kernel
theorem dX4_lay_16 : decode cX4_lay 16 = .ok (.aload_n 0, 1) := by decide +kernel
theorem dX4_lay_17 : decode cX4_lay 17 = .ok (.getfield 38, 3) := by decide +kernel
theorem dX4_lay_20 : decode cX4_lay 20 = .ok (.iload_n 3, 1) := by decide +kernel
theorem dX4_lay_21 : decode cX4_lay 21 = .ok (.iconst 0, 1) := by decide +kernel
theorem dX4_lay_22 : decode cX4_lay 22 = .ok (.iastore, 1) := by decide +kernel
theorem dX4_lay_23 : decode cX4_lay 23 = .ok (.iinc 3 1, 3) := by decide +kernel
theorem dX4_lay_26 : decode cX4_lay 26 = .ok (.goto (-24), 3) := by decide +kernel
theorem dX4_lay_29 : decode cX4_lay 29 = .ok (.iconst 0, 1) := by decide +kernel
theorem dX4_lay_30 : decode cX4_lay 30 = .ok (.istore_n 3, 1) := by decide +kernel
theorem dX4_lay_31 : decode cX4_lay 31 = .ok (.iload_n 3, 1) := by decide +kernel
theorem dX4_lay_32 : decode cX4_lay 32 = .ok (.aload_n 0, 1) := by decide +kernel
theorem dX4_lay_33 : decode cX4_lay 33 = .ok (.getfield 69, 3) := by decide +kernel
theorem dX4_lay_36 : decode cX4_lay 36 = .ok (.if_icmp .ge 77, 3) := by decide +kernel
theorem dX4_lay_39 : decode cX4_lay 39 = .ok (.aload_n 0, 1) := by decide +kernel
theorem dX4_lay_40 : decode cX4_lay 40 = .ok (.iload_n 3, 1) := by decide +kernel
theorem dX4_lay_41 : decode cX4_lay 41 = .ok (.iload_n 1, 1) := by decide +kernel
theorem dX4_lay_42 : decode cX4_lay 42 = .ok (.invokevirtual 84, 3) := by decide +kernel
theorem dX4_lay_45 : decode cX4_lay 45 = .ok (.ifCond .eq 62, 3) := by decide +kernel
theorem dX4_lay_48 : decode cX4_lay 48 = .ok (.aload_n 0, 1) := by decide +kernel
theorem dX4_lay_49 : decode cX4_lay 49 = .ok (.getfield 35, 3) := by decide +kernel
theorem dX4_lay_52 : decode cX4_lay 52 = .ok (.aload_n 0, 1) := by decide +kernel
theorem dX4_lay_53 : decode cX4_lay 53 = .ok (.getfield 13, 3) := by decide +kernel
theorem dX4_lay_56 : decode cX4_lay 56 = .ok (.iload_n 3, 1) := by decide +kernel
theorem dX4_lay_57 : decode cX4_lay 57 = .ok (.iaload, 1) := by decide +kernel
theorem dX4_lay_58 : decode cX4_lay 58 = .ok (.iaload, 1) := by decide +kernel
theorem dX4_lay_59 : decode cX4_lay 59 = .ok (.ifCond .ne 48, 3) := by decide +kernel
theorem dX4_lay_62 : decode cX4_lay 62 = .ok (.aload_n 0, 1) := by decide +kernel
theorem dX4_lay_63 : decode cX4_lay 63 = .ok (.getfield 35, 3) := by decide +kernel
theorem dX4_lay_66 : decode cX4_lay 66 = .ok (.aload_n 0, 1) := by decide +kernel
theorem dX4_lay_67 : decode cX4_lay 67 = .ok (.getfield 13, 3) := by decide +kernel
theorem dX4_lay_70 : decode cX4_lay 70 = .ok (.iload_n 3, 1) := by decide +kernel
theorem dX4_lay_71 : decode cX4_lay 71 = .ok (.iaload, 1) := by decide +kernel
theorem dX4_lay_72 : decode cX4_lay 72 = .ok (.aload_n 0, 1) := by decide +kernel
theorem dX4_lay_73 : decode cX4_lay 73 = .ok (.iload_n 1, 1) := by decide +kernel
theorem dX4_lay_74 : decode cX4_lay 74 = .ok (.iload_n 2, 1) := by decide +kernel
theorem dX4_lay_75 : decode cX4_lay 75 = .ok (.aload_n 0, 1) := by decide +kernel
theorem dX4_lay_76 : decode cX4_lay 76 = .ok (.getfield 13, 3) := by decide +kernel
theorem dX4_lay_79 : decode cX4_lay 79 = .ok (.iload_n 3, 1) := by decide +kernel
theorem dX4_lay_80 : decode cX4_lay 80 = .ok (.iaload, 1) := by decide +kernel
theorem dX4_lay_81 : decode cX4_lay 81 = .ok (.invokevirtual 92, 3) := by decide +kernel
theorem dX4_lay_84 : decode cX4_lay 84 = .ok (.iastore, 1) := by decide +kernel
theorem dX4_lay_85 : decode cX4_lay 85 = .ok (.aload_n 0, 1) := by decide +kernel
theorem dX4_lay_86 : decode cX4_lay 86 = .ok (.getfield 38, 3) := by decide +kernel
theorem dX4_lay_89 : decode cX4_lay 89 = .ok (.aload_n 0, 1) := by decide +kernel
theorem dX4_lay_90 : decode cX4_lay 90 = .ok (.getfield 13, 3) := by decide +kernel
theorem dX4_lay_93 : decode cX4_lay 93 = .ok (.iload_n 3, 1) := by decide +kernel
theorem dX4_lay_94 : decode cX4_lay 94 = .ok (.iaload, 1) := by decide +kernel
theorem dX4_lay_95 : decode cX4_lay 95 = .ok (.aload_n 0, 1) := by decide +kernel
theorem dX4_lay_96 : decode cX4_lay 96 = .ok (.iload_n 1, 1) := by decide +kernel
theorem dX4_lay_97 : decode cX4_lay 97 = .ok (.aload_n 0, 1) := by decide +kernel
theorem dX4_lay_98 : decode cX4_lay 98 = .ok (.getfield 13, 3) := by decide +kernel
theorem dX4_lay_101 : decode cX4_lay 101 = .ok (.iload_n 3, 1) := by decide +kernel
theorem dX4_lay_102 : decode cX4_lay 102 = .ok (.iaload, 1) := by decide +kernel
theorem dX4_lay_103 : decode cX4_lay 103 = .ok (.invokevirtual 88, 3) := by decide +kernel
theorem dX4_lay_106 : decode cX4_lay 106 = .ok (.iastore, 1) := by decide +kernel
theorem dX4_lay_107 : decode cX4_lay 107 = .ok (.iinc 3 1, 3) := by decide +kernel
theorem dX4_lay_110 : decode cX4_lay 110 = .ok (.goto (-79), 3) := by decide +kernel
theorem dX4_lay_113 : decode cX4_lay 113 = .ok (.return_, 1) := by decide +kernel
theorem dX4_goOn_0 : decode cX4_goOn 0 = .ok (.aload_n 0, 1) := by decide +kernel
theorem dX4_goOn_1 : decode cX4_goOn 1 = .ok (.getfield 35, 3) := by decide +kernel
theorem dX4_goOn_4 : decode cX4_goOn 4 = .ok (.iload_n 1, 1) := by decide +kernel
theorem dX4_goOn_5 : decode cX4_goOn 5 = .ok (.iaload, 1) := by decide +kernel
theorem dX4_goOn_6 : decode cX4_goOn 6 = .ok (.istore_n 2, 1) := by decide +kernel
theorem dX4_goOn_7 : decode cX4_goOn 7 = .ok (.iload_n 2, 1) := by decide +kernel
theorem dX4_goOn_8 : decode cX4_goOn 8 = .ok (.ifCond .le 69, 3) := by decide +kernel
theorem dX4_goOn_11 : decode cX4_goOn 11 = .ok (.aload_n 0, 1) := by decide +kernel
theorem dX4_goOn_12 : decode cX4_goOn 12 = .ok (.getfield 38, 3) := by decide +kernel
theorem dX4_goOn_15 : decode cX4_goOn 15 = .ok (.iload_n 1, 1) := by decide +kernel
theorem dX4_goOn_16 : decode cX4_goOn 16 = .ok (.iaload, 1) := by decide +kernel
theorem dX4_goOn_17 : decode cX4_goOn 17 = .ok (.istore_n 3, 1) := by decide +kernel
theorem dX4_goOn_18 : decode cX4_goOn 18 = .ok (.aload_n 0, 1) := by decide +kernel
theorem dX4_goOn_19 : decode cX4_goOn 19 = .ok (.dup, 1) := by decide +kernel
theorem dX4_goOn_20 : decode cX4_goOn 20 = .ok (.getfield 96, 3) := by decide +kernel
theorem dX4_goOn_23 : decode cX4_goOn 23 = .ok (.iload_n 3, 1) := by decide +kernel
theorem dX4_goOn_24 : decode cX4_goOn 24 = .ok (.iload_n 2, 1) := by decide +kernel
theorem dX4_goOn_25 : decode cX4_goOn 25 = .ok (.isub, 1) := by decide +kernel
theorem dX4_goOn_26 : decode cX4_goOn 26 = .ok (.i2l, 1) := by decide +kernel
theorem dX4_goOn_27 : decode cX4_goOn 27 = .ok (.lmul, 1) := by decide +kernel
theorem dX4_goOn_28 : decode cX4_goOn 28 = .ok (.putfield 96, 3) := by decide +kernel
theorem dX4_goOn_31 : decode cX4_goOn 31 = .ok (.aload_n 0, 1) := by decide +kernel
theorem dX4_goOn_32 : decode cX4_goOn 32 = .ok (.dup, 1) := by decide +kernel
theorem dX4_goOn_33 : decode cX4_goOn 33 = .ok (.getfield 100, 3) := by decide +kernel
theorem dX4_goOn_36 : decode cX4_goOn 36 = .ok (.iload_n 3, 1) := by decide +kernel
theorem dX4_goOn_37 : decode cX4_goOn 37 = .ok (.i2l, 1) := by decide +kernel
theorem dX4_goOn_38 : decode cX4_goOn 38 = .ok (.lmul, 1) := by decide +kernel
theorem dX4_goOn_39 : decode cX4_goOn 39 = .ok (.putfield 100, 3) := by decide +kernel
theorem dX4_goOn_42 : decode cX4_goOn 42 = .ok (.aload_n 0, 1) := by decide +kernel
theorem dX4_goOn_43 : decode cX4_goOn 43 = .ok (.getfield 96, 3) := by decide +kernel
theorem dX4_goOn_46 : decode cX4_goOn 46 = .ok (.aload_n 0, 1) := by decide +kernel
theorem dX4_goOn_47 : decode cX4_goOn 47 = .ok (.getfield 100, 3) := by decide +kernel
theorem dX4_goOn_50 : decode cX4_goOn 50 = .ok (.invokestatic 103, 3) := by decide +kernel
theorem dX4_goOn_53 : decode cX4_goOn 53 = .ok (.lstore 4, 2) := by decide +kernel
theorem dX4_goOn_55 : decode cX4_goOn 55 = .ok (.aload_n 0, 1) := by decide +kernel
theorem dX4_goOn_56 : decode cX4_goOn 56 = .ok (.dup, 1) := by decide +kernel
theorem dX4_goOn_57 : decode cX4_goOn 57 = .ok (.getfield 96, 3) := by decide +kernel
theorem dX4_goOn_60 : decode cX4_goOn 60 = .ok (.lload 4, 2) := by decide +kernel
theorem dX4_goOn_62 : decode cX4_goOn 62 = .ok (.ldiv, 1) := by decide +kernel
theorem dX4_goOn_63 : decode cX4_goOn 63 = .ok (.putfield 96, 3) := by decide +kernel
theorem dX4_goOn_66 : decode cX4_goOn 66 = .ok (.aload_n 0, 1) := by decide +kernel
theorem dX4_goOn_67 : decode cX4_goOn 67 = .ok (.dup, 1) := by decide +kernel
theorem dX4_goOn_68 : decode cX4_goOn 68 = .ok (.getfield 100, 3) := by decide +kernel
theorem dX4_goOn_71 : decode cX4_goOn 71 = .ok (.lload 4, 2) := by decide +kernel
theorem dX4_goOn_73 : decode cX4_goOn 73 = .ok (.ldiv, 1) := by decide +kernel
theorem dX4_goOn_74 : decode cX4_goOn 74 = .ok (.putfield 100, 3) := by decide +kernel
theorem dX4_goOn_77 : decode cX4_goOn 77 = .ok (.return_, 1) := by decide +kernel
theorem dX4_findLeft_0 : decode cX4_findLeft 0 = .ok (.aload_n 0, 1) := by decide +kernel
theorem dX4_findLeft_1 : decode cX4_findLeft 1 = .ok (.lconst 1, 1) := by decide +kernel
theorem dX4_findLeft_2 : decode cX4_findLeft 2 = .ok (.putfield 96, 3) := by decide +kernel
theorem dX4_findLeft_5 : decode cX4_findLeft 5 = .ok (.aload_n 0, 1) := by decide +kernel
theorem dX4_findLeft_6 : decode cX4_findLeft 6 = .ok (.lconst 1, 1) := by decide +kernel
theorem dX4_findLeft_7 : decode cX4_findLeft 7 = .ok (.putfield 100, 3) := by decide +kernel
theorem dX4_findLeft_10 : decode cX4_findLeft 10 = .ok (.iconst 0, 1) := by decide +kernel
theorem dX4_findLeft_11 : decode cX4_findLeft 11 = .ok (.istore_n 2, 1) := by decide +kernel
theorem dX4_findLeft_12 : decode cX4_findLeft 12 = .ok (.iload_n 2, 1) := by decide +kernel
theorem dX4_findLeft_13 : decode cX4_findLeft 13 = .ok (.iload_n 1, 1) := by decide +kernel
theorem dX4_findLeft_14 : decode cX4_findLeft 14 = .ok (.if_icmp .gt 14, 3) := by decide +kernel
theorem dX4_findLeft_17 : decode cX4_findLeft 17 = .ok (.aload_n 0, 1) := by decide +kernel
theorem dX4_findLeft_18 : decode cX4_findLeft 18 = .ok (.iload_n 2, 1) := by decide +kernel
theorem dX4_findLeft_19 : decode cX4_findLeft 19 = .ok (.invokevirtual 107, 3) := by decide +kernel
theorem dX4_findLeft_22 : decode cX4_findLeft 22 = .ok (.iinc 2 1, 3) := by decide +kernel
theorem dX4_findLeft_25 : decode cX4_findLeft 25 = .ok (.goto (-13), 3) := by decide +kernel
theorem dX4_findLeft_28 : decode cX4_findLeft 28 = .ok (.return_, 1) := by decide +kernel
theorem dX4_add_0 : decode cX4_add 0 = .ok (.aload_n 0, 1) := by decide +kernel
theorem dX4_add_1 : decode cX4_add 1 = .ok (.aload_n 0, 1) := by decide +kernel
theorem dX4_add_2 : decode cX4_add 2 = .ok (.getfield 111, 3) := by decide +kernel
theorem dX4_add_5 : decode cX4_add 5 = .ok (.aload_n 0, 1) := by decide +kernel
theorem dX4_add_6 : decode cX4_add 6 = .ok (.getfield 100, 3) := by decide +kernel
theorem dX4_add_9 : decode cX4_add 9 = .ok (.lmul, 1) := by decide +kernel
theorem dX4_add_10 : decode cX4_add 10 = .ok (.aload_n 0, 1) := by decide +kernel
theorem dX4_add_11 : decode cX4_add 11 = .ok (.getfield 96, 3) := by decide +kernel
theorem dX4_add_14 : decode cX4_add 14 = .ok (.aload_n 0, 1) := by decide +kernel
theorem dX4_add_15 : decode cX4_add 15 = .ok (.getfield 114, 3) := by decide +kernel
theorem dX4_add_18 : decode cX4_add 18 = .ok (.lmul, 1) := by decide +kernel
theorem dX4_add_19 : decode cX4_add 19 = .ok (.ladd, 1) := by decide +kernel
theorem dX4_add_20 : decode cX4_add 20 = .ok (.putfield 111, 3) := by decide +kernel
theorem dX4_add_23 : decode cX4_add 23 = .ok (.aload_n 0, 1) := by decide +kernel
theorem dX4_add_24 : decode cX4_add 24 = .ok (.dup, 1) := by decide +kernel
theorem dX4_add_25 : decode cX4_add 25 = .ok (.getfield 114, 3) := by decide +kernel
theorem dX4_add_28 : decode cX4_add 28 = .ok (.aload_n 0, 1) := by decide +kernel
theorem dX4_add_29 : decode cX4_add 29 = .ok (.getfield 100, 3) := by decide +kernel
theorem dX4_add_32 : decode cX4_add 32 = .ok (.lmul, 1) := by decide +kernel
theorem dX4_add_33 : decode cX4_add 33 = .ok (.putfield 114, 3) := by decide +kernel
theorem dX4_add_36 : decode cX4_add 36 = .ok (.aload_n 0, 1) := by decide +kernel
theorem dX4_add_37 : decode cX4_add 37 = .ok (.getfield 111, 3) := by decide +kernel
theorem dX4_add_40 : decode cX4_add 40 = .ok (.aload_n 0, 1) := by decide +kernel
theorem dX4_add_41 : decode cX4_add 41 = .ok (.getfield 114, 3) := by decide +kernel
theorem dX4_add_44 : decode cX4_add 44 = .ok (.invokestatic 103, 3) := by decide +kernel
theorem dX4_add_47 : decode cX4_add 47 = .ok (.lstore_n 1, 1) := by decide +kernel
theorem dX4_add_48 : decode cX4_add 48 = .ok (.aload_n 0, 1) := by decide +kernel
theorem dX4_add_49 : decode cX4_add 49 = .ok (.dup, 1) := by decide +kernel
theorem dX4_add_50 : decode cX4_add 50 = .ok (.getfield 111, 3) := by decide +kernel
theorem dX4_add_53 : decode cX4_add 53 = .ok (.lload_n 1, 1) := by decide +kernel
theorem dX4_add_54 : decode cX4_add 54 = .ok (.ldiv, 1) := by decide +kernel
theorem dX4_add_55 : decode cX4_add 55 = .ok (.putfield 111, 3) := by decide +kernel
theorem dX4_add_58 : decode cX4_add 58 = .ok (.aload_n 0, 1) := by decide +kernel
theorem dX4_add_59 : decode cX4_add 59 = .ok (.dup, 1) := by decide +kernel
theorem dX4_add_60 : decode cX4_add 60 = .ok (.getfield 114, 3) := by decide +kernel
theorem dX4_add_63 : decode cX4_add 63 = .ok (.lload_n 1, 1) := by decide +kernel
theorem dX4_add_64 : decode cX4_add 64 = .ok (.ldiv, 1) := by decide +kernel
theorem dX4_add_65 : decode cX4_add 65 = .ok (.putfield 114, 3) := by decide +kernel
theorem dX4_add_68 : decode cX4_add 68 = .ok (.return_, 1) := by decide +kernel
theorem dX4_findRest_0 : decode cX4_findRest 0 = .ok (.aload_n 0, 1) := by decide +kernel
theorem dX4_findRest_1 : decode cX4_findRest 1 = .ok (.lconst 0, 1) := by decide +kernel
theorem dX4_findRest_2 : decode cX4_findRest 2 = .ok (.putfield 111, 3) := by decide +kernel
theorem dX4_findRest_5 : decode cX4_findRest 5 = .ok (.aload_n 0, 1) := by decide +kernel
theorem dX4_findRest_6 : decode cX4_findRest 6 = .ok (.lconst 1, 1) := by decide +kernel
theorem dX4_findRest_7 : decode cX4_findRest 7 = .ok (.putfield 114, 3) := by decide +kernel
theorem dX4_findRest_10 : decode cX4_findRest 10 = .ok (.aload_n 0, 1) := by decide +kernel
theorem dX4_findRest_11 : decode cX4_findRest 11 = .ok (.lconst 1, 1) := by decide +kernel
theorem dX4_findRest_12 : decode cX4_findRest 12 = .ok (.putfield 96, 3) := by decide +kernel
theorem dX4_findRest_15 : decode cX4_findRest 15 = .ok (.aload_n 0, 1) := by decide +kernel
theorem dX4_findRest_16 : decode cX4_findRest 16 = .ok (.lconst 1, 1) := by decide +kernel
theorem dX4_findRest_17 : decode cX4_findRest 17 = .ok (.putfield 100, 3) := by decide +kernel
theorem dX4_findRest_20 : decode cX4_findRest 20 = .ok (.iload_n 1, 1) := by decide +kernel
theorem dX4_findRest_21 : decode cX4_findRest 21 = .ok (.istore_n 3, 1) := by decide +kernel
theorem dX4_findRest_22 : decode cX4_findRest 22 = .ok (.iload_n 3, 1) := by decide +kernel
theorem dX4_findRest_23 : decode cX4_findRest 23 = .ok (.iload_n 2, 1) := by decide +kernel
theorem dX4_findRest_24 : decode cX4_findRest 24 = .ok (.if_icmp .ge 23, 3) := by decide +kernel
theorem dX4_findRest_27 : decode cX4_findRest 27 = .ok (.iload_n 3, 1) := by decide +kernel
theorem dX4_findRest_28 : decode cX4_findRest 28 = .ok (.iload_n 1, 1) := by decide +kernel
theorem dX4_findRest_29 : decode cX4_findRest 29 = .ok (.if_icmp .le 8, 3) := by decide +kernel
theorem dX4_findRest_32 : decode cX4_findRest 32 = .ok (.aload_n 0, 1) := by decide +kernel
theorem dX4_findRest_33 : decode cX4_findRest 33 = .ok (.iload_n 3, 1) := by decide +kernel
theorem dX4_findRest_34 : decode cX4_findRest 34 = .ok (.invokevirtual 107, 3) := by decide +kernel
theorem dX4_findRest_37 : decode cX4_findRest 37 = .ok (.aload_n 0, 1) := by decide +kernel
theorem dX4_findRest_38 : decode cX4_findRest 38 = .ok (.invokevirtual 117, 3) := by decide +kernel
theorem dX4_findRest_41 : decode cX4_findRest 41 = .ok (.iinc 3 1, 3) := by decide +kernel
theorem dX4_findRest_44 : decode cX4_findRest 44 = .ok (.goto (-22), 3) := by decide +kernel
theorem dX4_findRest_47 : decode cX4_findRest 47 = .ok (.return_, 1) := by decide +kernel
theorem dX4_left_0 : decode cX4_left 0 = .ok (.iload_n 1, 1) := by decide +kernel
theorem dX4_left_1 : decode cX4_left 1 = .ok (.invokestatic 79, 3) := by decide +kernel
theorem dX4_left_4 : decode cX4_left 4 = .ok (.ifCond .eq 33, 3) := by decide +kernel
theorem dX4_left_7 : decode cX4_left 7 = .ok (.iload_n 2, 1) := by decide +kernel
theorem dX4_left_8 : decode cX4_left 8 = .ok (.invokestatic 62, 3) := by decide +kernel
theorem dX4_left_11 : decode cX4_left 11 = .ok (.ifCond .eq 26, 3) := by decide +kernel
theorem dX4_left_14 : decode cX4_left 14 = .ok (.iload_n 3, 1) := by decide +kernel
theorem dX4_left_15 : decode cX4_left 15 = .ok (.i2l, 1) := by decide +kernel
theorem dX4_left_16 : decode cX4_left 16 = .ok (.lconst 0, 1) := by decide +kernel
theorem dX4_left_17 : decode cX4_left 17 = .ok (.ldc2_w 60, 3) := by decide +kernel
theorem dX4_left_20 : decode cX4_left 20 = .ok (.invokestatic 46, 3) := by decide +kernel
theorem dX4_left_23 : decode cX4_left 23 = .ok (.ifCond .eq 14, 3) := by decide +kernel
theorem dX4_left_26 : decode cX4_left 26 = .ok (.iload 4, 2) := by decide +kernel
theorem dX4_left_28 : decode cX4_left 28 = .ok (.i2l, 1) := by decide +kernel
theorem dX4_left_29 : decode cX4_left 29 = .ok (.lconst 0, 1) := by decide +kernel
theorem dX4_left_30 : decode cX4_left 30 = .ok (.lconst 1, 1) := by decide +kernel
theorem dX4_left_31 : decode cX4_left 31 = .ok (.invokestatic 46, 3) := by decide +kernel
theorem dX4_left_34 : decode cX4_left 34 = .ok (.ifCond .ne 7, 3) := by decide +kernel
theorem dX4_left_37 : decode cX4_left 37 = .ok (.ldc2_w 120, 3) := by decide +kernel
theorem dX4_left_40 : decode cX4_left 40 = .ok (.lreturn, 1) := by decide +kernel
theorem dX4_left_41 : decode cX4_left 41 = .ok (.aload_n 0, 1) := by decide +kernel
theorem dX4_left_42 : decode cX4_left 42 = .ok (.iload_n 1, 1) := by decide +kernel
theorem dX4_left_43 : decode cX4_left 43 = .ok (.iload_n 2, 1) := by decide +kernel
theorem dX4_left_44 : decode cX4_left 44 = .ok (.invokevirtual 122, 3) := by decide +kernel
theorem dX4_left_47 : decode cX4_left 47 = .ok (.aload_n 0, 1) := by decide +kernel
theorem dX4_left_48 : decode cX4_left 48 = .ok (.iload_n 3, 1) := by decide +kernel
theorem dX4_left_49 : decode cX4_left 49 = .ok (.invokevirtual 126, 3) := by decide +kernel
theorem dX4_left_52 : decode cX4_left 52 = .ok (.iload 4, 2) := by decide +kernel
theorem dX4_left_54 : decode cX4_left 54 = .ok (.ifCond .ne 10, 3) := by decide +kernel
theorem dX4_left_57 : decode cX4_left 57 = .ok (.aload_n 0, 1) := by decide +kernel
theorem dX4_left_58 : decode cX4_left 58 = .ok (.getfield 96, 3) := by decide +kernel
theorem dX4_left_61 : decode cX4_left 61 = .ok (.goto 7, 3) := by decide +kernel
theorem dX4_left_64 : decode cX4_left 64 = .ok (.aload_n 0, 1) := by decide +kernel
theorem dX4_left_65 : decode cX4_left 65 = .ok (.getfield 100, 3) := by decide +kernel
theorem dX4_left_68 : decode cX4_left 68 = .ok (.lreturn, 1) := by decide +kernel
theorem dX4_timeOf_0 : decode cX4_timeOf 0 = .ok (.aload_n 0, 1) := by decide +kernel
theorem dX4_timeOf_1 : decode cX4_timeOf 1 = .ok (.iload_n 1, 1) := by decide +kernel
theorem dX4_timeOf_2 : decode cX4_timeOf 2 = .ok (.iload_n 2, 1) := by decide +kernel
theorem dX4_timeOf_3 : decode cX4_timeOf 3 = .ok (.invokevirtual 122, 3) := by decide +kernel
theorem dX4_timeOf_6 : decode cX4_timeOf 6 = .ok (.aload_n 0, 1) := by decide +kernel
theorem dX4_timeOf_7 : decode cX4_timeOf 7 = .ok (.lconst 1, 1) := by decide +kernel
theorem dX4_timeOf_8 : decode cX4_timeOf 8 = .ok (.putfield 96, 3) := by decide +kernel
theorem dX4_timeOf_11 : decode cX4_timeOf 11 = .ok (.aload_n 0, 1) := by decide +kernel
theorem dX4_timeOf_12 : decode cX4_timeOf 12 = .ok (.lconst 1, 1) := by decide +kernel
theorem dX4_timeOf_13 : decode cX4_timeOf 13 = .ok (.putfield 100, 3) := by decide +kernel
theorem dX4_timeOf_16 : decode cX4_timeOf 16 = .ok (.iconst 0, 1) := by decide +kernel
theorem dX4_timeOf_17 : decode cX4_timeOf 17 = .ok (.istore 5, 2) := by decide +kernel
theorem dX4_timeOf_19 : decode cX4_timeOf 19 = .ok (.iload 5, 2) := by decide +kernel
theorem dX4_timeOf_21 : decode cX4_timeOf 21 = .ok (.sipush 500, 3) := by decide +kernel
theorem dX4_timeOf_24 : decode cX4_timeOf 24 = .ok (.if_icmp .gt 37, 3) := by decide +kernel
theorem dX4_timeOf_27 : decode cX4_timeOf 27 = .ok (.aload_n 0, 1) := by decide +kernel
theorem dX4_timeOf_28 : decode cX4_timeOf 28 = .ok (.iload 5, 2) := by decide +kernel
theorem dX4_timeOf_30 : decode cX4_timeOf 30 = .ok (.invokevirtual 107, 3) := by decide +kernel
theorem dX4_timeOf_33 : decode cX4_timeOf 33 = .ok (.aload_n 0, 1) := by decide +kernel
theorem dX4_timeOf_34 : decode cX4_timeOf 34 = .ok (.getfield 96, 3) := by decide +kernel
theorem dX4_timeOf_37 : decode cX4_timeOf 37 = .ok (.iload 4, 2) := by decide +kernel
theorem dX4_timeOf_39 : decode cX4_timeOf 39 = .ok (.i2l, 1) := by decide +kernel
theorem dX4_timeOf_40 : decode cX4_timeOf 40 = .ok (.lmul, 1) := by decide +kernel
theorem dX4_timeOf_41 : decode cX4_timeOf 41 = .ok (.iload_n 3, 1) := by decide +kernel
theorem dX4_timeOf_42 : decode cX4_timeOf 42 = .ok (.i2l, 1) := by decide +kernel
theorem dX4_timeOf_43 : decode cX4_timeOf 43 = .ok (.aload_n 0, 1) := by decide +kernel
theorem dX4_timeOf_44 : decode cX4_timeOf 44 = .ok (.getfield 100, 3) := by decide +kernel
theorem dX4_timeOf_47 : decode cX4_timeOf 47 = .ok (.lmul, 1) := by decide +kernel
theorem dX4_timeOf_48 : decode cX4_timeOf 48 = .ok (.lcmp, 1) := by decide +kernel
theorem dX4_timeOf_49 : decode cX4_timeOf 49 = .ok (.ifCond .gt 6, 3) := by decide +kernel
theorem dX4_timeOf_52 : decode cX4_timeOf 52 = .ok (.iload 5, 2) := by decide +kernel
theorem dX4_timeOf_54 : decode cX4_timeOf 54 = .ok (.ireturn, 1) := by decide +kernel
theorem dX4_timeOf_55 : decode cX4_timeOf 55 = .ok (.iinc 5 1, 3) := by decide +kernel
theorem dX4_timeOf_58 : decode cX4_timeOf 58 = .ok (.goto (-39), 3) := by decide +kernel
theorem dX4_timeOf_61 : decode cX4_timeOf 61 = .ok (.iconst (-1), 1) := by decide +kernel
theorem dX4_timeOf_62 : decode cX4_timeOf 62 = .ok (.ireturn, 1) := by decide +kernel
theorem dX4_time_0 : decode cX4_time 0 = .ok (.iload_n 1, 1) := by decide +kernel
theorem dX4_time_1 : decode cX4_time 1 = .ok (.invokestatic 79, 3) := by decide +kernel
theorem dX4_time_4 : decode cX4_time 4 = .ok (.ifCond .eq 35, 3) := by decide +kernel
theorem dX4_time_7 : decode cX4_time 7 = .ok (.iload_n 2, 1) := by decide +kernel
theorem dX4_time_8 : decode cX4_time 8 = .ok (.invokestatic 62, 3) := by decide +kernel
theorem dX4_time_11 : decode cX4_time 11 = .ok (.ifCond .eq 28, 3) := by decide +kernel
theorem dX4_time_14 : decode cX4_time 14 = .ok (.iload 4, 2) := by decide +kernel
theorem dX4_time_16 : decode cX4_time 16 = .ok (.i2l, 1) := by decide +kernel
theorem dX4_time_17 : decode cX4_time 17 = .ok (.lconst 1, 1) := by decide +kernel
theorem dX4_time_18 : decode cX4_time 18 = .ok (.ldc2_w 129, 3) := by decide +kernel
theorem dX4_time_21 : decode cX4_time 21 = .ok (.invokestatic 46, 3) := by decide +kernel
theorem dX4_time_24 : decode cX4_time 24 = .ok (.ifCond .eq 15, 3) := by decide +kernel
theorem dX4_time_27 : decode cX4_time 27 = .ok (.iload_n 3, 1) := by decide +kernel
theorem dX4_time_28 : decode cX4_time 28 = .ok (.i2l, 1) := by decide +kernel
theorem dX4_time_29 : decode cX4_time 29 = .ok (.lconst 0, 1) := by decide +kernel
theorem dX4_time_30 : decode cX4_time 30 = .ok (.iload 4, 2) := by decide +kernel
theorem dX4_time_32 : decode cX4_time 32 = .ok (.i2l, 1) := by decide +kernel
theorem dX4_time_33 : decode cX4_time 33 = .ok (.invokestatic 46, 3) := by decide +kernel
theorem dX4_time_36 : decode cX4_time 36 = .ok (.ifCond .ne 7, 3) := by decide +kernel
theorem dX4_time_39 : decode cX4_time 39 = .ok (.sipush (-1002), 3) := by decide +kernel
theorem dX4_time_42 : decode cX4_time 42 = .ok (.ireturn, 1) := by decide +kernel
theorem dX4_time_43 : decode cX4_time 43 = .ok (.aload_n 0, 1) := by decide +kernel
theorem dX4_time_44 : decode cX4_time 44 = .ok (.iload_n 1, 1) := by decide +kernel
theorem dX4_time_45 : decode cX4_time 45 = .ok (.iload_n 2, 1) := by decide +kernel
theorem dX4_time_46 : decode cX4_time 46 = .ok (.iload_n 3, 1) := by decide +kernel
theorem dX4_time_47 : decode cX4_time 47 = .ok (.iload 4, 2) := by decide +kernel
theorem dX4_time_49 : decode cX4_time 49 = .ok (.invokevirtual 131, 3) := by decide +kernel
theorem dX4_time_52 : decode cX4_time 52 = .ok (.ireturn, 1) := by decide +kernel
theorem dX4_mean_0 : decode cX4_mean 0 = .ok (.iload_n 1, 1) := by decide +kernel
theorem dX4_mean_1 : decode cX4_mean 1 = .ok (.invokestatic 79, 3) := by decide +kernel
theorem dX4_mean_4 : decode cX4_mean 4 = .ok (.ifCond .eq 33, 3) := by decide +kernel
theorem dX4_mean_7 : decode cX4_mean 7 = .ok (.iload_n 2, 1) := by decide +kernel
theorem dX4_mean_8 : decode cX4_mean 8 = .ok (.invokestatic 62, 3) := by decide +kernel
theorem dX4_mean_11 : decode cX4_mean 11 = .ok (.ifCond .eq 26, 3) := by decide +kernel
theorem dX4_mean_14 : decode cX4_mean 14 = .ok (.iload_n 3, 1) := by decide +kernel
theorem dX4_mean_15 : decode cX4_mean 15 = .ok (.i2l, 1) := by decide +kernel
theorem dX4_mean_16 : decode cX4_mean 16 = .ok (.lconst 1, 1) := by decide +kernel
theorem dX4_mean_17 : decode cX4_mean 17 = .ok (.ldc2_w 60, 3) := by decide +kernel
theorem dX4_mean_20 : decode cX4_mean 20 = .ok (.invokestatic 46, 3) := by decide +kernel
theorem dX4_mean_23 : decode cX4_mean 23 = .ok (.ifCond .eq 14, 3) := by decide +kernel
theorem dX4_mean_26 : decode cX4_mean 26 = .ok (.iload 4, 2) := by decide +kernel
theorem dX4_mean_28 : decode cX4_mean 28 = .ok (.i2l, 1) := by decide +kernel
theorem dX4_mean_29 : decode cX4_mean 29 = .ok (.lconst 0, 1) := by decide +kernel
theorem dX4_mean_30 : decode cX4_mean 30 = .ok (.lconst 1, 1) := by decide +kernel
theorem dX4_mean_31 : decode cX4_mean 31 = .ok (.invokestatic 46, 3) := by decide +kernel
theorem dX4_mean_34 : decode cX4_mean 34 = .ok (.ifCond .ne 7, 3) := by decide +kernel
theorem dX4_mean_37 : decode cX4_mean 37 = .ok (.ldc2_w 120, 3) := by decide +kernel
theorem dX4_mean_40 : decode cX4_mean 40 = .ok (.lreturn, 1) := by decide +kernel
theorem dX4_mean_41 : decode cX4_mean 41 = .ok (.aload_n 0, 1) := by decide +kernel
theorem dX4_mean_42 : decode cX4_mean 42 = .ok (.iload_n 1, 1) := by decide +kernel
theorem dX4_mean_43 : decode cX4_mean 43 = .ok (.iload_n 2, 1) := by decide +kernel
theorem dX4_mean_44 : decode cX4_mean 44 = .ok (.invokevirtual 122, 3) := by decide +kernel
theorem dX4_mean_47 : decode cX4_mean 47 = .ok (.aload_n 0, 1) := by decide +kernel
theorem dX4_mean_48 : decode cX4_mean 48 = .ok (.iconst 0, 1) := by decide +kernel
theorem dX4_mean_49 : decode cX4_mean 49 = .ok (.iload_n 3, 1) := by decide +kernel
theorem dX4_mean_50 : decode cX4_mean 50 = .ok (.invokevirtual 135, 3) := by decide +kernel
theorem dX4_mean_53 : decode cX4_mean 53 = .ok (.iload 4, 2) := by decide +kernel
theorem dX4_mean_55 : decode cX4_mean 55 = .ok (.ifCond .ne 10, 3) := by decide +kernel
theorem dX4_mean_58 : decode cX4_mean 58 = .ok (.aload_n 0, 1) := by decide +kernel
theorem dX4_mean_59 : decode cX4_mean 59 = .ok (.getfield 111, 3) := by decide +kernel
theorem dX4_mean_62 : decode cX4_mean 62 = .ok (.goto 7, 3) := by decide +kernel
theorem dX4_mean_65 : decode cX4_mean 65 = .ok (.aload_n 0, 1) := by decide +kernel
theorem dX4_mean_66 : decode cX4_mean 66 = .ok (.getfield 114, 3) := by decide +kernel
theorem dX4_mean_69 : decode cX4_mean 69 = .ok (.lreturn, 1) := by decide +kernel
theorem dX4_isLeftAt_0 : decode cX4_isLeftAt 0 = .ok (.aload_n 0, 1) := by decide +kernel
theorem dX4_isLeftAt_1 : decode cX4_isLeftAt 1 = .ok (.iload_n 1, 1) := by decide +kernel
theorem dX4_isLeftAt_2 : decode cX4_isLeftAt 2 = .ok (.invokevirtual 126, 3) := by decide +kernel
theorem dX4_isLeftAt_5 : decode cX4_isLeftAt 5 = .ok (.aload_n 0, 1) := by decide +kernel
theorem dX4_isLeftAt_6 : decode cX4_isLeftAt 6 = .ok (.getfield 96, 3) := by decide +kernel
theorem dX4_isLeftAt_9 : decode cX4_isLeftAt 9 = .ok (.lconst 0, 1) := by decide +kernel
theorem dX4_isLeftAt_10 : decode cX4_isLeftAt 10 = .ok (.lcmp, 1) := by decide +kernel
theorem dX4_isLeftAt_11 : decode cX4_isLeftAt 11 = .ok (.ifCond .le 7, 3) := by decide +kernel
theorem dX4_isLeftAt_14 : decode cX4_isLeftAt 14 = .ok (.iconst 1, 1) := by decide +kernel
theorem dX4_isLeftAt_15 : decode cX4_isLeftAt 15 = .ok (.goto 4, 3) := by decide +kernel
theorem dX4_isLeftAt_18 : decode cX4_isLeftAt 18 = .ok (.iconst 0, 1) := by decide +kernel
theorem dX4_isLeftAt_19 : decode cX4_isLeftAt 19 = .ok (.ireturn, 1) := by decide +kernel
theorem dX4_rest_0 : decode cX4_rest 0 = .ok (.iload_n 1, 1) := by decide +kernel
theorem dX4_rest_1 : decode cX4_rest 1 = .ok (.invokestatic 79, 3) := by decide +kernel
theorem dX4_rest_4 : decode cX4_rest 4 = .ok (.ifCond .eq 48, 3) := by decide +kernel
theorem dX4_rest_7 : decode cX4_rest 7 = .ok (.iload_n 2, 1) := by decide +kernel
theorem dX4_rest_8 : decode cX4_rest 8 = .ok (.invokestatic 62, 3) := by decide +kernel
theorem dX4_rest_11 : decode cX4_rest 11 = .ok (.ifCond .eq 41, 3) := by decide +kernel
theorem dX4_rest_14 : decode cX4_rest 14 = .ok (.iload 4, 2) := by decide +kernel
theorem dX4_rest_16 : decode cX4_rest 16 = .ok (.i2l, 1) := by decide +kernel
theorem dX4_rest_17 : decode cX4_rest 17 = .ok (.lconst 1, 1) := by decide +kernel
theorem dX4_rest_18 : decode cX4_rest 18 = .ok (.ldc2_w 60, 3) := by decide +kernel
theorem dX4_rest_21 : decode cX4_rest 21 = .ok (.invokestatic 46, 3) := by decide +kernel
theorem dX4_rest_24 : decode cX4_rest 24 = .ok (.ifCond .eq 28, 3) := by decide +kernel
theorem dX4_rest_27 : decode cX4_rest 27 = .ok (.iload_n 3, 1) := by decide +kernel
theorem dX4_rest_28 : decode cX4_rest 28 = .ok (.i2l, 1) := by decide +kernel
theorem dX4_rest_29 : decode cX4_rest 29 = .ok (.lconst 0, 1) := by decide +kernel
theorem dX4_rest_30 : decode cX4_rest 30 = .ok (.iload 4, 2) := by decide +kernel
theorem dX4_rest_32 : decode cX4_rest 32 = .ok (.iconst 1, 1) := by decide +kernel
theorem dX4_rest_33 : decode cX4_rest 33 = .ok (.isub, 1) := by decide +kernel
theorem dX4_rest_34 : decode cX4_rest 34 = .ok (.i2l, 1) := by decide +kernel
theorem dX4_rest_35 : decode cX4_rest 35 = .ok (.invokestatic 46, 3) := by decide +kernel
theorem dX4_rest_38 : decode cX4_rest 38 = .ok (.ifCond .eq 14, 3) := by decide +kernel
theorem dX4_rest_41 : decode cX4_rest 41 = .ok (.iload 5, 2) := by decide +kernel
theorem dX4_rest_43 : decode cX4_rest 43 = .ok (.i2l, 1) := by decide +kernel
theorem dX4_rest_44 : decode cX4_rest 44 = .ok (.lconst 0, 1) := by decide +kernel
theorem dX4_rest_45 : decode cX4_rest 45 = .ok (.lconst 1, 1) := by decide +kernel
theorem dX4_rest_46 : decode cX4_rest 46 = .ok (.invokestatic 46, 3) := by decide +kernel
theorem dX4_rest_49 : decode cX4_rest 49 = .ok (.ifCond .ne 7, 3) := by decide +kernel
theorem dX4_rest_52 : decode cX4_rest 52 = .ok (.ldc2_w 120, 3) := by decide +kernel
theorem dX4_rest_55 : decode cX4_rest 55 = .ok (.lreturn, 1) := by decide +kernel
theorem dX4_rest_56 : decode cX4_rest 56 = .ok (.aload_n 0, 1) := by decide +kernel
theorem dX4_rest_57 : decode cX4_rest 57 = .ok (.iload_n 1, 1) := by decide +kernel
theorem dX4_rest_58 : decode cX4_rest 58 = .ok (.iload_n 2, 1) := by decide +kernel
theorem dX4_rest_59 : decode cX4_rest 59 = .ok (.invokevirtual 122, 3) := by decide +kernel
theorem dX4_rest_62 : decode cX4_rest 62 = .ok (.aload_n 0, 1) := by decide +kernel
theorem dX4_rest_63 : decode cX4_rest 63 = .ok (.iload_n 3, 1) := by decide +kernel
theorem dX4_rest_64 : decode cX4_rest 64 = .ok (.invokevirtual 138, 3) := by decide +kernel
theorem dX4_rest_67 : decode cX4_rest 67 = .ok (.ifCond .ne 7, 3) := by decide +kernel
theorem dX4_rest_70 : decode cX4_rest 70 = .ok (.ldc2_w 141, 3) := by decide +kernel
theorem dX4_rest_73 : decode cX4_rest 73 = .ok (.lreturn, 1) := by decide +kernel
theorem dX4_rest_74 : decode cX4_rest 74 = .ok (.aload_n 0, 1) := by decide +kernel
theorem dX4_rest_75 : decode cX4_rest 75 = .ok (.iload_n 3, 1) := by decide +kernel
theorem dX4_rest_76 : decode cX4_rest 76 = .ok (.iload 4, 2) := by decide +kernel
theorem dX4_rest_78 : decode cX4_rest 78 = .ok (.invokevirtual 135, 3) := by decide +kernel
theorem dX4_rest_81 : decode cX4_rest 81 = .ok (.iload 5, 2) := by decide +kernel
theorem dX4_rest_83 : decode cX4_rest 83 = .ok (.ifCond .ne 10, 3) := by decide +kernel
theorem dX4_rest_86 : decode cX4_rest 86 = .ok (.aload_n 0, 1) := by decide +kernel
theorem dX4_rest_87 : decode cX4_rest 87 = .ok (.getfield 111, 3) := by decide +kernel
theorem dX4_rest_90 : decode cX4_rest 90 = .ok (.goto 7, 3) := by decide +kernel
theorem dX4_rest_93 : decode cX4_rest 93 = .ok (.aload_n 0, 1) := by decide +kernel
theorem dX4_rest_94 : decode cX4_rest 94 = .ok (.getfield 114, 3) := by decide +kernel
theorem dX4_rest_97 : decode cX4_rest 97 = .ok (.lreturn, 1) := by decide +kernel
theorem dX4_isGreater_0 : decode cX4_isGreater 0 = .ok (.lload_n 0, 1) := by decide +kernel
theorem dX4_isGreater_1 : decode cX4_isGreater 1 = .ok (.lconst 0, 1) := by decide +kernel
theorem dX4_isGreater_2 : decode cX4_isGreater 2 = .ok (.lcmp, 1) := by decide +kernel
theorem dX4_isGreater_3 : decode cX4_isGreater 3 = .ok (.ifCond .lt 9, 3) := by decide +kernel
theorem dX4_isGreater_6 : decode cX4_isGreater 6 = .ok (.lload_n 0, 1) := by decide +kernel
theorem dX4_isGreater_7 : decode cX4_isGreater 7 = .ok (.lload_n 2, 1) := by decide +kernel
theorem dX4_isGreater_8 : decode cX4_isGreater 8 = .ok (.ldiv, 1) := by decide +kernel
theorem dX4_isGreater_9 : decode cX4_isGreater 9 = .ok (.goto 12, 3) := by decide +kernel
theorem dX4_isGreater_12 : decode cX4_isGreater 12 = .ok (.lload_n 0, 1) := by decide +kernel
theorem dX4_isGreater_13 : decode cX4_isGreater 13 = .ok (.lneg, 1) := by decide +kernel
theorem dX4_isGreater_14 : decode cX4_isGreater 14 = .ok (.lload_n 2, 1) := by decide +kernel
theorem dX4_isGreater_15 : decode cX4_isGreater 15 = .ok (.ladd, 1) := by decide +kernel
theorem dX4_isGreater_16 : decode cX4_isGreater 16 = .ok (.lconst 1, 1) := by decide +kernel
theorem dX4_isGreater_17 : decode cX4_isGreater 17 = .ok (.lsub, 1) := by decide +kernel
theorem dX4_isGreater_18 : decode cX4_isGreater 18 = .ok (.lload_n 2, 1) := by decide +kernel
theorem dX4_isGreater_19 : decode cX4_isGreater 19 = .ok (.ldiv, 1) := by decide +kernel
theorem dX4_isGreater_20 : decode cX4_isGreater 20 = .ok (.lneg, 1) := by decide +kernel
theorem dX4_isGreater_21 : decode cX4_isGreater 21 = .ok (.lstore 8, 2) := by decide +kernel
theorem dX4_isGreater_23 : decode cX4_isGreater 23 = .ok (.lload 4, 2) := by decide +kernel
theorem dX4_isGreater_25 : decode cX4_isGreater 25 = .ok (.lconst 0, 1) := by decide +kernel
theorem dX4_isGreater_26 : decode cX4_isGreater 26 = .ok (.lcmp, 1) := by decide +kernel
theorem dX4_isGreater_27 : decode cX4_isGreater 27 = .ok (.ifCond .lt 11, 3) := by decide +kernel
theorem dX4_isGreater_30 : decode cX4_isGreater 30 = .ok (.lload 4, 2) := by decide +kernel
theorem dX4_isGreater_32 : decode cX4_isGreater 32 = .ok (.lload 6, 2) := by decide +kernel
theorem dX4_isGreater_34 : decode cX4_isGreater 34 = .ok (.ldiv, 1) := by decide +kernel
theorem dX4_isGreater_35 : decode cX4_isGreater 35 = .ok (.goto 15, 3) := by decide +kernel
theorem dX4_isGreater_38 : decode cX4_isGreater 38 = .ok (.lload 4, 2) := by decide +kernel
theorem dX4_isGreater_40 : decode cX4_isGreater 40 = .ok (.lneg, 1) := by decide +kernel
theorem dX4_isGreater_41 : decode cX4_isGreater 41 = .ok (.lload 6, 2) := by decide +kernel
theorem dX4_isGreater_43 : decode cX4_isGreater 43 = .ok (.ladd, 1) := by decide +kernel
theorem dX4_isGreater_44 : decode cX4_isGreater 44 = .ok (.lconst 1, 1) := by decide +kernel
theorem dX4_isGreater_45 : decode cX4_isGreater 45 = .ok (.lsub, 1) := by decide +kernel
theorem dX4_isGreater_46 : decode cX4_isGreater 46 = .ok (.lload 6, 2) := by decide +kernel
theorem dX4_isGreater_48 : decode cX4_isGreater 48 = .ok (.ldiv, 1) := by decide +kernel
theorem dX4_isGreater_49 : decode cX4_isGreater 49 = .ok (.lneg, 1) := by decide +kernel
theorem dX4_isGreater_50 : decode cX4_isGreater 50 = .ok (.lstore 10, 2) := by decide +kernel
theorem dX4_isGreater_52 : decode cX4_isGreater 52 = .ok (.lload 8, 2) := by decide +kernel
theorem dX4_isGreater_54 : decode cX4_isGreater 54 = .ok (.lload 10, 2) := by decide +kernel
theorem dX4_isGreater_56 : decode cX4_isGreater 56 = .ok (.lcmp, 1) := by decide +kernel
theorem dX4_isGreater_57 : decode cX4_isGreater 57 = .ok (.ifCond .gt 34, 3) := by decide +kernel
theorem dX4_isGreater_60 : decode cX4_isGreater 60 = .ok (.lload 8, 2) := by decide +kernel
theorem dX4_isGreater_62 : decode cX4_isGreater 62 = .ok (.lload 10, 2) := by decide +kernel
theorem dX4_isGreater_64 : decode cX4_isGreater 64 = .ok (.lcmp, 1) := by decide +kernel
theorem dX4_isGreater_65 : decode cX4_isGreater 65 = .ok (.ifCond .ne 30, 3) := by decide +kernel
theorem dX4_isGreater_68 : decode cX4_isGreater 68 = .ok (.lload_n 0, 1) := by decide +kernel
theorem dX4_isGreater_69 : decode cX4_isGreater 69 = .ok (.lload 8, 2) := by decide +kernel
theorem dX4_isGreater_71 : decode cX4_isGreater 71 = .ok (.lload_n 2, 1) := by decide +kernel
theorem dX4_isGreater_72 : decode cX4_isGreater 72 = .ok (.lmul, 1) := by decide +kernel
theorem dX4_isGreater_73 : decode cX4_isGreater 73 = .ok (.lsub, 1) := by decide +kernel
theorem dX4_isGreater_74 : decode cX4_isGreater 74 = .ok (.lload 6, 2) := by decide +kernel
theorem dX4_isGreater_76 : decode cX4_isGreater 76 = .ok (.lmul, 1) := by decide +kernel
theorem dX4_isGreater_77 : decode cX4_isGreater 77 = .ok (.lload 4, 2) := by decide +kernel
theorem dX4_isGreater_79 : decode cX4_isGreater 79 = .ok (.lload 10, 2) := by decide +kernel
theorem dX4_isGreater_81 : decode cX4_isGreater 81 = .ok (.lload 6, 2) := by decide +kernel
theorem dX4_isGreater_83 : decode cX4_isGreater 83 = .ok (.lmul, 1) := by decide +kernel
theorem dX4_isGreater_84 : decode cX4_isGreater 84 = .ok (.lsub, 1) := by decide +kernel
theorem dX4_isGreater_85 : decode cX4_isGreater 85 = .ok (.lload_n 2, 1) := by decide +kernel
theorem dX4_isGreater_86 : decode cX4_isGreater 86 = .ok (.lmul, 1) := by decide +kernel
theorem dX4_isGreater_87 : decode cX4_isGreater 87 = .ok (.lcmp, 1) := by decide +kernel
theorem dX4_isGreater_88 : decode cX4_isGreater 88 = .ok (.ifCond .le 7, 3) := by decide +kernel
theorem dX4_isGreater_91 : decode cX4_isGreater 91 = .ok (.iconst 1, 1) := by decide +kernel
theorem dX4_isGreater_92 : decode cX4_isGreater 92 = .ok (.goto 4, 3) := by decide +kernel
theorem dX4_isGreater_95 : decode cX4_isGreater 95 = .ok (.iconst 0, 1) := by decide +kernel
theorem dX4_isGreater_96 : decode cX4_isGreater 96 = .ok (.ireturn, 1) := by decide +kernel
theorem dX4_runIn_0 : decode cX4_runIn 0 = .ok (.iload_n 1, 1) := by decide +kernel
theorem dX4_runIn_1 : decode cX4_runIn 1 = .ok (.invokestatic 79, 3) := by decide +kernel
theorem dX4_runIn_4 : decode cX4_runIn 4 = .ok (.ifCond .eq 35, 3) := by decide +kernel
theorem dX4_runIn_7 : decode cX4_runIn 7 = .ok (.iload_n 2, 1) := by decide +kernel
theorem dX4_runIn_8 : decode cX4_runIn 8 = .ok (.invokestatic 62, 3) := by decide +kernel
theorem dX4_runIn_11 : decode cX4_runIn 11 = .ok (.ifCond .eq 28, 3) := by decide +kernel
theorem dX4_runIn_14 : decode cX4_runIn 14 = .ok (.iload_n 3, 1) := by decide +kernel
theorem dX4_runIn_15 : decode cX4_runIn 15 = .ok (.i2l, 1) := by decide +kernel
theorem dX4_runIn_16 : decode cX4_runIn 16 = .ok (.lconst 1, 1) := by decide +kernel
theorem dX4_runIn_17 : decode cX4_runIn 17 = .ok (.ldc2_w 60, 3) := by decide +kernel
theorem dX4_runIn_20 : decode cX4_runIn 20 = .ok (.invokestatic 46, 3) := by decide +kernel
theorem dX4_runIn_23 : decode cX4_runIn 23 = .ok (.ifCond .eq 16, 3) := by decide +kernel
theorem dX4_runIn_26 : decode cX4_runIn 26 = .ok (.iload 4, 2) := by decide +kernel
theorem dX4_runIn_28 : decode cX4_runIn 28 = .ok (.i2l, 1) := by decide +kernel
theorem dX4_runIn_29 : decode cX4_runIn 29 = .ok (.lconst 0, 1) := by decide +kernel
theorem dX4_runIn_30 : decode cX4_runIn 30 = .ok (.ldc2_w 143, 3) := by decide +kernel
theorem dX4_runIn_33 : decode cX4_runIn 33 = .ok (.invokestatic 46, 3) := by decide +kernel
theorem dX4_runIn_36 : decode cX4_runIn 36 = .ok (.ifCond .ne 7, 3) := by decide +kernel
theorem dX4_runIn_39 : decode cX4_runIn 39 = .ok (.sipush (-1002), 3) := by decide +kernel
theorem dX4_runIn_42 : decode cX4_runIn 42 = .ok (.ireturn, 1) := by decide +kernel
theorem dX4_runIn_43 : decode cX4_runIn 43 = .ok (.aload_n 0, 1) := by decide +kernel
theorem dX4_runIn_44 : decode cX4_runIn 44 = .ok (.iload_n 1, 1) := by decide +kernel
theorem dX4_runIn_45 : decode cX4_runIn 45 = .ok (.iload_n 2, 1) := by decide +kernel
theorem dX4_runIn_46 : decode cX4_runIn 46 = .ok (.invokevirtual 122, 3) := by decide +kernel
theorem dX4_runIn_49 : decode cX4_runIn 49 = .ok (.iconst (-1), 1) := by decide +kernel
theorem dX4_runIn_50 : decode cX4_runIn 50 = .ok (.istore 5, 2) := by decide +kernel
theorem dX4_runIn_52 : decode cX4_runIn 52 = .ok (.lconst 0, 1) := by decide +kernel
theorem dX4_runIn_53 : decode cX4_runIn 53 = .ok (.lstore 6, 2) := by decide +kernel
theorem dX4_runIn_55 : decode cX4_runIn 55 = .ok (.lconst 1, 1) := by decide +kernel
theorem dX4_runIn_56 : decode cX4_runIn 56 = .ok (.lstore 8, 2) := by decide +kernel
theorem dX4_runIn_58 : decode cX4_runIn 58 = .ok (.iconst 0, 1) := by decide +kernel
theorem dX4_runIn_59 : decode cX4_runIn 59 = .ok (.istore 10, 2) := by decide +kernel
theorem dX4_runIn_61 : decode cX4_runIn 61 = .ok (.iload 10, 2) := by decide +kernel
theorem dX4_runIn_63 : decode cX4_runIn 63 = .ok (.iload_n 3, 1) := by decide +kernel
theorem dX4_runIn_64 : decode cX4_runIn 64 = .ok (.if_icmp .ge 89, 3) := by decide +kernel
theorem dX4_runIn_67 : decode cX4_runIn 67 = .ok (.aload_n 0, 1) := by decide +kernel
theorem dX4_runIn_68 : decode cX4_runIn 68 = .ok (.iload 10, 2) := by decide +kernel
theorem dX4_runIn_70 : decode cX4_runIn 70 = .ok (.invokevirtual 138, 3) := by decide +kernel
theorem dX4_runIn_73 : decode cX4_runIn 73 = .ok (.ifCond .eq 74, 3) := by decide +kernel
theorem dX4_runIn_76 : decode cX4_runIn 76 = .ok (.aload_n 0, 1) := by decide +kernel
theorem dX4_runIn_77 : decode cX4_runIn 77 = .ok (.iload 10, 2) := by decide +kernel
theorem dX4_runIn_79 : decode cX4_runIn 79 = .ok (.iload_n 3, 1) := by decide +kernel
theorem dX4_runIn_80 : decode cX4_runIn 80 = .ok (.invokevirtual 135, 3) := by decide +kernel
theorem dX4_runIn_83 : decode cX4_runIn 83 = .ok (.ldc2_w 143, 3) := by decide +kernel
theorem dX4_runIn_86 : decode cX4_runIn 86 = .ok (.aload_n 0, 1) := by decide +kernel
theorem dX4_runIn_87 : decode cX4_runIn 87 = .ok (.getfield 111, 3) := by decide +kernel
theorem dX4_runIn_90 : decode cX4_runIn 90 = .ok (.lmul, 1) := by decide +kernel
theorem dX4_runIn_91 : decode cX4_runIn 91 = .ok (.iload 10, 2) := by decide +kernel
theorem dX4_runIn_93 : decode cX4_runIn 93 = .ok (.i2l, 1) := by decide +kernel
theorem dX4_runIn_94 : decode cX4_runIn 94 = .ok (.iload 4, 2) := by decide +kernel
theorem dX4_runIn_96 : decode cX4_runIn 96 = .ok (.i2l, 1) := by decide +kernel
theorem dX4_runIn_97 : decode cX4_runIn 97 = .ok (.lmul, 1) := by decide +kernel
theorem dX4_runIn_98 : decode cX4_runIn 98 = .ok (.aload_n 0, 1) := by decide +kernel
theorem dX4_runIn_99 : decode cX4_runIn 99 = .ok (.getfield 114, 3) := by decide +kernel
theorem dX4_runIn_102 : decode cX4_runIn 102 = .ok (.lmul, 1) := by decide +kernel
theorem dX4_runIn_103 : decode cX4_runIn 103 = .ok (.lsub, 1) := by decide +kernel
theorem dX4_runIn_104 : decode cX4_runIn 104 = .ok (.lstore 11, 2) := by decide +kernel
theorem dX4_runIn_106 : decode cX4_runIn 106 = .ok (.ldc2_w 143, 3) := by decide +kernel
theorem dX4_runIn_109 : decode cX4_runIn 109 = .ok (.aload_n 0, 1) := by decide +kernel
theorem dX4_runIn_110 : decode cX4_runIn 110 = .ok (.getfield 114, 3) := by decide +kernel
theorem dX4_runIn_113 : decode cX4_runIn 113 = .ok (.lmul, 1) := by decide +kernel
theorem dX4_runIn_114 : decode cX4_runIn 114 = .ok (.lstore 13, 2) := by decide +kernel
theorem dX4_runIn_116 : decode cX4_runIn 116 = .ok (.iload 5, 2) := by decide +kernel
theorem dX4_runIn_118 : decode cX4_runIn 118 = .ok (.ifCond .lt 17, 3) := by decide +kernel
theorem dX4_runIn_121 : decode cX4_runIn 121 = .ok (.lload 11, 2) := by decide +kernel
theorem dX4_runIn_123 : decode cX4_runIn 123 = .ok (.lload 13, 2) := by decide +kernel
theorem dX4_runIn_125 : decode cX4_runIn 125 = .ok (.lload 6, 2) := by decide +kernel
theorem dX4_runIn_127 : decode cX4_runIn 127 = .ok (.lload 8, 2) := by decide +kernel
theorem dX4_runIn_129 : decode cX4_runIn 129 = .ok (.invokestatic 145, 3) := by decide +kernel
theorem dX4_runIn_132 : decode cX4_runIn 132 = .ok (.ifCond .eq 15, 3) := by decide +kernel
theorem dX4_runIn_135 : decode cX4_runIn 135 = .ok (.iload 10, 2) := by decide +kernel
theorem dX4_runIn_137 : decode cX4_runIn 137 = .ok (.istore 5, 2) := by decide +kernel
theorem dX4_runIn_139 : decode cX4_runIn 139 = .ok (.lload 11, 2) := by decide +kernel
theorem dX4_runIn_141 : decode cX4_runIn 141 = .ok (.lstore 6, 2) := by decide +kernel
theorem dX4_runIn_143 : decode cX4_runIn 143 = .ok (.lload 13, 2) := by decide +kernel
theorem dX4_runIn_145 : decode cX4_runIn 145 = .ok (.lstore 8, 2) := by decide +kernel
theorem dX4_runIn_147 : decode cX4_runIn 147 = .ok (.iinc 10 1, 3) := by decide +kernel
theorem dX4_runIn_150 : decode cX4_runIn 150 = .ok (.goto (-89), 3) := by decide +kernel
theorem dX4_runIn_153 : decode cX4_runIn 153 = .ok (.iload 5, 2) := by decide +kernel
theorem dX4_runIn_155 : decode cX4_runIn 155 = .ok (.ireturn, 1) := by decide +kernel
theorem dX4_speed_0 : decode cX4_speed 0 = .ok (.iload_n 1, 1) := by decide +kernel
theorem dX4_speed_1 : decode cX4_speed 1 = .ok (.invokestatic 56, 3) := by decide +kernel
theorem dX4_speed_4 : decode cX4_speed 4 = .ok (.ifCond .eq 15, 3) := by decide +kernel
theorem dX4_speed_7 : decode cX4_speed 7 = .ok (.iload_n 2, 1) := by decide +kernel
theorem dX4_speed_8 : decode cX4_speed 8 = .ok (.i2l, 1) := by decide +kernel
theorem dX4_speed_9 : decode cX4_speed 9 = .ok (.lconst 1, 1) := by decide +kernel
theorem dX4_speed_10 : decode cX4_speed 10 = .ok (.ldc2_w 129, 3) := by decide +kernel
theorem dX4_speed_13 : decode cX4_speed 13 = .ok (.invokestatic 46, 3) := by decide +kernel
theorem dX4_speed_16 : decode cX4_speed 16 = .ok (.ifCond .ne 7, 3) := by decide +kernel
theorem dX4_speed_19 : decode cX4_speed 19 = .ok (.sipush (-1002), 3) := by decide +kernel
theorem dX4_speed_22 : decode cX4_speed 22 = .ok (.ireturn, 1) := by decide +kernel
theorem dX4_speed_23 : decode cX4_speed 23 = .ok (.aload_n 0, 1) := by decide +kernel
theorem dX4_speed_24 : decode cX4_speed 24 = .ok (.getfield 19, 3) := by decide +kernel
theorem dX4_speed_27 : decode cX4_speed 27 = .ok (.iload_n 1, 1) := by decide +kernel
theorem dX4_speed_28 : decode cX4_speed 28 = .ok (.iaload, 1) := by decide +kernel
theorem dX4_speed_29 : decode cX4_speed 29 = .ok (.istore_n 3, 1) := by decide +kernel
theorem dX4_speed_30 : decode cX4_speed 30 = .ok (.aload_n 0, 1) := by decide +kernel
theorem dX4_speed_31 : decode cX4_speed 31 = .ok (.getfield 19, 3) := by decide +kernel
theorem dX4_speed_34 : decode cX4_speed 34 = .ok (.iload_n 1, 1) := by decide +kernel
theorem dX4_speed_35 : decode cX4_speed 35 = .ok (.iload_n 2, 1) := by decide +kernel
theorem dX4_speed_36 : decode cX4_speed 36 = .ok (.iastore, 1) := by decide +kernel
theorem dX4_speed_37 : decode cX4_speed 37 = .ok (.iload_n 3, 1) := by decide +kernel
theorem dX4_speed_38 : decode cX4_speed 38 = .ok (.ireturn, 1) := by decide +kernel
theorem dX4_saysOf_0 : decode cX4_saysOf 0 = .ok (.iload_n 0, 1) := by decide +kernel
theorem dX4_saysOf_1 : decode cX4_saysOf 1 = .ok (.istore_n 3, 1) := by decide +kernel
theorem dX4_saysOf_2 : decode cX4_saysOf 2 = .ok (.iconst 0, 1) := by decide +kernel
theorem dX4_saysOf_3 : decode cX4_saysOf 3 = .ok (.istore 4, 2) := by decide +kernel
theorem dX4_saysOf_5 : decode cX4_saysOf 5 = .ok (.iload 4, 2) := by decide +kernel
theorem dX4_saysOf_7 : decode cX4_saysOf 7 = .ok (.iload_n 2, 1) := by decide +kernel
theorem dX4_saysOf_8 : decode cX4_saysOf 8 = .ok (.if_icmp .ge 19, 3) := by decide +kernel
theorem dX4_saysOf_11 : decode cX4_saysOf 11 = .ok (.iload_n 3, 1) := by decide +kernel
theorem dX4_saysOf_12 : decode cX4_saysOf 12 = .ok (.bipush 10, 2) := by decide +kernel
theorem dX4_saysOf_14 : decode cX4_saysOf 14 = .ok (.imul, 1) := by decide +kernel
theorem dX4_saysOf_15 : decode cX4_saysOf 15 = .ok (.bipush 10, 2) := by decide +kernel
theorem dX4_saysOf_17 : decode cX4_saysOf 17 = .ok (.iload_n 1, 1) := by decide +kernel
theorem dX4_saysOf_18 : decode cX4_saysOf 18 = .ok (.iadd, 1) := by decide +kernel
theorem dX4_saysOf_19 : decode cX4_saysOf 19 = .ok (.idiv, 1) := by decide +kernel
theorem dX4_saysOf_20 : decode cX4_saysOf 20 = .ok (.istore_n 3, 1) := by decide +kernel
theorem dX4_saysOf_21 : decode cX4_saysOf 21 = .ok (.iinc 4 1, 3) := by decide +kernel
theorem dX4_saysOf_24 : decode cX4_saysOf 24 = .ok (.goto (-19), 3) := by decide +kernel
theorem dX4_saysOf_27 : decode cX4_saysOf 27 = .ok (.iload_n 3, 1) := by decide +kernel
theorem dX4_saysOf_28 : decode cX4_saysOf 28 = .ok (.ireturn, 1) := by decide +kernel
theorem dX4_isLaw_0 : decode cX4_isLaw 0 = .ok (.iload_n 0, 1) := by decide +kernel
theorem dX4_isLaw_1 : decode cX4_isLaw 1 = .ok (.i2l, 1) := by decide +kernel
theorem dX4_isLaw_2 : decode cX4_isLaw 2 = .ok (.lconst 1, 1) := by decide +kernel
theorem dX4_isLaw_3 : decode cX4_isLaw 3 = .ok (.ldc2_w 149, 3) := by decide +kernel
theorem dX4_isLaw_6 : decode cX4_isLaw 6 = .ok (.invokestatic 46, 3) := by decide +kernel
theorem dX4_isLaw_9 : decode cX4_isLaw 9 = .ok (.ifCond .eq 19, 3) := by decide +kernel
theorem dX4_isLaw_12 : decode cX4_isLaw 12 = .ok (.iload_n 1, 1) := by decide +kernel
theorem dX4_isLaw_13 : decode cX4_isLaw 13 = .ok (.i2l, 1) := by decide +kernel
theorem dX4_isLaw_14 : decode cX4_isLaw 14 = .ok (.lconst 1, 1) := by decide +kernel
theorem dX4_isLaw_15 : decode cX4_isLaw 15 = .ok (.ldc2_w 151, 3) := by decide +kernel
theorem dX4_isLaw_18 : decode cX4_isLaw 18 = .ok (.invokestatic 46, 3) := by decide +kernel
theorem dX4_isLaw_21 : decode cX4_isLaw 21 = .ok (.ifCond .eq 7, 3) := by decide +kernel
theorem dX4_isLaw_24 : decode cX4_isLaw 24 = .ok (.iconst 1, 1) := by decide +kernel
theorem dX4_isLaw_25 : decode cX4_isLaw 25 = .ok (.goto 4, 3) := by decide +kernel
theorem dX4_isLaw_28 : decode cX4_isLaw 28 = .ok (.iconst 0, 1) := by decide +kernel
theorem dX4_isLaw_29 : decode cX4_isLaw 29 = .ok (.ireturn, 1) := by decide +kernel
theorem dX4_says_0 : decode cX4_says 0 = .ok (.iload_n 1, 1) := by decide +kernel
theorem dX4_says_1 : decode cX4_says 1 = .ok (.iload_n 2, 1) := by decide +kernel
theorem dX4_says_2 : decode cX4_says 2 = .ok (.invokestatic 153, 3) := by decide +kernel
theorem dX4_says_5 : decode cX4_says 5 = .ok (.ifCond .eq 19, 3) := by decide +kernel
theorem dX4_says_8 : decode cX4_says 8 = .ok (.iload_n 3, 1) := by decide +kernel
theorem dX4_says_9 : decode cX4_says 9 = .ok (.invokestatic 56, 3) := by decide +kernel
theorem dX4_says_12 : decode cX4_says 12 = .ok (.ifCond .eq 12, 3) := by decide +kernel
theorem dX4_says_15 : decode cX4_says 15 = .ok (.iload_n 1, 1) := by decide +kernel
theorem dX4_says_16 : decode cX4_says 16 = .ok (.iload_n 2, 1) := by decide +kernel
theorem dX4_says_17 : decode cX4_says 17 = .ok (.iload_n 3, 1) := by decide +kernel
theorem dX4_says_18 : decode cX4_says 18 = .ok (.invokestatic 156, 3) := by decide +kernel
theorem dX4_says_21 : decode cX4_says 21 = .ok (.goto 6, 3) := by decide +kernel
theorem dX4_says_24 : decode cX4_says 24 = .ok (.sipush (-1002), 3) := by decide +kernel
theorem dX4_says_27 : decode cX4_says 27 = .ok (.ireturn, 1) := by decide +kernel
theorem dX4_findHalves_0 : decode cX4_findHalves 0 = .ok (.iconst 0, 1) := by decide +kernel
theorem dX4_findHalves_1 : decode cX4_findHalves 1 = .ok (.istore_n 1, 1) := by decide +kernel
theorem dX4_findHalves_2 : decode cX4_findHalves 2 = .ok (.iconst 0, 1) := by decide +kernel
theorem dX4_findHalves_3 : decode cX4_findHalves 3 = .ok (.istore_n 2, 1) := by decide +kernel
theorem dX4_findHalves_4 : decode cX4_findHalves 4 = .ok (.iload_n 2, 1) := by decide +kernel
theorem dX4_findHalves_5 : decode cX4_findHalves 5 = .ok (.iconst 4, 1) := by decide +kernel
theorem dX4_findHalves_6 : decode cX4_findHalves 6 = .ok (.if_icmp .ge 44, 3) := by decide +kernel
theorem dX4_findHalves_9 : decode cX4_findHalves 9 = .ok (.aload_n 0, 1) := by decide +kernel
theorem dX4_findHalves_10 : decode cX4_findHalves 10 = .ok (.getfield 41, 3) := by decide +kernel
theorem dX4_findHalves_13 : decode cX4_findHalves 13 = .ok (.iload_n 2, 1) := by decide +kernel
theorem dX4_findHalves_14 : decode cX4_findHalves 14 = .ok (.aload_n 0, 1) := by decide +kernel
theorem dX4_findHalves_15 : decode cX4_findHalves 15 = .ok (.iconst 1, 1) := by decide +kernel
theorem dX4_findHalves_16 : decode cX4_findHalves 16 = .ok (.iload_n 2, 1) := by decide +kernel
theorem dX4_findHalves_17 : decode cX4_findHalves 17 = .ok (.ishl, 1) := by decide +kernel
theorem dX4_findHalves_18 : decode cX4_findHalves 18 = .ok (.iconst (-1), 1) := by decide +kernel
theorem dX4_findHalves_19 : decode cX4_findHalves 19 = .ok (.iconst 1, 1) := by decide +kernel
theorem dX4_findHalves_20 : decode cX4_findHalves 20 = .ok (.iconst 2, 1) := by decide +kernel
theorem dX4_findHalves_21 : decode cX4_findHalves 21 = .ok (.invokevirtual 131, 3) := by decide +kernel
theorem dX4_findHalves_24 : decode cX4_findHalves 24 = .ok (.iastore, 1) := by decide +kernel
theorem dX4_findHalves_25 : decode cX4_findHalves 25 = .ok (.iload_n 1, 1) := by decide +kernel
theorem dX4_findHalves_26 : decode cX4_findHalves 26 = .ok (.ifCond .ne 12, 3) := by decide +kernel
theorem dX4_findHalves_29 : decode cX4_findHalves 29 = .ok (.aload_n 0, 1) := by decide +kernel
theorem dX4_findHalves_30 : decode cX4_findHalves 30 = .ok (.getfield 41, 3) := by decide +kernel
theorem dX4_findHalves_33 : decode cX4_findHalves 33 = .ok (.iload_n 2, 1) := by decide +kernel
theorem dX4_findHalves_34 : decode cX4_findHalves 34 = .ok (.iaload, 1) := by decide +kernel
theorem dX4_findHalves_35 : decode cX4_findHalves 35 = .ok (.ifCond .lt 7, 3) := by decide +kernel
theorem dX4_findHalves_38 : decode cX4_findHalves 38 = .ok (.iconst 1, 1) := by decide +kernel
theorem dX4_findHalves_39 : decode cX4_findHalves 39 = .ok (.goto 4, 3) := by decide +kernel
theorem dX4_findHalves_42 : decode cX4_findHalves 42 = .ok (.iconst 0, 1) := by decide +kernel
theorem dX4_findHalves_43 : decode cX4_findHalves 43 = .ok (.istore_n 1, 1) := by decide +kernel
theorem dX4_findHalves_44 : decode cX4_findHalves 44 = .ok (.iinc 2 1, 3) := by decide +kernel
theorem dX4_findHalves_47 : decode cX4_findHalves 47 = .ok (.goto (-43), 3) := by decide +kernel
theorem dX4_findHalves_50 : decode cX4_findHalves 50 = .ok (.iload_n 1, 1) := by decide +kernel
theorem dX4_findHalves_51 : decode cX4_findHalves 51 = .ok (.ireturn, 1) := by decide +kernel
theorem dX4_missOf_0 : decode cX4_missOf 0 = .ok (.iconst 0, 1) := by decide +kernel
theorem dX4_missOf_1 : decode cX4_missOf 1 = .ok (.istore_n 3, 1) := by decide +kernel
theorem dX4_missOf_2 : decode cX4_missOf 2 = .ok (.iconst 0, 1) := by decide +kernel
theorem dX4_missOf_3 : decode cX4_missOf 3 = .ok (.istore 4, 2) := by decide +kernel
theorem dX4_missOf_5 : decode cX4_missOf 5 = .ok (.iload 4, 2) := by decide +kernel
theorem dX4_missOf_7 : decode cX4_missOf 7 = .ok (.iconst 4, 1) := by decide +kernel
theorem dX4_missOf_8 : decode cX4_missOf 8 = .ok (.if_icmp .ge 56, 3) := by decide +kernel
theorem dX4_missOf_11 : decode cX4_missOf 11 = .ok (.aload_n 0, 1) := by decide +kernel
theorem dX4_missOf_12 : decode cX4_missOf 12 = .ok (.getfield 41, 3) := by decide +kernel
theorem dX4_missOf_15 : decode cX4_missOf 15 = .ok (.iload 4, 2) := by decide +kernel
theorem dX4_missOf_17 : decode cX4_missOf 17 = .ok (.iaload, 1) := by decide +kernel
theorem dX4_missOf_18 : decode cX4_missOf 18 = .ok (.iload_n 1, 1) := by decide +kernel
theorem dX4_missOf_19 : decode cX4_missOf 19 = .ok (.iload_n 2, 1) := by decide +kernel
theorem dX4_missOf_20 : decode cX4_missOf 20 = .ok (.iload 4, 2) := by decide +kernel
theorem dX4_missOf_22 : decode cX4_missOf 22 = .ok (.invokestatic 156, 3) := by decide +kernel
theorem dX4_missOf_25 : decode cX4_missOf 25 = .ok (.isub, 1) := by decide +kernel
theorem dX4_missOf_26 : decode cX4_missOf 26 = .ok (.istore 5, 2) := by decide +kernel
theorem dX4_missOf_28 : decode cX4_missOf 28 = .ok (.iload_n 3, 1) := by decide +kernel
theorem dX4_missOf_29 : decode cX4_missOf 29 = .ok (.aload_n 0, 1) := by decide +kernel
theorem dX4_missOf_30 : decode cX4_missOf 30 = .ok (.getfield 41, 3) := by decide +kernel
theorem dX4_missOf_33 : decode cX4_missOf 33 = .ok (.iload 4, 2) := by decide +kernel
theorem dX4_missOf_35 : decode cX4_missOf 35 = .ok (.iaload, 1) := by decide +kernel
theorem dX4_missOf_36 : decode cX4_missOf 36 = .ok (.ifCond .ge 7, 3) := by decide +kernel
theorem dX4_missOf_39 : decode cX4_missOf 39 = .ok (.iconst 0, 1) := by decide +kernel
theorem dX4_missOf_40 : decode cX4_missOf 40 = .ok (.goto 16, 3) := by decide +kernel
theorem dX4_missOf_43 : decode cX4_missOf 43 = .ok (.iload 5, 2) := by decide +kernel
theorem dX4_missOf_45 : decode cX4_missOf 45 = .ok (.ifCond .ge 9, 3) := by decide +kernel
theorem dX4_missOf_48 : decode cX4_missOf 48 = .ok (.iload 5, 2) := by decide +kernel
theorem dX4_missOf_50 : decode cX4_missOf 50 = .ok (.ineg, 1) := by decide +kernel
theorem dX4_missOf_51 : decode cX4_missOf 51 = .ok (.goto 5, 3) := by decide +kernel
theorem dX4_missOf_54 : decode cX4_missOf 54 = .ok (.iload 5, 2) := by decide +kernel
theorem dX4_missOf_56 : decode cX4_missOf 56 = .ok (.iadd, 1) := by decide +kernel
theorem dX4_missOf_57 : decode cX4_missOf 57 = .ok (.istore_n 3, 1) := by decide +kernel
theorem dX4_missOf_58 : decode cX4_missOf 58 = .ok (.iinc 4 1, 3) := by decide +kernel
theorem dX4_missOf_61 : decode cX4_missOf 61 = .ok (.goto (-56), 3) := by decide +kernel
theorem dX4_missOf_64 : decode cX4_missOf 64 = .ok (.iload_n 3, 1) := by decide +kernel
theorem dX4_missOf_65 : decode cX4_missOf 65 = .ok (.ireturn, 1) := by decide +kernel
theorem dX4_miss_0 : decode cX4_miss 0 = .ok (.iload_n 1, 1) := by decide +kernel
theorem dX4_miss_1 : decode cX4_miss 1 = .ok (.iload_n 2, 1) := by decide +kernel
theorem dX4_miss_2 : decode cX4_miss 2 = .ok (.invokestatic 153, 3) := by decide +kernel
theorem dX4_miss_5 : decode cX4_miss 5 = .ok (.ifCond .ne 7, 3) := by decide +kernel
theorem dX4_miss_8 : decode cX4_miss 8 = .ok (.sipush (-1002), 3) := by decide +kernel
theorem dX4_miss_11 : decode cX4_miss 11 = .ok (.ireturn, 1) := by decide +kernel
theorem dX4_miss_12 : decode cX4_miss 12 = .ok (.aload_n 0, 1) := by decide +kernel
theorem dX4_miss_13 : decode cX4_miss 13 = .ok (.invokevirtual 159, 3) := by decide +kernel
theorem dX4_miss_16 : decode cX4_miss 16 = .ok (.istore_n 3, 1) := by decide +kernel
theorem dX4_miss_17 : decode cX4_miss 17 = .ok (.aload_n 0, 1) := by decide +kernel
theorem dX4_miss_18 : decode cX4_miss 18 = .ok (.iload_n 1, 1) := by decide +kernel
theorem dX4_miss_19 : decode cX4_miss 19 = .ok (.iload_n 2, 1) := by decide +kernel
theorem dX4_miss_20 : decode cX4_miss 20 = .ok (.invokevirtual 163, 3) := by decide +kernel
theorem dX4_miss_23 : decode cX4_miss 23 = .ok (.ireturn, 1) := by decide +kernel
theorem dX4_law_0 : decode cX4_law 0 = .ok (.iload_n 1, 1) := by decide +kernel
theorem dX4_law_1 : decode cX4_law 1 = .ok (.i2l, 1) := by decide +kernel
theorem dX4_law_2 : decode cX4_law 2 = .ok (.lconst 1, 1) := by decide +kernel
theorem dX4_law_3 : decode cX4_law 3 = .ok (.ldc2_w 149, 3) := by decide +kernel
theorem dX4_law_6 : decode cX4_law 6 = .ok (.invokestatic 46, 3) := by decide +kernel
theorem dX4_law_9 : decode cX4_law 9 = .ok (.ifCond .eq 38, 3) := by decide +kernel
theorem dX4_law_12 : decode cX4_law 12 = .ok (.iload_n 2, 1) := by decide +kernel
theorem dX4_law_13 : decode cX4_law 13 = .ok (.i2l, 1) := by decide +kernel
theorem dX4_law_14 : decode cX4_law 14 = .ok (.lconst 0, 1) := by decide +kernel
theorem dX4_law_15 : decode cX4_law 15 = .ok (.ldc2_w 129, 3) := by decide +kernel
theorem dX4_law_18 : decode cX4_law 18 = .ok (.invokestatic 46, 3) := by decide +kernel
theorem dX4_law_21 : decode cX4_law 21 = .ok (.ifCond .eq 26, 3) := by decide +kernel
theorem dX4_law_24 : decode cX4_law 24 = .ok (.iload_n 1, 1) := by decide +kernel
theorem dX4_law_25 : decode cX4_law 25 = .ok (.bipush 9, 2) := by decide +kernel
theorem dX4_law_27 : decode cX4_law 27 = .ok (.iload_n 2, 1) := by decide +kernel
theorem dX4_law_28 : decode cX4_law 28 = .ok (.imul, 1) := by decide +kernel
theorem dX4_law_29 : decode cX4_law 29 = .ok (.iadd, 1) := by decide +kernel
theorem dX4_law_30 : decode cX4_law 30 = .ok (.ldc 166, 2) := by decide +kernel
theorem dX4_law_32 : decode cX4_law 32 = .ok (.if_icmp .gt 15, 3) := by decide +kernel
theorem dX4_law_35 : decode cX4_law 35 = .ok (.iload_n 3, 1) := by decide +kernel
theorem dX4_law_36 : decode cX4_law 36 = .ok (.i2l, 1) := by decide +kernel
theorem dX4_law_37 : decode cX4_law 37 = .ok (.lconst 0, 1) := by decide +kernel
theorem dX4_law_38 : decode cX4_law 38 = .ok (.ldc2_w 52, 3) := by decide +kernel
theorem dX4_law_41 : decode cX4_law 41 = .ok (.invokestatic 46, 3) := by decide +kernel
theorem dX4_law_44 : decode cX4_law 44 = .ok (.ifCond .ne 7, 3) := by decide +kernel
theorem dX4_law_47 : decode cX4_law 47 = .ok (.sipush (-1002), 3) := by decide +kernel
theorem dX4_law_50 : decode cX4_law 50 = .ok (.ireturn, 1) := by decide +kernel
theorem dX4_law_51 : decode cX4_law 51 = .ok (.aload_n 0, 1) := by decide +kernel
theorem dX4_law_52 : decode cX4_law 52 = .ok (.invokevirtual 159, 3) := by decide +kernel
theorem dX4_law_55 : decode cX4_law 55 = .ok (.ifCond .ne 7, 3) := by decide +kernel
theorem dX4_law_58 : decode cX4_law 58 = .ok (.sipush (-1003), 3) := by decide +kernel
theorem dX4_law_61 : decode cX4_law 61 = .ok (.ireturn, 1) := by decide +kernel
theorem dX4_law_62 : decode cX4_law 62 = .ok (.iconst 0, 1) := by decide +kernel
theorem dX4_law_63 : decode cX4_law 63 = .ok (.istore 4, 2) := by decide +kernel
theorem dX4_law_65 : decode cX4_law 65 = .ok (.iconst 0, 1) := by decide +kernel
theorem dX4_law_66 : decode cX4_law 66 = .ok (.istore 5, 2) := by decide +kernel
theorem dX4_law_68 : decode cX4_law 68 = .ok (.iconst (-1), 1) := by decide +kernel
theorem dX4_law_69 : decode cX4_law 69 = .ok (.istore 6, 2) := by decide +kernel
theorem dX4_law_71 : decode cX4_law 71 = .ok (.iconst 0, 1) := by decide +kernel
theorem dX4_law_72 : decode cX4_law 72 = .ok (.istore 7, 2) := by decide +kernel
theorem dX4_law_74 : decode cX4_law 74 = .ok (.iload 7, 2) := by decide +kernel
theorem dX4_law_76 : decode cX4_law 76 = .ok (.bipush 10, 2) := by decide +kernel
theorem dX4_law_78 : decode cX4_law 78 = .ok (.if_icmp .ge 67, 3) := by decide +kernel
theorem dX4_law_81 : decode cX4_law 81 = .ok (.iconst 1, 1) := by decide +kernel
theorem dX4_law_82 : decode cX4_law 82 = .ok (.istore 8, 2) := by decide +kernel
theorem dX4_law_84 : decode cX4_law 84 = .ok (.iload 8, 2) := by decide +kernel
theorem dX4_law_86 : decode cX4_law 86 = .ok (.bipush 21, 2) := by decide +kernel
theorem dX4_law_88 : decode cX4_law 88 = .ok (.if_icmp .ge 51, 3) := by decide +kernel
theorem dX4_law_91 : decode cX4_law 91 = .ok (.aload_n 0, 1) := by decide +kernel
theorem dX4_law_92 : decode cX4_law 92 = .ok (.iload_n 1, 1) := by decide +kernel
theorem dX4_law_93 : decode cX4_law 93 = .ok (.iload 7, 2) := by decide +kernel
theorem dX4_law_95 : decode cX4_law 95 = .ok (.iload_n 2, 1) := by decide +kernel
theorem dX4_law_96 : decode cX4_law 96 = .ok (.imul, 1) := by decide +kernel
theorem dX4_law_97 : decode cX4_law 97 = .ok (.iadd, 1) := by decide +kernel
theorem dX4_law_98 : decode cX4_law 98 = .ok (.iload 8, 2) := by decide +kernel
theorem dX4_law_100 : decode cX4_law 100 = .ok (.invokevirtual 163, 3) := by decide +kernel
theorem dX4_law_103 : decode cX4_law 103 = .ok (.istore 9, 2) := by decide +kernel
theorem dX4_law_105 : decode cX4_law 105 = .ok (.iload 6, 2) := by decide +kernel
theorem dX4_law_107 : decode cX4_law 107 = .ok (.ifCond .lt 10, 3) := by decide +kernel
theorem dX4_law_110 : decode cX4_law 110 = .ok (.iload 9, 2) := by decide +kernel
theorem dX4_law_112 : decode cX4_law 112 = .ok (.iload 6, 2) := by decide +kernel
theorem dX4_law_114 : decode cX4_law 114 = .ok (.if_icmp .ge 19, 3) := by decide +kernel
theorem dX4_law_117 : decode cX4_law 117 = .ok (.iload_n 1, 1) := by decide +kernel
theorem dX4_law_118 : decode cX4_law 118 = .ok (.iload 7, 2) := by decide +kernel
theorem dX4_law_120 : decode cX4_law 120 = .ok (.iload_n 2, 1) := by decide +kernel
theorem dX4_law_121 : decode cX4_law 121 = .ok (.imul, 1) := by decide +kernel
theorem dX4_law_122 : decode cX4_law 122 = .ok (.iadd, 1) := by decide +kernel
theorem dX4_law_123 : decode cX4_law 123 = .ok (.istore 4, 2) := by decide +kernel
theorem dX4_law_125 : decode cX4_law 125 = .ok (.iload 8, 2) := by decide +kernel
theorem dX4_law_127 : decode cX4_law 127 = .ok (.istore 5, 2) := by decide +kernel
theorem dX4_law_129 : decode cX4_law 129 = .ok (.iload 9, 2) := by decide +kernel
theorem dX4_law_131 : decode cX4_law 131 = .ok (.istore 6, 2) := by decide +kernel
theorem dX4_law_133 : decode cX4_law 133 = .ok (.iinc 8 1, 3) := by decide +kernel
theorem dX4_law_136 : decode cX4_law 136 = .ok (.goto (-52), 3) := by decide +kernel
theorem dX4_law_139 : decode cX4_law 139 = .ok (.iinc 7 1, 3) := by decide +kernel
theorem dX4_law_142 : decode cX4_law 142 = .ok (.goto (-68), 3) := by decide +kernel
theorem dX4_law_145 : decode cX4_law 145 = .ok (.iload_n 3, 1) := by decide +kernel
theorem dX4_law_146 : decode cX4_law 146 = .ok (.ifCond .ne 8, 3) := by decide +kernel
theorem dX4_law_149 : decode cX4_law 149 = .ok (.iload 4, 2) := by decide +kernel
theorem dX4_law_151 : decode cX4_law 151 = .ok (.goto 15, 3) := by decide +kernel
theorem dX4_law_154 : decode cX4_law 154 = .ok (.iload_n 3, 1) := by decide +kernel
theorem dX4_law_155 : decode cX4_law 155 = .ok (.iconst 1, 1) := by decide +kernel
theorem dX4_law_156 : decode cX4_law 156 = .ok (.if_icmp .ne 8, 3) := by decide +kernel
theorem dX4_law_159 : decode cX4_law 159 = .ok (.iload 5, 2) := by decide +kernel
theorem dX4_law_161 : decode cX4_law 161 = .ok (.goto 5, 3) := by decide +kernel
theorem dX4_law_164 : decode cX4_law 164 = .ok (.iload 6, 2) := by decide +kernel
theorem dX4_law_166 : decode cX4_law 166 = .ok (.ireturn, 1) := by decide +kernel
theorem dX4_step_0 : decode cX4_step 0 = .ok (.iload_n 1, 1) := by decide +kernel
theorem dX4_step_1 : decode cX4_step 1 = .ok (.invokestatic 56, 3) := by decide +kernel
theorem dX4_step_4 : decode cX4_step 4 = .ok (.ifCond .eq 15, 3) := by decide +kernel
theorem dX4_step_7 : decode cX4_step 7 = .ok (.iload_n 2, 1) := by decide +kernel
theorem dX4_step_8 : decode cX4_step 8 = .ok (.i2l, 1) := by decide +kernel
theorem dX4_step_9 : decode cX4_step 9 = .ok (.lconst 1, 1) := by decide +kernel
theorem dX4_step_10 : decode cX4_step 10 = .ok (.ldc2_w 60, 3) := by decide +kernel
theorem dX4_step_13 : decode cX4_step 13 = .ok (.invokestatic 46, 3) := by decide +kernel
theorem dX4_step_16 : decode cX4_step 16 = .ok (.ifCond .ne 7, 3) := by decide +kernel
theorem dX4_step_19 : decode cX4_step 19 = .ok (.sipush (-1002), 3) := by decide +kernel
theorem dX4_step_22 : decode cX4_step 22 = .ok (.ireturn, 1) := by decide +kernel
theorem dX4_step_23 : decode cX4_step 23 = .ok (.aload_n 0, 1) := by decide +kernel
theorem dX4_step_24 : decode cX4_step 24 = .ok (.getfield 167, 3) := by decide +kernel
theorem dX4_step_27 : decode cX4_step 27 = .ok (.bipush 10, 2) := by decide +kernel
theorem dX4_step_29 : decode cX4_step 29 = .ok (.if_icmp .ne 7, 3) := by decide +kernel
theorem dX4_step_32 : decode cX4_step 32 = .ok (.sipush (-1004), 3) := by decide +kernel
theorem dX4_step_35 : decode cX4_step 35 = .ok (.ireturn, 1) := by decide +kernel
theorem dX4_step_36 : decode cX4_step 36 = .ok (.aload_n 0, 1) := by decide +kernel
theorem dX4_step_37 : decode cX4_step 37 = .ok (.getfield 22, 3) := by decide +kernel
theorem dX4_step_40 : decode cX4_step 40 = .ok (.aload_n 0, 1) := by decide +kernel
theorem dX4_step_41 : decode cX4_step 41 = .ok (.getfield 167, 3) := by decide +kernel
theorem dX4_step_44 : decode cX4_step 44 = .ok (.iload_n 1, 1) := by decide +kernel
theorem dX4_step_45 : decode cX4_step 45 = .ok (.iastore, 1) := by decide +kernel
theorem dX4_step_46 : decode cX4_step 46 = .ok (.aload_n 0, 1) := by decide +kernel
theorem dX4_step_47 : decode cX4_step 47 = .ok (.getfield 25, 3) := by decide +kernel
theorem dX4_step_50 : decode cX4_step 50 = .ok (.aload_n 0, 1) := by decide +kernel
theorem dX4_step_51 : decode cX4_step 51 = .ok (.getfield 167, 3) := by decide +kernel
theorem dX4_step_54 : decode cX4_step 54 = .ok (.iload_n 2, 1) := by decide +kernel
theorem dX4_step_55 : decode cX4_step 55 = .ok (.iastore, 1) := by decide +kernel
theorem dX4_step_56 : decode cX4_step 56 = .ok (.aload_n 0, 1) := by decide +kernel
theorem dX4_step_57 : decode cX4_step 57 = .ok (.dup, 1) := by decide +kernel
theorem dX4_step_58 : decode cX4_step 58 = .ok (.getfield 167, 3) := by decide +kernel
theorem dX4_step_61 : decode cX4_step 61 = .ok (.iconst 1, 1) := by decide +kernel
theorem dX4_step_62 : decode cX4_step 62 = .ok (.iadd, 1) := by decide +kernel
theorem dX4_step_63 : decode cX4_step 63 = .ok (.putfield 167, 3) := by decide +kernel
theorem dX4_step_66 : decode cX4_step 66 = .ok (.aload_n 0, 1) := by decide +kernel
theorem dX4_step_67 : decode cX4_step 67 = .ok (.getfield 167, 3) := by decide +kernel
theorem dX4_step_70 : decode cX4_step 70 = .ok (.ireturn, 1) := by decide +kernel
theorem dX4_clear_0 : decode cX4_clear 0 = .ok (.aload_n 0, 1) := by decide +kernel
theorem dX4_clear_1 : decode cX4_clear 1 = .ok (.getfield 167, 3) := by decide +kernel
theorem dX4_clear_4 : decode cX4_clear 4 = .ok (.istore_n 1, 1) := by decide +kernel
theorem dX4_clear_5 : decode cX4_clear 5 = .ok (.aload_n 0, 1) := by decide +kernel
theorem dX4_clear_6 : decode cX4_clear 6 = .ok (.iconst 0, 1) := by decide +kernel
theorem dX4_clear_7 : decode cX4_clear 7 = .ok (.putfield 167, 3) := by decide +kernel
theorem dX4_clear_10 : decode cX4_clear 10 = .ok (.iload_n 1, 1) := by decide +kernel
theorem dX4_clear_11 : decode cX4_clear 11 = .ok (.ireturn, 1) := by decide +kernel
theorem dX4_used_0 : decode cX4_used 0 = .ok (.iload_n 1, 1) := by decide +kernel
theorem dX4_used_1 : decode cX4_used 1 = .ok (.i2l, 1) := by decide +kernel
theorem dX4_used_2 : decode cX4_used 2 = .ok (.lconst 1, 1) := by decide +kernel
theorem dX4_used_3 : decode cX4_used 3 = .ok (.ldc2_w 149, 3) := by decide +kernel
theorem dX4_used_6 : decode cX4_used 6 = .ok (.invokestatic 46, 3) := by decide +kernel
theorem dX4_used_9 : decode cX4_used 9 = .ok (.ifCond .ne 7, 3) := by decide +kernel
theorem dX4_used_12 : decode cX4_used 12 = .ok (.sipush (-1002), 3) := by decide +kernel
theorem dX4_used_15 : decode cX4_used 15 = .ok (.ireturn, 1) := by decide +kernel
theorem dX4_used_16 : decode cX4_used 16 = .ok (.iconst 0, 1) := by decide +kernel
theorem dX4_used_17 : decode cX4_used 17 = .ok (.istore_n 2, 1) := by decide +kernel
theorem dX4_used_18 : decode cX4_used 18 = .ok (.iconst 0, 1) := by decide +kernel
theorem dX4_used_19 : decode cX4_used 19 = .ok (.istore_n 3, 1) := by decide +kernel
theorem dX4_used_20 : decode cX4_used 20 = .ok (.iload_n 3, 1) := by decide +kernel
theorem dX4_used_21 : decode cX4_used 21 = .ok (.aload_n 0, 1) := by decide +kernel
theorem dX4_used_22 : decode cX4_used 22 = .ok (.getfield 167, 3) := by decide +kernel
theorem dX4_used_25 : decode cX4_used 25 = .ok (.if_icmp .ge 33, 3) := by decide +kernel
theorem dX4_used_28 : decode cX4_used 28 = .ok (.iload_n 2, 1) := by decide +kernel
theorem dX4_used_29 : decode cX4_used 29 = .ok (.aload_n 0, 1) := by decide +kernel
theorem dX4_used_30 : decode cX4_used 30 = .ok (.getfield 25, 3) := by decide +kernel
theorem dX4_used_33 : decode cX4_used 33 = .ok (.iload_n 3, 1) := by decide +kernel
theorem dX4_used_34 : decode cX4_used 34 = .ok (.iaload, 1) := by decide +kernel
theorem dX4_used_35 : decode cX4_used 35 = .ok (.aload_n 0, 1) := by decide +kernel
theorem dX4_used_36 : decode cX4_used 36 = .ok (.getfield 19, 3) := by decide +kernel
theorem dX4_used_39 : decode cX4_used 39 = .ok (.aload_n 0, 1) := by decide +kernel
theorem dX4_used_40 : decode cX4_used 40 = .ok (.getfield 22, 3) := by decide +kernel
theorem dX4_used_43 : decode cX4_used 43 = .ok (.iload_n 3, 1) := by decide +kernel
theorem dX4_used_44 : decode cX4_used 44 = .ok (.iaload, 1) := by decide +kernel
theorem dX4_used_45 : decode cX4_used 45 = .ok (.iaload, 1) := by decide +kernel
theorem dX4_used_46 : decode cX4_used 46 = .ok (.imul, 1) := by decide +kernel
theorem dX4_used_47 : decode cX4_used 47 = .ok (.bipush 10, 2) := by decide +kernel
theorem dX4_used_49 : decode cX4_used 49 = .ok (.imul, 1) := by decide +kernel
theorem dX4_used_50 : decode cX4_used 50 = .ok (.iadd, 1) := by decide +kernel
theorem dX4_used_51 : decode cX4_used 51 = .ok (.istore_n 2, 1) := by decide +kernel
theorem dX4_used_52 : decode cX4_used 52 = .ok (.iinc 3 1, 3) := by decide +kernel
theorem dX4_used_55 : decode cX4_used 55 = .ok (.goto (-35), 3) := by decide +kernel
theorem dX4_used_58 : decode cX4_used 58 = .ok (.iload_n 2, 1) := by decide +kernel
theorem dX4_used_59 : decode cX4_used 59 = .ok (.iload_n 1, 1) := by decide +kernel
theorem dX4_used_60 : decode cX4_used 60 = .ok (.idiv, 1) := by decide +kernel
theorem dX4_used_61 : decode cX4_used 61 = .ok (.ireturn, 1) := by decide +kernel
theorem dX4_fails_0 : decode cX4_fails 0 = .ok (.iload_n 1, 1) := by decide +kernel
theorem dX4_fails_1 : decode cX4_fails 1 = .ok (.i2l, 1) := by decide +kernel
theorem dX4_fails_2 : decode cX4_fails 2 = .ok (.lconst 1, 1) := by decide +kernel
theorem dX4_fails_3 : decode cX4_fails 3 = .ok (.ldc2_w 149, 3) := by decide +kernel
theorem dX4_fails_6 : decode cX4_fails 6 = .ok (.invokestatic 46, 3) := by decide +kernel
theorem dX4_fails_9 : decode cX4_fails 9 = .ok (.ifCond .ne 7, 3) := by decide +kernel
theorem dX4_fails_12 : decode cX4_fails 12 = .ok (.sipush (-1002), 3) := by decide +kernel
theorem dX4_fails_15 : decode cX4_fails 15 = .ok (.ireturn, 1) := by decide +kernel
theorem dX4_fails_16 : decode cX4_fails 16 = .ok (.iconst 0, 1) := by decide +kernel
theorem dX4_fails_17 : decode cX4_fails 17 = .ok (.istore_n 2, 1) := by decide +kernel
theorem dX4_fails_18 : decode cX4_fails 18 = .ok (.iconst 0, 1) := by decide +kernel
theorem dX4_fails_19 : decode cX4_fails 19 = .ok (.istore_n 3, 1) := by decide +kernel
theorem dX4_fails_20 : decode cX4_fails 20 = .ok (.iconst 0, 1) := by decide +kernel
theorem dX4_fails_21 : decode cX4_fails 21 = .ok (.istore 4, 2) := by decide +kernel
theorem dX4_fails_23 : decode cX4_fails 23 = .ok (.iload 4, 2) := by decide +kernel
theorem dX4_fails_25 : decode cX4_fails 25 = .ok (.aload_n 0, 1) := by decide +kernel
theorem dX4_fails_26 : decode cX4_fails 26 = .ok (.getfield 167, 3) := by decide +kernel
theorem dX4_fails_29 : decode cX4_fails 29 = .ok (.if_icmp .ge 58, 3) := by decide +kernel
theorem dX4_fails_32 : decode cX4_fails 32 = .ok (.iconst 0, 1) := by decide +kernel
theorem dX4_fails_33 : decode cX4_fails 33 = .ok (.istore 5, 2) := by decide +kernel
theorem dX4_fails_35 : decode cX4_fails 35 = .ok (.iload 5, 2) := by decide +kernel
theorem dX4_fails_37 : decode cX4_fails 37 = .ok (.aload_n 0, 1) := by decide +kernel
theorem dX4_fails_38 : decode cX4_fails 38 = .ok (.getfield 25, 3) := by decide +kernel
theorem dX4_fails_41 : decode cX4_fails 41 = .ok (.iload 4, 2) := by decide +kernel
theorem dX4_fails_43 : decode cX4_fails 43 = .ok (.iaload, 1) := by decide +kernel
theorem dX4_fails_44 : decode cX4_fails 44 = .ok (.if_icmp .ge 37, 3) := by decide +kernel
theorem dX4_fails_47 : decode cX4_fails 47 = .ok (.iinc 2 1, 3) := by decide +kernel
theorem dX4_fails_50 : decode cX4_fails 50 = .ok (.iload_n 3, 1) := by decide +kernel
theorem dX4_fails_51 : decode cX4_fails 51 = .ok (.aload_n 0, 1) := by decide +kernel
theorem dX4_fails_52 : decode cX4_fails 52 = .ok (.getfield 19, 3) := by decide +kernel
theorem dX4_fails_55 : decode cX4_fails 55 = .ok (.aload_n 0, 1) := by decide +kernel
theorem dX4_fails_56 : decode cX4_fails 56 = .ok (.getfield 22, 3) := by decide +kernel
theorem dX4_fails_59 : decode cX4_fails 59 = .ok (.iload 4, 2) := by decide +kernel
theorem dX4_fails_61 : decode cX4_fails 61 = .ok (.iaload, 1) := by decide +kernel
theorem dX4_fails_62 : decode cX4_fails 62 = .ok (.iaload, 1) := by decide +kernel
theorem dX4_fails_63 : decode cX4_fails 63 = .ok (.iadd, 1) := by decide +kernel
theorem dX4_fails_64 : decode cX4_fails 64 = .ok (.istore_n 3, 1) := by decide +kernel
theorem dX4_fails_65 : decode cX4_fails 65 = .ok (.iload_n 3, 1) := by decide +kernel
theorem dX4_fails_66 : decode cX4_fails 66 = .ok (.bipush 10, 2) := by decide +kernel
theorem dX4_fails_68 : decode cX4_fails 68 = .ok (.iload_n 1, 1) := by decide +kernel
theorem dX4_fails_69 : decode cX4_fails 69 = .ok (.imul, 1) := by decide +kernel
theorem dX4_fails_70 : decode cX4_fails 70 = .ok (.if_icmp .lt 5, 3) := by decide +kernel
theorem dX4_fails_73 : decode cX4_fails 73 = .ok (.iload_n 2, 1) := by decide +kernel
theorem dX4_fails_74 : decode cX4_fails 74 = .ok (.ireturn, 1) := by decide +kernel
theorem dX4_fails_75 : decode cX4_fails 75 = .ok (.iinc 5 1, 3) := by decide +kernel
theorem dX4_fails_78 : decode cX4_fails 78 = .ok (.goto (-43), 3) := by decide +kernel
theorem dX4_fails_81 : decode cX4_fails 81 = .ok (.iinc 4 1, 3) := by decide +kernel
theorem dX4_fails_84 : decode cX4_fails 84 = .ok (.goto (-61), 3) := by decide +kernel
theorem dX4_fails_87 : decode cX4_fails 87 = .ok (.iconst (-1), 1) := by decide +kernel
theorem dX4_fails_88 : decode cX4_fails 88 = .ok (.ireturn, 1) := by decide +kernel
theorem dX4_power_0 : decode cX4_power 0 = .ok (.lconst 1, 1) := by decide +kernel
theorem dX4_power_1 : decode cX4_power 1 = .ok (.lstore_n 3, 1) := by decide +kernel
theorem dX4_power_2 : decode cX4_power 2 = .ok (.iconst 0, 1) := by decide +kernel
theorem dX4_power_3 : decode cX4_power 3 = .ok (.istore 5, 2) := by decide +kernel
theorem dX4_power_5 : decode cX4_power 5 = .ok (.iload 5, 2) := by decide +kernel
theorem dX4_power_7 : decode cX4_power 7 = .ok (.iload_n 2, 1) := by decide +kernel
theorem dX4_power_8 : decode cX4_power 8 = .ok (.if_icmp .ge 13, 3) := by decide +kernel
theorem dX4_power_11 : decode cX4_power 11 = .ok (.lload_n 3, 1) := by decide +kernel
theorem dX4_power_12 : decode cX4_power 12 = .ok (.lload_n 0, 1) := by decide +kernel
theorem dX4_power_13 : decode cX4_power 13 = .ok (.lmul, 1) := by decide +kernel
theorem dX4_power_14 : decode cX4_power 14 = .ok (.lstore_n 3, 1) := by decide +kernel
theorem dX4_power_15 : decode cX4_power 15 = .ok (.iinc 5 1, 3) := by decide +kernel
theorem dX4_power_18 : decode cX4_power 18 = .ok (.goto (-13), 3) := by decide +kernel
theorem dX4_power_21 : decode cX4_power 21 = .ok (.lload_n 3, 1) := by decide +kernel
theorem dX4_power_22 : decode cX4_power 22 = .ok (.lreturn, 1) := by decide +kernel
theorem dX4_chance_0 : decode cX4_chance 0 = .ok (.lconst 0, 1) := by decide +kernel
theorem dX4_chance_1 : decode cX4_chance 1 = .ok (.lstore 4, 2) := by decide +kernel
theorem dX4_chance_3 : decode cX4_chance 3 = .ok (.lconst 1, 1) := by decide +kernel
theorem dX4_chance_4 : decode cX4_chance 4 = .ok (.lstore 6, 2) := by decide +kernel
theorem dX4_chance_6 : decode cX4_chance 6 = .ok (.iconst 0, 1) := by decide +kernel
theorem dX4_chance_7 : decode cX4_chance 7 = .ok (.istore 8, 2) := by decide +kernel
theorem dX4_chance_9 : decode cX4_chance 9 = .ok (.iload 8, 2) := by decide +kernel
theorem dX4_chance_11 : decode cX4_chance 11 = .ok (.iload_n 0, 1) := by decide +kernel
theorem dX4_chance_12 : decode cX4_chance 12 = .ok (.if_icmp .gt 69, 3) := by decide +kernel
theorem dX4_chance_15 : decode cX4_chance 15 = .ok (.lload 4, 2) := by decide +kernel
theorem dX4_chance_17 : decode cX4_chance 17 = .ok (.iload 8, 2) := by decide +kernel
theorem dX4_chance_19 : decode cX4_chance 19 = .ok (.iload_n 1, 1) := by decide +kernel
theorem dX4_chance_20 : decode cX4_chance 20 = .ok (.if_icmp .lt 35, 3) := by decide +kernel
theorem dX4_chance_23 : decode cX4_chance 23 = .ok (.iload 8, 2) := by decide +kernel
theorem dX4_chance_25 : decode cX4_chance 25 = .ok (.iload_n 2, 1) := by decide +kernel
theorem dX4_chance_26 : decode cX4_chance 26 = .ok (.if_icmp .gt 29, 3) := by decide +kernel
theorem dX4_chance_29 : decode cX4_chance 29 = .ok (.lload 6, 2) := by decide +kernel
theorem dX4_chance_31 : decode cX4_chance 31 = .ok (.iload_n 3, 1) := by decide +kernel
theorem dX4_chance_32 : decode cX4_chance 32 = .ok (.i2l, 1) := by decide +kernel
theorem dX4_chance_33 : decode cX4_chance 33 = .ok (.iload 8, 2) := by decide +kernel
theorem dX4_chance_35 : decode cX4_chance 35 = .ok (.invokestatic 170, 3) := by decide +kernel
theorem dX4_chance_38 : decode cX4_chance 38 = .ok (.lmul, 1) := by decide +kernel
theorem dX4_chance_39 : decode cX4_chance 39 = .ok (.bipush 10, 2) := by decide +kernel
theorem dX4_chance_41 : decode cX4_chance 41 = .ok (.iload_n 3, 1) := by decide +kernel
theorem dX4_chance_42 : decode cX4_chance 42 = .ok (.isub, 1) := by decide +kernel
theorem dX4_chance_43 : decode cX4_chance 43 = .ok (.i2l, 1) := by decide +kernel
theorem dX4_chance_44 : decode cX4_chance 44 = .ok (.iload_n 0, 1) := by decide +kernel
theorem dX4_chance_45 : decode cX4_chance 45 = .ok (.iload 8, 2) := by decide +kernel
theorem dX4_chance_47 : decode cX4_chance 47 = .ok (.isub, 1) := by decide +kernel
theorem dX4_chance_48 : decode cX4_chance 48 = .ok (.invokestatic 170, 3) := by decide +kernel
theorem dX4_chance_51 : decode cX4_chance 51 = .ok (.lmul, 1) := by decide +kernel
theorem dX4_chance_52 : decode cX4_chance 52 = .ok (.goto 4, 3) := by decide +kernel
theorem dX4_chance_55 : decode cX4_chance 55 = .ok (.lconst 0, 1) := by decide +kernel
theorem dX4_chance_56 : decode cX4_chance 56 = .ok (.ladd, 1) := by decide +kernel
theorem dX4_chance_57 : decode cX4_chance 57 = .ok (.lstore 4, 2) := by decide +kernel
theorem dX4_chance_59 : decode cX4_chance 59 = .ok (.lload 6, 2) := by decide +kernel
theorem dX4_chance_61 : decode cX4_chance 61 = .ok (.iload_n 0, 1) := by decide +kernel
theorem dX4_chance_62 : decode cX4_chance 62 = .ok (.iload 8, 2) := by decide +kernel
theorem dX4_chance_64 : decode cX4_chance 64 = .ok (.isub, 1) := by decide +kernel
theorem dX4_chance_65 : decode cX4_chance 65 = .ok (.i2l, 1) := by decide +kernel
theorem dX4_chance_66 : decode cX4_chance 66 = .ok (.lmul, 1) := by decide +kernel
theorem dX4_chance_67 : decode cX4_chance 67 = .ok (.iload 8, 2) := by decide +kernel
theorem dX4_chance_69 : decode cX4_chance 69 = .ok (.iconst 1, 1) := by decide +kernel
theorem dX4_chance_70 : decode cX4_chance 70 = .ok (.iadd, 1) := by decide +kernel
theorem dX4_chance_71 : decode cX4_chance 71 = .ok (.i2l, 1) := by decide +kernel
theorem dX4_chance_72 : decode cX4_chance 72 = .ok (.ldiv, 1) := by decide +kernel
theorem dX4_chance_73 : decode cX4_chance 73 = .ok (.lstore 6, 2) := by decide +kernel
theorem dX4_chance_75 : decode cX4_chance 75 = .ok (.iinc 8 1, 3) := by decide +kernel
theorem dX4_chance_78 : decode cX4_chance 78 = .ok (.goto (-69), 3) := by decide +kernel
theorem dX4_chance_81 : decode cX4_chance 81 = .ok (.lload 4, 2) := by decide +kernel
theorem dX4_chance_83 : decode cX4_chance 83 = .ok (.lreturn, 1) := by decide +kernel
theorem dX4_end_0 : decode cX4_end 0 = .ok (.iload_n 1, 1) := by decide +kernel
theorem dX4_end_1 : decode cX4_end 1 = .ok (.i2l, 1) := by decide +kernel
theorem dX4_end_2 : decode cX4_end 2 = .ok (.lconst 1, 1) := by decide +kernel
theorem dX4_end_3 : decode cX4_end 3 = .ok (.ldc2_w 174, 3) := by decide +kernel
theorem dX4_end_6 : decode cX4_end 6 = .ok (.invokestatic 46, 3) := by decide +kernel
theorem dX4_end_9 : decode cX4_end 9 = .ok (.ifCond .eq 39, 3) := by decide +kernel
theorem dX4_end_12 : decode cX4_end 12 = .ok (.iload_n 2, 1) := by decide +kernel
theorem dX4_end_13 : decode cX4_end 13 = .ok (.i2l, 1) := by decide +kernel
theorem dX4_end_14 : decode cX4_end 14 = .ok (.lconst 0, 1) := by decide +kernel
theorem dX4_end_15 : decode cX4_end 15 = .ok (.iload_n 1, 1) := by decide +kernel
theorem dX4_end_16 : decode cX4_end 16 = .ok (.i2l, 1) := by decide +kernel
theorem dX4_end_17 : decode cX4_end 17 = .ok (.invokestatic 46, 3) := by decide +kernel
theorem dX4_end_20 : decode cX4_end 20 = .ok (.ifCond .eq 28, 3) := by decide +kernel
theorem dX4_end_23 : decode cX4_end 23 = .ok (.iload_n 3, 1) := by decide +kernel
theorem dX4_end_24 : decode cX4_end 24 = .ok (.i2l, 1) := by decide +kernel
theorem dX4_end_25 : decode cX4_end 25 = .ok (.ldc2_w 176, 3) := by decide +kernel
theorem dX4_end_28 : decode cX4_end 28 = .ok (.ldc2_w 178, 3) := by decide +kernel
theorem dX4_end_31 : decode cX4_end 31 = .ok (.invokestatic 46, 3) := by decide +kernel
theorem dX4_end_34 : decode cX4_end 34 = .ok (.ifCond .eq 14, 3) := by decide +kernel
theorem dX4_end_37 : decode cX4_end 37 = .ok (.iload 4, 2) := by decide +kernel
theorem dX4_end_39 : decode cX4_end 39 = .ok (.i2l, 1) := by decide +kernel
theorem dX4_end_40 : decode cX4_end 40 = .ok (.lconst 0, 1) := by decide +kernel
theorem dX4_end_41 : decode cX4_end 41 = .ok (.lconst 1, 1) := by decide +kernel
theorem dX4_end_42 : decode cX4_end 42 = .ok (.invokestatic 46, 3) := by decide +kernel
theorem dX4_end_45 : decode cX4_end 45 = .ok (.ifCond .ne 7, 3) := by decide +kernel
theorem dX4_end_48 : decode cX4_end 48 = .ok (.sipush (-1002), 3) := by decide +kernel
theorem dX4_end_51 : decode cX4_end 51 = .ok (.ireturn, 1) := by decide +kernel
theorem dX4_end_52 : decode cX4_end 52 = .ok (.bipush 100, 2) := by decide +kernel
theorem dX4_end_54 : decode cX4_end 54 = .ok (.iload_n 3, 1) := by decide +kernel
theorem dX4_end_55 : decode cX4_end 55 = .ok (.isub, 1) := by decide +kernel
theorem dX4_end_56 : decode cX4_end 56 = .ok (.i2l, 1) := by decide +kernel
theorem dX4_end_57 : decode cX4_end 57 = .ok (.ldc2_w 180, 3) := by decide +kernel
theorem dX4_end_60 : decode cX4_end 60 = .ok (.iload_n 1, 1) := by decide +kernel
theorem dX4_end_61 : decode cX4_end 61 = .ok (.invokestatic 170, 3) := by decide +kernel
theorem dX4_end_64 : decode cX4_end 64 = .ok (.lmul, 1) := by decide +kernel
theorem dX4_end_65 : decode cX4_end 65 = .ok (.lstore 5, 2) := by decide +kernel
theorem dX4_end_67 : decode cX4_end 67 = .ok (.iconst 0, 1) := by decide +kernel
theorem dX4_end_68 : decode cX4_end 68 = .ok (.istore 7, 2) := by decide +kernel
theorem dX4_end_70 : decode cX4_end 70 = .ok (.bipush 10, 2) := by decide +kernel
theorem dX4_end_72 : decode cX4_end 72 = .ok (.istore 8, 2) := by decide +kernel
theorem dX4_end_74 : decode cX4_end 74 = .ok (.iconst 0, 1) := by decide +kernel
theorem dX4_end_75 : decode cX4_end 75 = .ok (.istore 9, 2) := by decide +kernel
theorem dX4_end_77 : decode cX4_end 77 = .ok (.iload 9, 2) := by decide +kernel
theorem dX4_end_79 : decode cX4_end 79 = .ok (.bipush 10, 2) := by decide +kernel
theorem dX4_end_81 : decode cX4_end 81 = .ok (.if_icmp .gt 40, 3) := by decide +kernel
theorem dX4_end_84 : decode cX4_end 84 = .ok (.ldc2_w 143, 3) := by decide +kernel
theorem dX4_end_87 : decode cX4_end 87 = .ok (.iload_n 1, 1) := by decide +kernel
theorem dX4_end_88 : decode cX4_end 88 = .ok (.iload_n 2, 1) := by decide +kernel
theorem dX4_end_89 : decode cX4_end 89 = .ok (.iload_n 1, 1) := by decide +kernel
theorem dX4_end_90 : decode cX4_end 90 = .ok (.iload 9, 2) := by decide +kernel
theorem dX4_end_92 : decode cX4_end 92 = .ok (.invokestatic 182, 3) := by decide +kernel
theorem dX4_end_95 : decode cX4_end 95 = .ok (.lmul, 1) := by decide +kernel
theorem dX4_end_96 : decode cX4_end 96 = .ok (.lload 5, 2) := by decide +kernel
theorem dX4_end_98 : decode cX4_end 98 = .ok (.lcmp, 1) := by decide +kernel
theorem dX4_end_99 : decode cX4_end 99 = .ok (.ifCond .gt 12, 3) := by decide +kernel
theorem dX4_end_102 : decode cX4_end 102 = .ok (.iload_n 2, 1) := by decide +kernel
theorem dX4_end_103 : decode cX4_end 103 = .ok (.ifCond .le 8, 3) := by decide +kernel
theorem dX4_end_106 : decode cX4_end 106 = .ok (.iload 9, 2) := by decide +kernel
theorem dX4_end_108 : decode cX4_end 108 = .ok (.goto 5, 3) := by decide +kernel
theorem dX4_end_111 : decode cX4_end 111 = .ok (.iload 7, 2) := by decide +kernel
theorem dX4_end_113 : decode cX4_end 113 = .ok (.istore 7, 2) := by decide +kernel
theorem dX4_end_115 : decode cX4_end 115 = .ok (.iinc 9 1, 3) := by decide +kernel
theorem dX4_end_118 : decode cX4_end 118 = .ok (.goto (-41), 3) := by decide +kernel
theorem dX4_end_121 : decode cX4_end 121 = .ok (.bipush 9, 2) := by decide +kernel
theorem dX4_end_123 : decode cX4_end 123 = .ok (.istore 9, 2) := by decide +kernel
theorem dX4_end_125 : decode cX4_end 125 = .ok (.iload 9, 2) := by decide +kernel
theorem dX4_end_127 : decode cX4_end 127 = .ok (.ifCond .lt 36, 3) := by decide +kernel
theorem dX4_end_130 : decode cX4_end 130 = .ok (.ldc2_w 143, 3) := by decide +kernel
theorem dX4_end_133 : decode cX4_end 133 = .ok (.iload_n 1, 1) := by decide +kernel
theorem dX4_end_134 : decode cX4_end 134 = .ok (.iconst 0, 1) := by decide +kernel
theorem dX4_end_135 : decode cX4_end 135 = .ok (.iload_n 2, 1) := by decide +kernel
theorem dX4_end_136 : decode cX4_end 136 = .ok (.iload 9, 2) := by decide +kernel
theorem dX4_end_138 : decode cX4_end 138 = .ok (.invokestatic 182, 3) := by decide +kernel
theorem dX4_end_141 : decode cX4_end 141 = .ok (.lmul, 1) := by decide +kernel
theorem dX4_end_142 : decode cX4_end 142 = .ok (.lload 5, 2) := by decide +kernel
theorem dX4_end_144 : decode cX4_end 144 = .ok (.lcmp, 1) := by decide +kernel
theorem dX4_end_145 : decode cX4_end 145 = .ok (.ifCond .gt 8, 3) := by decide +kernel
theorem dX4_end_148 : decode cX4_end 148 = .ok (.iload 9, 2) := by decide +kernel
theorem dX4_end_150 : decode cX4_end 150 = .ok (.goto 5, 3) := by decide +kernel
theorem dX4_end_153 : decode cX4_end 153 = .ok (.iload 8, 2) := by decide +kernel
theorem dX4_end_155 : decode cX4_end 155 = .ok (.istore 8, 2) := by decide +kernel
theorem dX4_end_157 : decode cX4_end 157 = .ok (.iinc 9 (-1), 3) := by decide +kernel
theorem dX4_end_160 : decode cX4_end 160 = .ok (.goto (-35), 3) := by decide +kernel
theorem dX4_end_163 : decode cX4_end 163 = .ok (.iload 4, 2) := by decide +kernel
theorem dX4_end_165 : decode cX4_end 165 = .ok (.ifCond .ne 8, 3) := by decide +kernel
theorem dX4_end_168 : decode cX4_end 168 = .ok (.iload 7, 2) := by decide +kernel
theorem dX4_end_170 : decode cX4_end 170 = .ok (.goto 5, 3) := by decide +kernel
theorem dX4_end_173 : decode cX4_end 173 = .ok (.iload 8, 2) := by decide +kernel
theorem dX4_end_175 : decode cX4_end 175 = .ok (.ireturn, 1) := by decide +kernel
theorem dX4_rule_0 : decode cX4_rule 0 = .ok (.iload_n 1, 1) := by decide +kernel
theorem dX4_rule_1 : decode cX4_rule 1 = .ok (.i2l, 1) := by decide +kernel
theorem dX4_rule_2 : decode cX4_rule 2 = .ok (.lconst 0, 1) := by decide +kernel
theorem dX4_rule_3 : decode cX4_rule 3 = .ok (.lconst 1, 1) := by decide +kernel
theorem dX4_rule_4 : decode cX4_rule 4 = .ok (.invokestatic 46, 3) := by decide +kernel
theorem dX4_rule_7 : decode cX4_rule 7 = .ok (.ifCond .eq 28, 3) := by decide +kernel
theorem dX4_rule_10 : decode cX4_rule 10 = .ok (.iload_n 2, 1) := by decide +kernel
theorem dX4_rule_11 : decode cX4_rule 11 = .ok (.i2l, 1) := by decide +kernel
theorem dX4_rule_12 : decode cX4_rule 12 = .ok (.iconst 1, 1) := by decide +kernel
theorem dX4_rule_13 : decode cX4_rule 13 = .ok (.iload_n 1, 1) := by decide +kernel
theorem dX4_rule_14 : decode cX4_rule 14 = .ok (.isub, 1) := by decide +kernel
theorem dX4_rule_15 : decode cX4_rule 15 = .ok (.i2l, 1) := by decide +kernel
theorem dX4_rule_16 : decode cX4_rule 16 = .ok (.iload_n 1, 1) := by decide +kernel
theorem dX4_rule_17 : decode cX4_rule 17 = .ok (.ifCond .ne 9, 3) := by decide +kernel
theorem dX4_rule_20 : decode cX4_rule 20 = .ok (.ldc2_w 60, 3) := by decide +kernel
theorem dX4_rule_23 : decode cX4_rule 23 = .ok (.goto 6, 3) := by decide +kernel
theorem dX4_rule_26 : decode cX4_rule 26 = .ok (.ldc2_w 151, 3) := by decide +kernel
theorem dX4_rule_29 : decode cX4_rule 29 = .ok (.invokestatic 46, 3) := by decide +kernel
theorem dX4_rule_32 : decode cX4_rule 32 = .ok (.ifCond .ne 7, 3) := by decide +kernel
theorem dX4_rule_35 : decode cX4_rule 35 = .ok (.sipush (-1002), 3) := by decide +kernel
theorem dX4_rule_38 : decode cX4_rule 38 = .ok (.ireturn, 1) := by decide +kernel
theorem dX4_rule_39 : decode cX4_rule 39 = .ok (.iload_n 1, 1) := by decide +kernel
theorem dX4_rule_40 : decode cX4_rule 40 = .ok (.ifCond .ne 10, 3) := by decide +kernel
theorem dX4_rule_43 : decode cX4_rule 43 = .ok (.aload_n 0, 1) := by decide +kernel
theorem dX4_rule_44 : decode cX4_rule 44 = .ok (.getfield 28, 3) := by decide +kernel
theorem dX4_rule_47 : decode cX4_rule 47 = .ok (.goto 7, 3) := by decide +kernel
theorem dX4_rule_50 : decode cX4_rule 50 = .ok (.aload_n 0, 1) := by decide +kernel
theorem dX4_rule_51 : decode cX4_rule 51 = .ok (.getfield 32, 3) := by decide +kernel
theorem dX4_rule_54 : decode cX4_rule 54 = .ok (.istore_n 3, 1) := by decide +kernel
theorem dX4_rule_55 : decode cX4_rule 55 = .ok (.aload_n 0, 1) := by decide +kernel
theorem dX4_rule_56 : decode cX4_rule 56 = .ok (.iload_n 1, 1) := by decide +kernel
theorem dX4_rule_57 : decode cX4_rule 57 = .ok (.ifCond .ne 7, 3) := by decide +kernel
theorem dX4_rule_60 : decode cX4_rule 60 = .ok (.iload_n 2, 1) := by decide +kernel
theorem dX4_rule_61 : decode cX4_rule 61 = .ok (.goto 7, 3) := by decide +kernel
theorem dX4_rule_64 : decode cX4_rule 64 = .ok (.aload_n 0, 1) := by decide +kernel
theorem dX4_rule_65 : decode cX4_rule 65 = .ok (.getfield 28, 3) := by decide +kernel
theorem dX4_rule_68 : decode cX4_rule 68 = .ok (.putfield 28, 3) := by decide +kernel
theorem dX4_rule_71 : decode cX4_rule 71 = .ok (.aload_n 0, 1) := by decide +kernel
theorem dX4_rule_72 : decode cX4_rule 72 = .ok (.iload_n 1, 1) := by decide +kernel
theorem dX4_rule_73 : decode cX4_rule 73 = .ok (.iconst 1, 1) := by decide +kernel
theorem dX4_rule_74 : decode cX4_rule 74 = .ok (.if_icmp .ne 7, 3) := by decide +kernel
theorem dX4_rule_77 : decode cX4_rule 77 = .ok (.iload_n 2, 1) := by decide +kernel
theorem dX4_rule_78 : decode cX4_rule 78 = .ok (.goto 7, 3) := by decide +kernel
theorem dX4_rule_81 : decode cX4_rule 81 = .ok (.aload_n 0, 1) := by decide +kernel
theorem dX4_rule_82 : decode cX4_rule 82 = .ok (.getfield 32, 3) := by decide +kernel
theorem dX4_rule_85 : decode cX4_rule 85 = .ok (.putfield 32, 3) := by decide +kernel
theorem dX4_rule_88 : decode cX4_rule 88 = .ok (.iload_n 3, 1) := by decide +kernel
theorem dX4_rule_89 : decode cX4_rule 89 = .ok (.ireturn, 1) := by decide +kernel
theorem dX4_plan_0 : decode cX4_plan 0 = .ok (.iload_n 1, 1) := by decide +kernel
theorem dX4_plan_1 : decode cX4_plan 1 = .ok (.i2l, 1) := by decide +kernel
theorem dX4_plan_2 : decode cX4_plan 2 = .ok (.lconst 0, 1) := by decide +kernel
theorem dX4_plan_3 : decode cX4_plan 3 = .ok (.ldc2_w 186, 3) := by decide +kernel
theorem dX4_plan_6 : decode cX4_plan 6 = .ok (.invokestatic 46, 3) := by decide +kernel
theorem dX4_plan_9 : decode cX4_plan 9 = .ok (.ifCond .eq 27, 3) := by decide +kernel
theorem dX4_plan_12 : decode cX4_plan 12 = .ok (.iload_n 2, 1) := by decide +kernel
theorem dX4_plan_13 : decode cX4_plan 13 = .ok (.i2l, 1) := by decide +kernel
theorem dX4_plan_14 : decode cX4_plan 14 = .ok (.lconst 1, 1) := by decide +kernel
theorem dX4_plan_15 : decode cX4_plan 15 = .ok (.ldc2_w 60, 3) := by decide +kernel
theorem dX4_plan_18 : decode cX4_plan 18 = .ok (.invokestatic 46, 3) := by decide +kernel
theorem dX4_plan_21 : decode cX4_plan 21 = .ok (.ifCond .eq 15, 3) := by decide +kernel
theorem dX4_plan_24 : decode cX4_plan 24 = .ok (.iload_n 3, 1) := by decide +kernel
theorem dX4_plan_25 : decode cX4_plan 25 = .ok (.i2l, 1) := by decide +kernel
theorem dX4_plan_26 : decode cX4_plan 26 = .ok (.lconst 0, 1) := by decide +kernel
theorem dX4_plan_27 : decode cX4_plan 27 = .ok (.ldc2_w 52, 3) := by decide +kernel
theorem dX4_plan_30 : decode cX4_plan 30 = .ok (.invokestatic 46, 3) := by decide +kernel
theorem dX4_plan_33 : decode cX4_plan 33 = .ok (.ifCond .ne 7, 3) := by decide +kernel
theorem dX4_plan_36 : decode cX4_plan 36 = .ok (.sipush (-1002), 3) := by decide +kernel
theorem dX4_plan_39 : decode cX4_plan 39 = .ok (.ireturn, 1) := by decide +kernel
theorem dX4_plan_40 : decode cX4_plan 40 = .ok (.aload_n 0, 1) := by decide +kernel
theorem dX4_plan_41 : decode cX4_plan 41 = .ok (.getfield 28, 3) := by decide +kernel
theorem dX4_plan_44 : decode cX4_plan 44 = .ok (.iload_n 2, 1) := by decide +kernel
theorem dX4_plan_45 : decode cX4_plan 45 = .ok (.aload_n 0, 1) := by decide +kernel
theorem dX4_plan_46 : decode cX4_plan 46 = .ok (.getfield 32, 3) := by decide +kernel
theorem dX4_plan_49 : decode cX4_plan 49 = .ok (.imul, 1) := by decide +kernel
theorem dX4_plan_50 : decode cX4_plan 50 = .ok (.iadd, 1) := by decide +kernel
theorem dX4_plan_51 : decode cX4_plan 51 = .ok (.istore 4, 2) := by decide +kernel
theorem dX4_plan_53 : decode cX4_plan 53 = .ok (.aload_n 0, 1) := by decide +kernel
theorem dX4_plan_54 : decode cX4_plan 54 = .ok (.getfield 28, 3) := by decide +kernel
theorem dX4_plan_57 : decode cX4_plan 57 = .ok (.bipush 10, 2) := by decide +kernel
theorem dX4_plan_59 : decode cX4_plan 59 = .ok (.iload_n 2, 1) := by decide +kernel
theorem dX4_plan_60 : decode cX4_plan 60 = .ok (.imul, 1) := by decide +kernel
theorem dX4_plan_61 : decode cX4_plan 61 = .ok (.aload_n 0, 1) := by decide +kernel
theorem dX4_plan_62 : decode cX4_plan 62 = .ok (.getfield 19, 3) := by decide +kernel
theorem dX4_plan_65 : decode cX4_plan 65 = .ok (.iconst 2, 1) := by decide +kernel
theorem dX4_plan_66 : decode cX4_plan 66 = .ok (.iaload, 1) := by decide +kernel
theorem dX4_plan_67 : decode cX4_plan 67 = .ok (.iadd, 1) := by decide +kernel
theorem dX4_plan_68 : decode cX4_plan 68 = .ok (.iconst 1, 1) := by decide +kernel
theorem dX4_plan_69 : decode cX4_plan 69 = .ok (.isub, 1) := by decide +kernel
theorem dX4_plan_70 : decode cX4_plan 70 = .ok (.aload_n 0, 1) := by decide +kernel
theorem dX4_plan_71 : decode cX4_plan 71 = .ok (.getfield 19, 3) := by decide +kernel
theorem dX4_plan_74 : decode cX4_plan 74 = .ok (.iconst 2, 1) := by decide +kernel
theorem dX4_plan_75 : decode cX4_plan 75 = .ok (.iaload, 1) := by decide +kernel
theorem dX4_plan_76 : decode cX4_plan 76 = .ok (.idiv, 1) := by decide +kernel
theorem dX4_plan_77 : decode cX4_plan 77 = .ok (.aload_n 0, 1) := by decide +kernel
theorem dX4_plan_78 : decode cX4_plan 78 = .ok (.getfield 32, 3) := by decide +kernel
theorem dX4_plan_81 : decode cX4_plan 81 = .ok (.imul, 1) := by decide +kernel
theorem dX4_plan_82 : decode cX4_plan 82 = .ok (.iadd, 1) := by decide +kernel
theorem dX4_plan_83 : decode cX4_plan 83 = .ok (.istore 5, 2) := by decide +kernel
theorem dX4_plan_85 : decode cX4_plan 85 = .ok (.iconst 0, 1) := by decide +kernel
theorem dX4_plan_86 : decode cX4_plan 86 = .ok (.istore 6, 2) := by decide +kernel
theorem dX4_plan_88 : decode cX4_plan 88 = .ok (.iconst 0, 1) := by decide +kernel
theorem dX4_plan_89 : decode cX4_plan 89 = .ok (.istore 7, 2) := by decide +kernel
theorem dX4_plan_91 : decode cX4_plan 91 = .ok (.iconst 0, 1) := by decide +kernel
theorem dX4_plan_92 : decode cX4_plan 92 = .ok (.istore 8, 2) := by decide +kernel
theorem dX4_plan_94 : decode cX4_plan 94 = .ok (.iload 8, 2) := by decide +kernel
theorem dX4_plan_96 : decode cX4_plan 96 = .ok (.bipush 12, 2) := by decide +kernel
theorem dX4_plan_98 : decode cX4_plan 98 = .ok (.if_icmp .gt 90, 3) := by decide +kernel
theorem dX4_plan_101 : decode cX4_plan 101 = .ok (.iconst 0, 1) := by decide +kernel
theorem dX4_plan_102 : decode cX4_plan 102 = .ok (.istore 9, 2) := by decide +kernel
theorem dX4_plan_104 : decode cX4_plan 104 = .ok (.iload 9, 2) := by decide +kernel
theorem dX4_plan_106 : decode cX4_plan 106 = .ok (.bipush 12, 2) := by decide +kernel
theorem dX4_plan_108 : decode cX4_plan 108 = .ok (.if_icmp .gt 74, 3) := by decide +kernel
theorem dX4_plan_111 : decode cX4_plan 111 = .ok (.iload 8, 2) := by decide +kernel
theorem dX4_plan_113 : decode cX4_plan 113 = .ok (.iload 4, 2) := by decide +kernel
theorem dX4_plan_115 : decode cX4_plan 115 = .ok (.imul, 1) := by decide +kernel
theorem dX4_plan_116 : decode cX4_plan 116 = .ok (.iload 9, 2) := by decide +kernel
theorem dX4_plan_118 : decode cX4_plan 118 = .ok (.iload 5, 2) := by decide +kernel
theorem dX4_plan_120 : decode cX4_plan 120 = .ok (.imul, 1) := by decide +kernel
theorem dX4_plan_121 : decode cX4_plan 121 = .ok (.iadd, 1) := by decide +kernel
theorem dX4_plan_122 : decode cX4_plan 122 = .ok (.iload_n 1, 1) := by decide +kernel
theorem dX4_plan_123 : decode cX4_plan 123 = .ok (.if_icmp .gt 7, 3) := by decide +kernel
theorem dX4_plan_126 : decode cX4_plan 126 = .ok (.iconst 1, 1) := by decide +kernel
theorem dX4_plan_127 : decode cX4_plan 127 = .ok (.goto 4, 3) := by decide +kernel
theorem dX4_plan_130 : decode cX4_plan 130 = .ok (.iconst 0, 1) := by decide +kernel
theorem dX4_plan_131 : decode cX4_plan 131 = .ok (.istore 10, 2) := by decide +kernel
theorem dX4_plan_133 : decode cX4_plan 133 = .ok (.iload 8, 2) := by decide +kernel
theorem dX4_plan_135 : decode cX4_plan 135 = .ok (.iload 9, 2) := by decide +kernel
theorem dX4_plan_137 : decode cX4_plan 137 = .ok (.iadd, 1) := by decide +kernel
theorem dX4_plan_138 : decode cX4_plan 138 = .ok (.iload 6, 2) := by decide +kernel
theorem dX4_plan_140 : decode cX4_plan 140 = .ok (.isub, 1) := by decide +kernel
theorem dX4_plan_141 : decode cX4_plan 141 = .ok (.iload 7, 2) := by decide +kernel
theorem dX4_plan_143 : decode cX4_plan 143 = .ok (.isub, 1) := by decide +kernel
theorem dX4_plan_144 : decode cX4_plan 144 = .ok (.istore 11, 2) := by decide +kernel
theorem dX4_plan_146 : decode cX4_plan 146 = .ok (.iload 10, 2) := by decide +kernel
theorem dX4_plan_148 : decode cX4_plan 148 = .ok (.ifCond .eq 28, 3) := by decide +kernel
theorem dX4_plan_151 : decode cX4_plan 151 = .ok (.iload 11, 2) := by decide +kernel
theorem dX4_plan_153 : decode cX4_plan 153 = .ok (.ifCond .gt 15, 3) := by decide +kernel
theorem dX4_plan_156 : decode cX4_plan 156 = .ok (.iload 11, 2) := by decide +kernel
theorem dX4_plan_158 : decode cX4_plan 158 = .ok (.ifCond .ne 18, 3) := by decide +kernel
theorem dX4_plan_161 : decode cX4_plan 161 = .ok (.iload 8, 2) := by decide +kernel
theorem dX4_plan_163 : decode cX4_plan 163 = .ok (.iload 6, 2) := by decide +kernel
theorem dX4_plan_165 : decode cX4_plan 165 = .ok (.if_icmp .le 11, 3) := by decide +kernel
theorem dX4_plan_168 : decode cX4_plan 168 = .ok (.iload 8, 2) := by decide +kernel
theorem dX4_plan_170 : decode cX4_plan 170 = .ok (.istore 6, 2) := by decide +kernel
theorem dX4_plan_172 : decode cX4_plan 172 = .ok (.iload 9, 2) := by decide +kernel
theorem dX4_plan_174 : decode cX4_plan 174 = .ok (.istore 7, 2) := by decide +kernel
theorem dX4_plan_176 : decode cX4_plan 176 = .ok (.iinc 9 1, 3) := by decide +kernel
theorem dX4_plan_179 : decode cX4_plan 179 = .ok (.goto (-75), 3) := by decide +kernel
theorem dX4_plan_182 : decode cX4_plan 182 = .ok (.iinc 8 1, 3) := by decide +kernel
theorem dX4_plan_185 : decode cX4_plan 185 = .ok (.goto (-91), 3) := by decide +kernel
theorem dX4_plan_188 : decode cX4_plan 188 = .ok (.iload_n 3, 1) := by decide +kernel
theorem dX4_plan_189 : decode cX4_plan 189 = .ok (.ifCond .ne 8, 3) := by decide +kernel
theorem dX4_plan_192 : decode cX4_plan 192 = .ok (.iload 6, 2) := by decide +kernel
theorem dX4_plan_194 : decode cX4_plan 194 = .ok (.goto 24, 3) := by decide +kernel
theorem dX4_plan_197 : decode cX4_plan 197 = .ok (.iload_n 3, 1) := by decide +kernel
theorem dX4_plan_198 : decode cX4_plan 198 = .ok (.iconst 1, 1) := by decide +kernel
theorem dX4_plan_199 : decode cX4_plan 199 = .ok (.if_icmp .ne 8, 3) := by decide +kernel
theorem dX4_plan_202 : decode cX4_plan 202 = .ok (.iload 7, 2) := by decide +kernel
theorem dX4_plan_204 : decode cX4_plan 204 = .ok (.goto 14, 3) := by decide +kernel
theorem dX4_plan_207 : decode cX4_plan 207 = .ok (.iload 6, 2) := by decide +kernel
theorem dX4_plan_209 : decode cX4_plan 209 = .ok (.iload 4, 2) := by decide +kernel
theorem dX4_plan_211 : decode cX4_plan 211 = .ok (.imul, 1) := by decide +kernel
theorem dX4_plan_212 : decode cX4_plan 212 = .ok (.iload 7, 2) := by decide +kernel
theorem dX4_plan_214 : decode cX4_plan 214 = .ok (.iload 5, 2) := by decide +kernel
theorem dX4_plan_216 : decode cX4_plan 216 = .ok (.imul, 1) := by decide +kernel
theorem dX4_plan_217 : decode cX4_plan 217 = .ok (.iadd, 1) := by decide +kernel
theorem dX4_plan_218 : decode cX4_plan 218 = .ok (.ireturn, 1) := by decide +kernel
