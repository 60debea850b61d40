theorem dX0_init_0 : decode cX0_init 0 = .ok (.aload_n 0, 1) := by decide +kernel
theorem dX0_init_1 : decode cX0_init 1 = .ok (.invokespecial 5, 3) := by decide +kernel
theorem dX0_init_4 : decode cX0_init 4 = .ok (.aload_n 0, 1) := by decide +kernel
theorem dX0_init_5 : decode cX0_init 5 = .ok (.bipush 31, 2) := by decide +kernel
theorem dX0_init_7 : decode cX0_init 7 = .ok (.newarray .long, 2) := by decide +kernel
theorem dX0_init_9 : decode cX0_init 9 = .ok (.putfield 11, 3) := by decide +kernel
theorem dX0_init_12 : decode cX0_init 12 = .ok (.return_, 1) := by decide +kernel
theorem dX0_above_0 : decode cX0_above 0 = .ok (.lconst 1, 1) := by decide +kernel
theorem dX0_above_1 : decode cX0_above 1 = .ok (.lstore 4, 2) := by decide +kernel
theorem dX0_above_3 : decode cX0_above 3 = .ok (.lconst 0, 1) := by decide +kernel
theorem dX0_above_4 : decode cX0_above 4 = .ok (.lstore 6, 2) := by decide +kernel
theorem dX0_above_6 : decode cX0_above 6 = .ok (.iload_n 3, 1) := by decide +kernel
theorem dX0_above_7 : decode cX0_above 7 = .ok (.istore 8, 2) := by decide +kernel
theorem dX0_above_9 : decode cX0_above 9 = .ok (.iload 8, 2) := by decide +kernel
theorem dX0_above_11 : decode cX0_above 11 = .ok (.iload_n 2, 1) := by decide +kernel
theorem dX0_above_12 : decode cX0_above 12 = .ok (.if_icmp .lt 46, 3) := by decide +kernel
theorem dX0_above_15 : decode cX0_above 15 = .ok (.lload 6, 2) := by decide +kernel
theorem dX0_above_17 : decode cX0_above 17 = .ok (.iload_n 1, 1) := by decide +kernel
theorem dX0_above_18 : decode cX0_above 18 = .ok (.ifCond .eq 13, 3) := by decide +kernel
theorem dX0_above_21 : decode cX0_above 21 = .ok (.lload 4, 2) := by decide +kernel
theorem dX0_above_23 : decode cX0_above 23 = .ok (.iload_n 3, 1) := by decide +kernel
theorem dX0_above_24 : decode cX0_above 24 = .ok (.iload 8, 2) := by decide +kernel
theorem dX0_above_26 : decode cX0_above 26 = .ok (.isub, 1) := by decide +kernel
theorem dX0_above_27 : decode cX0_above 27 = .ok (.lshl, 1) := by decide +kernel
theorem dX0_above_28 : decode cX0_above 28 = .ok (.goto 5, 3) := by decide +kernel
theorem dX0_above_31 : decode cX0_above 31 = .ok (.lload 4, 2) := by decide +kernel
theorem dX0_above_33 : decode cX0_above 33 = .ok (.ladd, 1) := by decide +kernel
theorem dX0_above_34 : decode cX0_above 34 = .ok (.lstore 6, 2) := by decide +kernel
theorem dX0_above_36 : decode cX0_above 36 = .ok (.lload 4, 2) := by decide +kernel
theorem dX0_above_38 : decode cX0_above 38 = .ok (.iload 8, 2) := by decide +kernel
theorem dX0_above_40 : decode cX0_above 40 = .ok (.i2l, 1) := by decide +kernel
theorem dX0_above_41 : decode cX0_above 41 = .ok (.lmul, 1) := by decide +kernel
theorem dX0_above_42 : decode cX0_above 42 = .ok (.iload_n 3, 1) := by decide +kernel
theorem dX0_above_43 : decode cX0_above 43 = .ok (.iload 8, 2) := by decide +kernel
theorem dX0_above_45 : decode cX0_above 45 = .ok (.isub, 1) := by decide +kernel
theorem dX0_above_46 : decode cX0_above 46 = .ok (.iconst 1, 1) := by decide +kernel
theorem dX0_above_47 : decode cX0_above 47 = .ok (.iadd, 1) := by decide +kernel
theorem dX0_above_48 : decode cX0_above 48 = .ok (.i2l, 1) := by decide +kernel
theorem dX0_above_49 : decode cX0_above 49 = .ok (.ldiv, 1) := by decide +kernel
theorem dX0_above_50 : decode cX0_above 50 = .ok (.lstore 4, 2) := by decide +kernel
theorem dX0_above_52 : decode cX0_above 52 = .ok (.iinc 8 (-1), 3) := by decide +kernel
theorem dX0_above_55 : decode cX0_above 55 = .ok (.goto (-46), 3) := by decide +kernel
theorem dX0_above_58 : decode cX0_above 58 = .ok (.lload 6, 2) := by decide +kernel
theorem dX0_above_60 : decode cX0_above 60 = .ok (.lreturn, 1) := by decide +kernel
theorem dX0_below_0 : decode cX0_below 0 = .ok (.lconst 1, 1) := by decide +kernel
theorem dX0_below_1 : decode cX0_below 1 = .ok (.lstore_n 3, 1) := by decide +kernel
theorem dX0_below_2 : decode cX0_below 2 = .ok (.iconst 0, 1) := by decide +kernel
theorem dX0_below_3 : decode cX0_below 3 = .ok (.istore 5, 2) := by decide +kernel
theorem dX0_below_5 : decode cX0_below 5 = .ok (.iload 5, 2) := by decide +kernel
theorem dX0_below_7 : decode cX0_below 7 = .ok (.iload_n 2, 1) := by decide +kernel
theorem dX0_below_8 : decode cX0_below 8 = .ok (.if_icmp .ge 25, 3) := by decide +kernel
theorem dX0_below_11 : decode cX0_below 11 = .ok (.lload_n 3, 1) := by decide +kernel
theorem dX0_below_12 : decode cX0_below 12 = .ok (.iload_n 1, 1) := by decide +kernel
theorem dX0_below_13 : decode cX0_below 13 = .ok (.ifCond .eq 9, 3) := by decide +kernel
theorem dX0_below_16 : decode cX0_below 16 = .ok (.ldc2_w 15, 3) := by decide +kernel
theorem dX0_below_19 : decode cX0_below 19 = .ok (.goto 6, 3) := by decide +kernel
theorem dX0_below_22 : decode cX0_below 22 = .ok (.ldc2_w 17, 3) := by decide +kernel
theorem dX0_below_25 : decode cX0_below 25 = .ok (.lmul, 1) := by decide +kernel
theorem dX0_below_26 : decode cX0_below 26 = .ok (.lstore_n 3, 1) := by decide +kernel
theorem dX0_below_27 : decode cX0_below 27 = .ok (.iinc 5 1, 3) := by decide +kernel
theorem dX0_below_30 : decode cX0_below 30 = .ok (.goto (-25), 3) := by decide +kernel
theorem dX0_below_33 : decode cX0_below 33 = .ok (.lload_n 3, 1) := by decide +kernel
theorem dX0_below_34 : decode cX0_below 34 = .ok (.lreturn, 1) := by decide +kernel
theorem dX0_isBelow_0 : decode cX0_isBelow 0 = .ok (.aload_n 0, 1) := by decide +kernel
theorem dX0_isBelow_1 : decode cX0_isBelow 1 = .ok (.iload_n 1, 1) := by decide +kernel
theorem dX0_isBelow_2 : decode cX0_isBelow 2 = .ok (.iload_n 2, 1) := by decide +kernel
theorem dX0_isBelow_3 : decode cX0_isBelow 3 = .ok (.iload_n 3, 1) := by decide +kernel
theorem dX0_isBelow_4 : decode cX0_isBelow 4 = .ok (.invokevirtual 19, 3) := by decide +kernel
theorem dX0_isBelow_7 : decode cX0_isBelow 7 = .ok (.iload 5, 2) := by decide +kernel
theorem dX0_isBelow_9 : decode cX0_isBelow 9 = .ok (.i2l, 1) := by decide +kernel
theorem dX0_isBelow_10 : decode cX0_isBelow 10 = .ok (.lmul, 1) := by decide +kernel
theorem dX0_isBelow_11 : decode cX0_isBelow 11 = .ok (.aload_n 0, 1) := by decide +kernel
theorem dX0_isBelow_12 : decode cX0_isBelow 12 = .ok (.iload_n 1, 1) := by decide +kernel
theorem dX0_isBelow_13 : decode cX0_isBelow 13 = .ok (.iload_n 3, 1) := by decide +kernel
theorem dX0_isBelow_14 : decode cX0_isBelow 14 = .ok (.invokevirtual 23, 3) := by decide +kernel
theorem dX0_isBelow_17 : decode cX0_isBelow 17 = .ok (.iload 4, 2) := by decide +kernel
theorem dX0_isBelow_19 : decode cX0_isBelow 19 = .ok (.i2l, 1) := by decide +kernel
theorem dX0_isBelow_20 : decode cX0_isBelow 20 = .ok (.lmul, 1) := by decide +kernel
theorem dX0_isBelow_21 : decode cX0_isBelow 21 = .ok (.lcmp, 1) := by decide +kernel
theorem dX0_isBelow_22 : decode cX0_isBelow 22 = .ok (.ifCond .ge 7, 3) := by decide +kernel
theorem dX0_isBelow_25 : decode cX0_isBelow 25 = .ok (.iconst 1, 1) := by decide +kernel
theorem dX0_isBelow_26 : decode cX0_isBelow 26 = .ok (.goto 4, 3) := by decide +kernel
theorem dX0_isBelow_29 : decode cX0_isBelow 29 = .ok (.iconst 0, 1) := by decide +kernel
theorem dX0_isBelow_30 : decode cX0_isBelow 30 = .ok (.ireturn, 1) := by decide +kernel
theorem dX0_inMillion_0 : decode cX0_inMillion 0 = .ok (.lconst 1, 1) := by decide +kernel
theorem dX0_inMillion_1 : decode cX0_inMillion 1 = .ok (.aload_n 0, 1) := by decide +kernel
theorem dX0_inMillion_2 : decode cX0_inMillion 2 = .ok (.iload_n 1, 1) := by decide +kernel
theorem dX0_inMillion_3 : decode cX0_inMillion 3 = .ok (.iload_n 3, 1) := by decide +kernel
theorem dX0_inMillion_4 : decode cX0_inMillion 4 = .ok (.invokevirtual 23, 3) := by decide +kernel
theorem dX0_inMillion_7 : decode cX0_inMillion 7 = .ok (.invokestatic 27, 3) := by decide +kernel
theorem dX0_inMillion_10 : decode cX0_inMillion 10 = .ok (.lstore 4, 2) := by decide +kernel
theorem dX0_inMillion_12 : decode cX0_inMillion 12 = .ok (.aload_n 0, 1) := by decide +kernel
theorem dX0_inMillion_13 : decode cX0_inMillion 13 = .ok (.iload_n 1, 1) := by decide +kernel
theorem dX0_inMillion_14 : decode cX0_inMillion 14 = .ok (.iload_n 2, 1) := by decide +kernel
theorem dX0_inMillion_15 : decode cX0_inMillion 15 = .ok (.iload_n 3, 1) := by decide +kernel
theorem dX0_inMillion_16 : decode cX0_inMillion 16 = .ok (.invokevirtual 19, 3) := by decide +kernel
theorem dX0_inMillion_19 : decode cX0_inMillion 19 = .ok (.ldc2_w 33, 3) := by decide +kernel
theorem dX0_inMillion_22 : decode cX0_inMillion 22 = .ok (.lmul, 1) := by decide +kernel
theorem dX0_inMillion_23 : decode cX0_inMillion 23 = .ok (.lstore 6, 2) := by decide +kernel
theorem dX0_inMillion_25 : decode cX0_inMillion 25 = .ok (.lload 6, 2) := by decide +kernel
theorem dX0_inMillion_27 : decode cX0_inMillion 27 = .ok (.lload 4, 2) := by decide +kernel
theorem dX0_inMillion_29 : decode cX0_inMillion 29 = .ok (.lrem, 1) := by decide +kernel
theorem dX0_inMillion_30 : decode cX0_inMillion 30 = .ok (.ldc2_w 33, 3) := by decide +kernel
theorem dX0_inMillion_33 : decode cX0_inMillion 33 = .ok (.lmul, 1) := by decide +kernel
theorem dX0_inMillion_34 : decode cX0_inMillion 34 = .ok (.lstore 8, 2) := by decide +kernel
theorem dX0_inMillion_36 : decode cX0_inMillion 36 = .ok (.lload 6, 2) := by decide +kernel
theorem dX0_inMillion_38 : decode cX0_inMillion 38 = .ok (.lload 4, 2) := by decide +kernel
theorem dX0_inMillion_40 : decode cX0_inMillion 40 = .ok (.ldiv, 1) := by decide +kernel
theorem dX0_inMillion_41 : decode cX0_inMillion 41 = .ok (.ldc2_w 33, 3) := by decide +kernel
theorem dX0_inMillion_44 : decode cX0_inMillion 44 = .ok (.lmul, 1) := by decide +kernel
theorem dX0_inMillion_45 : decode cX0_inMillion 45 = .ok (.lload 8, 2) := by decide +kernel
theorem dX0_inMillion_47 : decode cX0_inMillion 47 = .ok (.lload 4, 2) := by decide +kernel
theorem dX0_inMillion_49 : decode cX0_inMillion 49 = .ok (.ldiv, 1) := by decide +kernel
theorem dX0_inMillion_50 : decode cX0_inMillion 50 = .ok (.ladd, 1) := by decide +kernel
theorem dX0_inMillion_51 : decode cX0_inMillion 51 = .ok (.lstore 10, 2) := by decide +kernel
theorem dX0_inMillion_53 : decode cX0_inMillion 53 = .ok (.lload 8, 2) := by decide +kernel
theorem dX0_inMillion_55 : decode cX0_inMillion 55 = .ok (.lload 4, 2) := by decide +kernel
theorem dX0_inMillion_57 : decode cX0_inMillion 57 = .ok (.lrem, 1) := by decide +kernel
theorem dX0_inMillion_58 : decode cX0_inMillion 58 = .ok (.lconst 0, 1) := by decide +kernel
theorem dX0_inMillion_59 : decode cX0_inMillion 59 = .ok (.lcmp, 1) := by decide +kernel
theorem dX0_inMillion_60 : decode cX0_inMillion 60 = .ok (.ifCond .ne 8, 3) := by decide +kernel
theorem dX0_inMillion_63 : decode cX0_inMillion 63 = .ok (.lload 10, 2) := by decide +kernel
theorem dX0_inMillion_65 : decode cX0_inMillion 65 = .ok (.goto 7, 3) := by decide +kernel
theorem dX0_inMillion_68 : decode cX0_inMillion 68 = .ok (.lload 10, 2) := by decide +kernel
theorem dX0_inMillion_70 : decode cX0_inMillion 70 = .ok (.lconst 1, 1) := by decide +kernel
theorem dX0_inMillion_71 : decode cX0_inMillion 71 = .ok (.ladd, 1) := by decide +kernel
theorem dX0_inMillion_72 : decode cX0_inMillion 72 = .ok (.l2i, 1) := by decide +kernel
theorem dX0_inMillion_73 : decode cX0_inMillion 73 = .ok (.ireturn, 1) := by decide +kernel
theorem dX0_fillRow_0 : decode cX0_fillRow 0 = .ok (.iload_n 1, 1) := by decide +kernel
theorem dX0_fillRow_1 : decode cX0_fillRow 1 = .ok (.ifCond .eq 9, 3) := by decide +kernel
theorem dX0_fillRow_4 : decode cX0_fillRow 4 = .ok (.ldc2_w 35, 3) := by decide +kernel
theorem dX0_fillRow_7 : decode cX0_fillRow 7 = .ok (.goto 6, 3) := by decide +kernel
theorem dX0_fillRow_10 : decode cX0_fillRow 10 = .ok (.ldc2_w 37, 3) := by decide +kernel
theorem dX0_fillRow_13 : decode cX0_fillRow 13 = .ok (.lstore 4, 2) := by decide +kernel
theorem dX0_fillRow_15 : decode cX0_fillRow 15 = .ok (.iload_n 1, 1) := by decide +kernel
theorem dX0_fillRow_16 : decode cX0_fillRow 16 = .ok (.ifCond .eq 14, 3) := by decide +kernel
theorem dX0_fillRow_19 : decode cX0_fillRow 19 = .ok (.sipush 1000, 3) := by decide +kernel
theorem dX0_fillRow_22 : decode cX0_fillRow 22 = .ok (.iconst 2, 1) := by decide +kernel
theorem dX0_fillRow_23 : decode cX0_fillRow 23 = .ok (.iload_n 2, 1) := by decide +kernel
theorem dX0_fillRow_24 : decode cX0_fillRow 24 = .ok (.imul, 1) := by decide +kernel
theorem dX0_fillRow_25 : decode cX0_fillRow 25 = .ok (.iadd, 1) := by decide +kernel
theorem dX0_fillRow_26 : decode cX0_fillRow 26 = .ok (.i2l, 1) := by decide +kernel
theorem dX0_fillRow_27 : decode cX0_fillRow 27 = .ok (.goto 9, 3) := by decide +kernel
theorem dX0_fillRow_30 : decode cX0_fillRow 30 = .ok (.sipush 1000, 3) := by decide +kernel
theorem dX0_fillRow_33 : decode cX0_fillRow 33 = .ok (.iload_n 2, 1) := by decide +kernel
theorem dX0_fillRow_34 : decode cX0_fillRow 34 = .ok (.iadd, 1) := by decide +kernel
theorem dX0_fillRow_35 : decode cX0_fillRow 35 = .ok (.i2l, 1) := by decide +kernel
theorem dX0_fillRow_36 : decode cX0_fillRow 36 = .ok (.lstore 6, 2) := by decide +kernel
theorem dX0_fillRow_38 : decode cX0_fillRow 38 = .ok (.aload_n 0, 1) := by decide +kernel
theorem dX0_fillRow_39 : decode cX0_fillRow 39 = .ok (.getfield 11, 3) := by decide +kernel
theorem dX0_fillRow_42 : decode cX0_fillRow 42 = .ok (.lconst 0, 1) := by decide +kernel
theorem dX0_fillRow_43 : decode cX0_fillRow 43 = .ok (.invokestatic 39, 3) := by decide +kernel
theorem dX0_fillRow_46 : decode cX0_fillRow 46 = .ok (.aload_n 0, 1) := by decide +kernel
theorem dX0_fillRow_47 : decode cX0_fillRow 47 = .ok (.getfield 11, 3) := by decide +kernel
theorem dX0_fillRow_50 : decode cX0_fillRow 50 = .ok (.iconst 0, 1) := by decide +kernel
theorem dX0_fillRow_51 : decode cX0_fillRow 51 = .ok (.ldc2_w 45, 3) := by decide +kernel
theorem dX0_fillRow_54 : decode cX0_fillRow 54 = .ok (.lastore, 1) := by decide +kernel
theorem dX0_fillRow_55 : decode cX0_fillRow 55 = .ok (.iconst 1, 1) := by decide +kernel
theorem dX0_fillRow_56 : decode cX0_fillRow 56 = .ok (.istore 8, 2) := by decide +kernel
theorem dX0_fillRow_58 : decode cX0_fillRow 58 = .ok (.iload 8, 2) := by decide +kernel
theorem dX0_fillRow_60 : decode cX0_fillRow 60 = .ok (.iload_n 3, 1) := by decide +kernel
theorem dX0_fillRow_61 : decode cX0_fillRow 61 = .ok (.if_icmp .gt 95, 3) := by decide +kernel
theorem dX0_fillRow_64 : decode cX0_fillRow 64 = .ok (.iload 8, 2) := by decide +kernel
theorem dX0_fillRow_66 : decode cX0_fillRow 66 = .ok (.aload_n 0, 1) := by decide +kernel
theorem dX0_fillRow_67 : decode cX0_fillRow 67 = .ok (.getfield 11, 3) := by decide +kernel
theorem dX0_fillRow_70 : decode cX0_fillRow 70 = .ok (.arraylength, 1) := by decide +kernel
theorem dX0_fillRow_71 : decode cX0_fillRow 71 = .ok (.if_icmp .ge 85, 3) := by decide +kernel
theorem dX0_fillRow_74 : decode cX0_fillRow 74 = .ok (.iload 8, 2) := by decide +kernel
theorem dX0_fillRow_76 : decode cX0_fillRow 76 = .ok (.istore 9, 2) := by decide +kernel
theorem dX0_fillRow_78 : decode cX0_fillRow 78 = .ok (.iload 9, 2) := by decide +kernel
theorem dX0_fillRow_80 : decode cX0_fillRow 80 = .ok (.iconst 1, 1) := by decide +kernel
theorem dX0_fillRow_81 : decode cX0_fillRow 81 = .ok (.if_icmp .lt 48, 3) := by decide +kernel
theorem dX0_fillRow_84 : decode cX0_fillRow 84 = .ok (.aload_n 0, 1) := by decide +kernel
theorem dX0_fillRow_85 : decode cX0_fillRow 85 = .ok (.getfield 11, 3) := by decide +kernel
theorem dX0_fillRow_88 : decode cX0_fillRow 88 = .ok (.iload 9, 2) := by decide +kernel
theorem dX0_fillRow_90 : decode cX0_fillRow 90 = .ok (.aload_n 0, 1) := by decide +kernel
theorem dX0_fillRow_91 : decode cX0_fillRow 91 = .ok (.getfield 11, 3) := by decide +kernel
theorem dX0_fillRow_94 : decode cX0_fillRow 94 = .ok (.iload 9, 2) := by decide +kernel
theorem dX0_fillRow_96 : decode cX0_fillRow 96 = .ok (.laload, 1) := by decide +kernel
theorem dX0_fillRow_97 : decode cX0_fillRow 97 = .ok (.lload 4, 2) := by decide +kernel
theorem dX0_fillRow_99 : decode cX0_fillRow 99 = .ok (.lload 6, 2) := by decide +kernel
theorem dX0_fillRow_101 : decode cX0_fillRow 101 = .ok (.lsub, 1) := by decide +kernel
theorem dX0_fillRow_102 : decode cX0_fillRow 102 = .ok (.lmul, 1) := by decide +kernel
theorem dX0_fillRow_103 : decode cX0_fillRow 103 = .ok (.lload 4, 2) := by decide +kernel
theorem dX0_fillRow_105 : decode cX0_fillRow 105 = .ok (.ldiv, 1) := by decide +kernel
theorem dX0_fillRow_106 : decode cX0_fillRow 106 = .ok (.aload_n 0, 1) := by decide +kernel
theorem dX0_fillRow_107 : decode cX0_fillRow 107 = .ok (.getfield 11, 3) := by decide +kernel
theorem dX0_fillRow_110 : decode cX0_fillRow 110 = .ok (.iload 9, 2) := by decide +kernel
theorem dX0_fillRow_112 : decode cX0_fillRow 112 = .ok (.iconst 1, 1) := by decide +kernel
theorem dX0_fillRow_113 : decode cX0_fillRow 113 = .ok (.isub, 1) := by decide +kernel
theorem dX0_fillRow_114 : decode cX0_fillRow 114 = .ok (.laload, 1) := by decide +kernel
theorem dX0_fillRow_115 : decode cX0_fillRow 115 = .ok (.lload 6, 2) := by decide +kernel
theorem dX0_fillRow_117 : decode cX0_fillRow 117 = .ok (.lmul, 1) := by decide +kernel
theorem dX0_fillRow_118 : decode cX0_fillRow 118 = .ok (.lload 4, 2) := by decide +kernel
theorem dX0_fillRow_120 : decode cX0_fillRow 120 = .ok (.ldiv, 1) := by decide +kernel
theorem dX0_fillRow_121 : decode cX0_fillRow 121 = .ok (.ladd, 1) := by decide +kernel
theorem dX0_fillRow_122 : decode cX0_fillRow 122 = .ok (.lastore, 1) := by decide +kernel
theorem dX0_fillRow_123 : decode cX0_fillRow 123 = .ok (.iinc 9 (-1), 3) := by decide +kernel
theorem dX0_fillRow_126 : decode cX0_fillRow 126 = .ok (.goto (-48), 3) := by decide +kernel
theorem dX0_fillRow_129 : decode cX0_fillRow 129 = .ok (.aload_n 0, 1) := by decide +kernel
theorem dX0_fillRow_130 : decode cX0_fillRow 130 = .ok (.getfield 11, 3) := by decide +kernel
theorem dX0_fillRow_133 : decode cX0_fillRow 133 = .ok (.iconst 0, 1) := by decide +kernel
theorem dX0_fillRow_134 : decode cX0_fillRow 134 = .ok (.aload_n 0, 1) := by decide +kernel
theorem dX0_fillRow_135 : decode cX0_fillRow 135 = .ok (.getfield 11, 3) := by decide +kernel
theorem dX0_fillRow_138 : decode cX0_fillRow 138 = .ok (.iconst 0, 1) := by decide +kernel
theorem dX0_fillRow_139 : decode cX0_fillRow 139 = .ok (.laload, 1) := by decide +kernel
theorem dX0_fillRow_140 : decode cX0_fillRow 140 = .ok (.lload 4, 2) := by decide +kernel
theorem dX0_fillRow_142 : decode cX0_fillRow 142 = .ok (.lload 6, 2) := by decide +kernel
theorem dX0_fillRow_144 : decode cX0_fillRow 144 = .ok (.lsub, 1) := by decide +kernel
theorem dX0_fillRow_145 : decode cX0_fillRow 145 = .ok (.lmul, 1) := by decide +kernel
theorem dX0_fillRow_146 : decode cX0_fillRow 146 = .ok (.lload 4, 2) := by decide +kernel
theorem dX0_fillRow_148 : decode cX0_fillRow 148 = .ok (.ldiv, 1) := by decide +kernel
theorem dX0_fillRow_149 : decode cX0_fillRow 149 = .ok (.lastore, 1) := by decide +kernel
theorem dX0_fillRow_150 : decode cX0_fillRow 150 = .ok (.iinc 8 1, 3) := by decide +kernel
theorem dX0_fillRow_153 : decode cX0_fillRow 153 = .ok (.goto (-95), 3) := by decide +kernel
theorem dX0_fillRow_156 : decode cX0_fillRow 156 = .ok (.return_, 1) := by decide +kernel
theorem dX0_sum_0 : decode cX0_sum 0 = .ok (.aload_n 0, 1) := by decide +kernel
theorem dX0_sum_1 : decode cX0_sum 1 = .ok (.iload_n 1, 1) := by decide +kernel
theorem dX0_sum_2 : decode cX0_sum 2 = .ok (.iload_n 2, 1) := by decide +kernel
theorem dX0_sum_3 : decode cX0_sum 3 = .ok (.iload_n 3, 1) := by decide +kernel
theorem dX0_sum_4 : decode cX0_sum 4 = .ok (.invokevirtual 47, 3) := by decide +kernel
theorem dX0_sum_7 : decode cX0_sum 7 = .ok (.lconst 0, 1) := by decide +kernel
theorem dX0_sum_8 : decode cX0_sum 8 = .ok (.lstore 6, 2) := by decide +kernel
theorem dX0_sum_10 : decode cX0_sum 10 = .ok (.iconst 0, 1) := by decide +kernel
theorem dX0_sum_11 : decode cX0_sum 11 = .ok (.iload 4, 2) := by decide +kernel
theorem dX0_sum_13 : decode cX0_sum 13 = .ok (.invokestatic 51, 3) := by decide +kernel
theorem dX0_sum_16 : decode cX0_sum 16 = .ok (.istore 8, 2) := by decide +kernel
theorem dX0_sum_18 : decode cX0_sum 18 = .ok (.iload 8, 2) := by decide +kernel
theorem dX0_sum_20 : decode cX0_sum 20 = .ok (.iload 5, 2) := by decide +kernel
theorem dX0_sum_22 : decode cX0_sum 22 = .ok (.if_icmp .gt 31, 3) := by decide +kernel
theorem dX0_sum_25 : decode cX0_sum 25 = .ok (.iload 8, 2) := by decide +kernel
theorem dX0_sum_27 : decode cX0_sum 27 = .ok (.aload_n 0, 1) := by decide +kernel
theorem dX0_sum_28 : decode cX0_sum 28 = .ok (.getfield 11, 3) := by decide +kernel
theorem dX0_sum_31 : decode cX0_sum 31 = .ok (.arraylength, 1) := by decide +kernel
theorem dX0_sum_32 : decode cX0_sum 32 = .ok (.if_icmp .ge 21, 3) := by decide +kernel
theorem dX0_sum_35 : decode cX0_sum 35 = .ok (.lload 6, 2) := by decide +kernel
theorem dX0_sum_37 : decode cX0_sum 37 = .ok (.aload_n 0, 1) := by decide +kernel
theorem dX0_sum_38 : decode cX0_sum 38 = .ok (.getfield 11, 3) := by decide +kernel
theorem dX0_sum_41 : decode cX0_sum 41 = .ok (.iload 8, 2) := by decide +kernel
theorem dX0_sum_43 : decode cX0_sum 43 = .ok (.laload, 1) := by decide +kernel
theorem dX0_sum_44 : decode cX0_sum 44 = .ok (.ladd, 1) := by decide +kernel
theorem dX0_sum_45 : decode cX0_sum 45 = .ok (.lstore 6, 2) := by decide +kernel
theorem dX0_sum_47 : decode cX0_sum 47 = .ok (.iinc 8 1, 3) := by decide +kernel
theorem dX0_sum_50 : decode cX0_sum 50 = .ok (.goto (-32), 3) := by decide +kernel
theorem dX0_sum_53 : decode cX0_sum 53 = .ok (.lload 6, 2) := by decide +kernel
theorem dX0_sum_55 : decode cX0_sum 55 = .ok (.lreturn, 1) := by decide +kernel
theorem dX0_leastShare_0 : decode cX0_leastShare 0 = .ok (.iconst 0, 1) := by decide +kernel
theorem dX0_leastShare_1 : decode cX0_leastShare 1 = .ok (.istore 4, 2) := by decide +kernel
theorem dX0_leastShare_3 : decode cX0_leastShare 3 = .ok (.sipush 1001, 3) := by decide +kernel
theorem dX0_leastShare_6 : decode cX0_leastShare 6 = .ok (.istore 5, 2) := by decide +kernel
theorem dX0_leastShare_8 : decode cX0_leastShare 8 = .ok (.iconst 0, 1) := by decide +kernel
theorem dX0_leastShare_9 : decode cX0_leastShare 9 = .ok (.istore 6, 2) := by decide +kernel
theorem dX0_leastShare_11 : decode cX0_leastShare 11 = .ok (.iload 6, 2) := by decide +kernel
theorem dX0_leastShare_13 : decode cX0_leastShare 13 = .ok (.bipush 10, 2) := by decide +kernel
theorem dX0_leastShare_15 : decode cX0_leastShare 15 = .ok (.if_icmp .ge 55, 3) := by decide +kernel
theorem dX0_leastShare_18 : decode cX0_leastShare 18 = .ok (.iload 4, 2) := by decide +kernel
theorem dX0_leastShare_20 : decode cX0_leastShare 20 = .ok (.iload 5, 2) := by decide +kernel
theorem dX0_leastShare_22 : decode cX0_leastShare 22 = .ok (.if_icmp .ge 48, 3) := by decide +kernel
theorem dX0_leastShare_25 : decode cX0_leastShare 25 = .ok (.iload 4, 2) := by decide +kernel
theorem dX0_leastShare_27 : decode cX0_leastShare 27 = .ok (.iload 5, 2) := by decide +kernel
theorem dX0_leastShare_29 : decode cX0_leastShare 29 = .ok (.iadd, 1) := by decide +kernel
theorem dX0_leastShare_30 : decode cX0_leastShare 30 = .ok (.iconst 2, 1) := by decide +kernel
theorem dX0_leastShare_31 : decode cX0_leastShare 31 = .ok (.idiv, 1) := by decide +kernel
theorem dX0_leastShare_32 : decode cX0_leastShare 32 = .ok (.istore 7, 2) := by decide +kernel
theorem dX0_leastShare_34 : decode cX0_leastShare 34 = .ok (.aload_n 0, 1) := by decide +kernel
theorem dX0_leastShare_35 : decode cX0_leastShare 35 = .ok (.iload_n 1, 1) := by decide +kernel
theorem dX0_leastShare_36 : decode cX0_leastShare 36 = .ok (.iload 7, 2) := by decide +kernel
theorem dX0_leastShare_38 : decode cX0_leastShare 38 = .ok (.iload_n 3, 1) := by decide +kernel
theorem dX0_leastShare_39 : decode cX0_leastShare 39 = .ok (.iload_n 2, 1) := by decide +kernel
theorem dX0_leastShare_40 : decode cX0_leastShare 40 = .ok (.iload_n 3, 1) := by decide +kernel
theorem dX0_leastShare_41 : decode cX0_leastShare 41 = .ok (.invokevirtual 54, 3) := by decide +kernel
theorem dX0_leastShare_44 : decode cX0_leastShare 44 = .ok (.ldc2_w 58, 3) := by decide +kernel
theorem dX0_leastShare_47 : decode cX0_leastShare 47 = .ok (.lcmp, 1) := by decide +kernel
theorem dX0_leastShare_48 : decode cX0_leastShare 48 = .ok (.ifCond .ge 12, 3) := by decide +kernel
theorem dX0_leastShare_51 : decode cX0_leastShare 51 = .ok (.iload 7, 2) := by decide +kernel
theorem dX0_leastShare_53 : decode cX0_leastShare 53 = .ok (.iconst 1, 1) := by decide +kernel
theorem dX0_leastShare_54 : decode cX0_leastShare 54 = .ok (.iadd, 1) := by decide +kernel
theorem dX0_leastShare_55 : decode cX0_leastShare 55 = .ok (.istore 4, 2) := by decide +kernel
theorem dX0_leastShare_57 : decode cX0_leastShare 57 = .ok (.goto 7, 3) := by decide +kernel
theorem dX0_leastShare_60 : decode cX0_leastShare 60 = .ok (.iload 7, 2) := by decide +kernel
theorem dX0_leastShare_62 : decode cX0_leastShare 62 = .ok (.istore 5, 2) := by decide +kernel
theorem dX0_leastShare_64 : decode cX0_leastShare 64 = .ok (.iinc 6 1, 3) := by decide +kernel
theorem dX0_leastShare_67 : decode cX0_leastShare 67 = .ok (.goto (-56), 3) := by decide +kernel
theorem dX0_leastShare_70 : decode cX0_leastShare 70 = .ok (.iload 4, 2) := by decide +kernel
theorem dX0_leastShare_72 : decode cX0_leastShare 72 = .ok (.istore 6, 2) := by decide +kernel
theorem dX0_leastShare_74 : decode cX0_leastShare 74 = .ok (.iload 6, 2) := by decide +kernel
theorem dX0_leastShare_76 : decode cX0_leastShare 76 = .ok (.sipush 1000, 3) := by decide +kernel
theorem dX0_leastShare_79 : decode cX0_leastShare 79 = .ok (.if_icmp .gt 29, 3) := by decide +kernel
theorem dX0_leastShare_82 : decode cX0_leastShare 82 = .ok (.aload_n 0, 1) := by decide +kernel
theorem dX0_leastShare_83 : decode cX0_leastShare 83 = .ok (.iload_n 1, 1) := by decide +kernel
theorem dX0_leastShare_84 : decode cX0_leastShare 84 = .ok (.iload 6, 2) := by decide +kernel
theorem dX0_leastShare_86 : decode cX0_leastShare 86 = .ok (.iload_n 3, 1) := by decide +kernel
theorem dX0_leastShare_87 : decode cX0_leastShare 87 = .ok (.iload_n 2, 1) := by decide +kernel
theorem dX0_leastShare_88 : decode cX0_leastShare 88 = .ok (.iload_n 3, 1) := by decide +kernel
theorem dX0_leastShare_89 : decode cX0_leastShare 89 = .ok (.invokevirtual 54, 3) := by decide +kernel
theorem dX0_leastShare_92 : decode cX0_leastShare 92 = .ok (.ldc2_w 60, 3) := by decide +kernel
theorem dX0_leastShare_95 : decode cX0_leastShare 95 = .ok (.lcmp, 1) := by decide +kernel
theorem dX0_leastShare_96 : decode cX0_leastShare 96 = .ok (.ifCond .lt 6, 3) := by decide +kernel
theorem dX0_leastShare_99 : decode cX0_leastShare 99 = .ok (.iload 6, 2) := by decide +kernel
theorem dX0_leastShare_101 : decode cX0_leastShare 101 = .ok (.ireturn, 1) := by decide +kernel
theorem dX0_leastShare_102 : decode cX0_leastShare 102 = .ok (.iinc 6 1, 3) := by decide +kernel
theorem dX0_leastShare_105 : decode cX0_leastShare 105 = .ok (.goto (-31), 3) := by decide +kernel
theorem dX0_leastShare_108 : decode cX0_leastShare 108 = .ok (.sipush 1000, 3) := by decide +kernel
theorem dX0_leastShare_111 : decode cX0_leastShare 111 = .ok (.ireturn, 1) := by decide +kernel
theorem dX0_mostShare_0 : decode cX0_mostShare 0 = .ok (.iconst (-1), 1) := by decide +kernel
theorem dX0_mostShare_1 : decode cX0_mostShare 1 = .ok (.istore 4, 2) := by decide +kernel
theorem dX0_mostShare_3 : decode cX0_mostShare 3 = .ok (.sipush 1000, 3) := by decide +kernel
theorem dX0_mostShare_6 : decode cX0_mostShare 6 = .ok (.istore 5, 2) := by decide +kernel
theorem dX0_mostShare_8 : decode cX0_mostShare 8 = .ok (.iconst 0, 1) := by decide +kernel
theorem dX0_mostShare_9 : decode cX0_mostShare 9 = .ok (.istore 6, 2) := by decide +kernel
theorem dX0_mostShare_11 : decode cX0_mostShare 11 = .ok (.iload 6, 2) := by decide +kernel
theorem dX0_mostShare_13 : decode cX0_mostShare 13 = .ok (.bipush 10, 2) := by decide +kernel
theorem dX0_mostShare_15 : decode cX0_mostShare 15 = .ok (.if_icmp .ge 57, 3) := by decide +kernel
theorem dX0_mostShare_18 : decode cX0_mostShare 18 = .ok (.iload 4, 2) := by decide +kernel
theorem dX0_mostShare_20 : decode cX0_mostShare 20 = .ok (.iload 5, 2) := by decide +kernel
theorem dX0_mostShare_22 : decode cX0_mostShare 22 = .ok (.if_icmp .ge 50, 3) := by decide +kernel
theorem dX0_mostShare_25 : decode cX0_mostShare 25 = .ok (.iload 4, 2) := by decide +kernel
theorem dX0_mostShare_27 : decode cX0_mostShare 27 = .ok (.iload 5, 2) := by decide +kernel
theorem dX0_mostShare_29 : decode cX0_mostShare 29 = .ok (.iadd, 1) := by decide +kernel
theorem dX0_mostShare_30 : decode cX0_mostShare 30 = .ok (.iconst 1, 1) := by decide +kernel
theorem dX0_mostShare_31 : decode cX0_mostShare 31 = .ok (.iadd, 1) := by decide +kernel
theorem dX0_mostShare_32 : decode cX0_mostShare 32 = .ok (.iconst 2, 1) := by decide +kernel
theorem dX0_mostShare_33 : decode cX0_mostShare 33 = .ok (.idiv, 1) := by decide +kernel
theorem dX0_mostShare_34 : decode cX0_mostShare 34 = .ok (.istore 7, 2) := by decide +kernel
theorem dX0_mostShare_36 : decode cX0_mostShare 36 = .ok (.aload_n 0, 1) := by decide +kernel
theorem dX0_mostShare_37 : decode cX0_mostShare 37 = .ok (.iload_n 1, 1) := by decide +kernel
theorem dX0_mostShare_38 : decode cX0_mostShare 38 = .ok (.iload 7, 2) := by decide +kernel
theorem dX0_mostShare_40 : decode cX0_mostShare 40 = .ok (.iload_n 3, 1) := by decide +kernel
theorem dX0_mostShare_41 : decode cX0_mostShare 41 = .ok (.iconst 0, 1) := by decide +kernel
theorem dX0_mostShare_42 : decode cX0_mostShare 42 = .ok (.iload_n 2, 1) := by decide +kernel
theorem dX0_mostShare_43 : decode cX0_mostShare 43 = .ok (.invokevirtual 54, 3) := by decide +kernel
theorem dX0_mostShare_46 : decode cX0_mostShare 46 = .ok (.ldc2_w 58, 3) := by decide +kernel
theorem dX0_mostShare_49 : decode cX0_mostShare 49 = .ok (.lcmp, 1) := by decide +kernel
theorem dX0_mostShare_50 : decode cX0_mostShare 50 = .ok (.ifCond .ge 12, 3) := by decide +kernel
theorem dX0_mostShare_53 : decode cX0_mostShare 53 = .ok (.iload 7, 2) := by decide +kernel
theorem dX0_mostShare_55 : decode cX0_mostShare 55 = .ok (.iconst 1, 1) := by decide +kernel
theorem dX0_mostShare_56 : decode cX0_mostShare 56 = .ok (.isub, 1) := by decide +kernel
theorem dX0_mostShare_57 : decode cX0_mostShare 57 = .ok (.istore 5, 2) := by decide +kernel
theorem dX0_mostShare_59 : decode cX0_mostShare 59 = .ok (.goto 7, 3) := by decide +kernel
theorem dX0_mostShare_62 : decode cX0_mostShare 62 = .ok (.iload 7, 2) := by decide +kernel
theorem dX0_mostShare_64 : decode cX0_mostShare 64 = .ok (.istore 4, 2) := by decide +kernel
theorem dX0_mostShare_66 : decode cX0_mostShare 66 = .ok (.iinc 6 1, 3) := by decide +kernel
theorem dX0_mostShare_69 : decode cX0_mostShare 69 = .ok (.goto (-58), 3) := by decide +kernel
theorem dX0_mostShare_72 : decode cX0_mostShare 72 = .ok (.iload 5, 2) := by decide +kernel
theorem dX0_mostShare_74 : decode cX0_mostShare 74 = .ok (.istore 6, 2) := by decide +kernel
theorem dX0_mostShare_76 : decode cX0_mostShare 76 = .ok (.iload 6, 2) := by decide +kernel
theorem dX0_mostShare_78 : decode cX0_mostShare 78 = .ok (.ifCond .lt 29, 3) := by decide +kernel
theorem dX0_mostShare_81 : decode cX0_mostShare 81 = .ok (.aload_n 0, 1) := by decide +kernel
theorem dX0_mostShare_82 : decode cX0_mostShare 82 = .ok (.iload_n 1, 1) := by decide +kernel
theorem dX0_mostShare_83 : decode cX0_mostShare 83 = .ok (.iload 6, 2) := by decide +kernel
theorem dX0_mostShare_85 : decode cX0_mostShare 85 = .ok (.iload_n 3, 1) := by decide +kernel
theorem dX0_mostShare_86 : decode cX0_mostShare 86 = .ok (.iconst 0, 1) := by decide +kernel
theorem dX0_mostShare_87 : decode cX0_mostShare 87 = .ok (.iload_n 2, 1) := by decide +kernel
theorem dX0_mostShare_88 : decode cX0_mostShare 88 = .ok (.invokevirtual 54, 3) := by decide +kernel
theorem dX0_mostShare_91 : decode cX0_mostShare 91 = .ok (.ldc2_w 60, 3) := by decide +kernel
theorem dX0_mostShare_94 : decode cX0_mostShare 94 = .ok (.lcmp, 1) := by decide +kernel
theorem dX0_mostShare_95 : decode cX0_mostShare 95 = .ok (.ifCond .lt 6, 3) := by decide +kernel
theorem dX0_mostShare_98 : decode cX0_mostShare 98 = .ok (.iload 6, 2) := by decide +kernel
theorem dX0_mostShare_100 : decode cX0_mostShare 100 = .ok (.ireturn, 1) := by decide +kernel
theorem dX0_mostShare_101 : decode cX0_mostShare 101 = .ok (.iinc 6 (-1), 3) := by decide +kernel
theorem dX0_mostShare_104 : decode cX0_mostShare 104 = .ok (.goto (-28), 3) := by decide +kernel
theorem dX0_mostShare_107 : decode cX0_mostShare 107 = .ok (.iconst 0, 1) := by decide +kernel
theorem dX0_mostShare_108 : decode cX0_mostShare 108 = .ok (.ireturn, 1) := by decide +kernel
theorem dX0_tastersFor_0 : decode cX0_tastersFor 0 = .ok (.ldc2_w 45, 3) := by decide +kernel
theorem dX0_tastersFor_3 : decode cX0_tastersFor 3 = .ok (.sipush 1000, 3) := by decide +kernel
theorem dX0_tastersFor_6 : decode cX0_tastersFor 6 = .ok (.iload 4, 2) := by decide +kernel
theorem dX0_tastersFor_8 : decode cX0_tastersFor 8 = .ok (.isub, 1) := by decide +kernel
theorem dX0_tastersFor_9 : decode cX0_tastersFor 9 = .ok (.i2l, 1) := by decide +kernel
theorem dX0_tastersFor_10 : decode cX0_tastersFor 10 = .ok (.lmul, 1) := by decide +kernel
theorem dX0_tastersFor_11 : decode cX0_tastersFor 11 = .ok (.ldc2_w 33, 3) := by decide +kernel
theorem dX0_tastersFor_14 : decode cX0_tastersFor 14 = .ok (.ldiv, 1) := by decide +kernel
theorem dX0_tastersFor_15 : decode cX0_tastersFor 15 = .ok (.lstore 5, 2) := by decide +kernel
theorem dX0_tastersFor_17 : decode cX0_tastersFor 17 = .ok (.iconst 1, 1) := by decide +kernel
theorem dX0_tastersFor_18 : decode cX0_tastersFor 18 = .ok (.istore 7, 2) := by decide +kernel
theorem dX0_tastersFor_20 : decode cX0_tastersFor 20 = .ok (.iload 7, 2) := by decide +kernel
theorem dX0_tastersFor_22 : decode cX0_tastersFor 22 = .ok (.bipush 30, 2) := by decide +kernel
theorem dX0_tastersFor_24 : decode cX0_tastersFor 24 = .ok (.if_icmp .gt 33, 3) := by decide +kernel
theorem dX0_tastersFor_27 : decode cX0_tastersFor 27 = .ok (.aload_n 0, 1) := by decide +kernel
theorem dX0_tastersFor_28 : decode cX0_tastersFor 28 = .ok (.iload_n 1, 1) := by decide +kernel
theorem dX0_tastersFor_29 : decode cX0_tastersFor 29 = .ok (.iload_n 2, 1) := by decide +kernel
theorem dX0_tastersFor_30 : decode cX0_tastersFor 30 = .ok (.iload 7, 2) := by decide +kernel
theorem dX0_tastersFor_32 : decode cX0_tastersFor 32 = .ok (.invokevirtual 47, 3) := by decide +kernel
theorem dX0_tastersFor_35 : decode cX0_tastersFor 35 = .ok (.aload_n 0, 1) := by decide +kernel
theorem dX0_tastersFor_36 : decode cX0_tastersFor 36 = .ok (.iload_n 1, 1) := by decide +kernel
theorem dX0_tastersFor_37 : decode cX0_tastersFor 37 = .ok (.iload 7, 2) := by decide +kernel
theorem dX0_tastersFor_39 : decode cX0_tastersFor 39 = .ok (.iload_n 3, 1) := by decide +kernel
theorem dX0_tastersFor_40 : decode cX0_tastersFor 40 = .ok (.lload 5, 2) := by decide +kernel
theorem dX0_tastersFor_42 : decode cX0_tastersFor 42 = .ok (.invokevirtual 62, 3) := by decide +kernel
theorem dX0_tastersFor_45 : decode cX0_tastersFor 45 = .ok (.ifCond .eq 6, 3) := by decide +kernel
theorem dX0_tastersFor_48 : decode cX0_tastersFor 48 = .ok (.iload 7, 2) := by decide +kernel
theorem dX0_tastersFor_50 : decode cX0_tastersFor 50 = .ok (.ireturn, 1) := by decide +kernel
theorem dX0_tastersFor_51 : decode cX0_tastersFor 51 = .ok (.iinc 7 1, 3) := by decide +kernel
theorem dX0_tastersFor_54 : decode cX0_tastersFor 54 = .ok (.goto (-34), 3) := by decide +kernel
theorem dX0_tastersFor_57 : decode cX0_tastersFor 57 = .ok (.iconst (-1), 1) := by decide +kernel
theorem dX0_tastersFor_58 : decode cX0_tastersFor 58 = .ok (.ireturn, 1) := by decide +kernel
theorem dX0_isEnough_0 : decode cX0_isEnough 0 = .ok (.lconst 0, 1) := by decide +kernel
theorem dX0_isEnough_1 : decode cX0_isEnough 1 = .ok (.lstore 6, 2) := by decide +kernel
theorem dX0_isEnough_3 : decode cX0_isEnough 3 = .ok (.iload_n 2, 1) := by decide +kernel
theorem dX0_isEnough_4 : decode cX0_isEnough 4 = .ok (.istore 8, 2) := by decide +kernel
theorem dX0_isEnough_6 : decode cX0_isEnough 6 = .ok (.iload 8, 2) := by decide +kernel
theorem dX0_isEnough_8 : decode cX0_isEnough 8 = .ok (.ifCond .lt 46, 3) := by decide +kernel
theorem dX0_isEnough_11 : decode cX0_isEnough 11 = .ok (.aload_n 0, 1) := by decide +kernel
theorem dX0_isEnough_12 : decode cX0_isEnough 12 = .ok (.iload_n 1, 1) := by decide +kernel
theorem dX0_isEnough_13 : decode cX0_isEnough 13 = .ok (.iload 8, 2) := by decide +kernel
theorem dX0_isEnough_15 : decode cX0_isEnough 15 = .ok (.iload_n 2, 1) := by decide +kernel
theorem dX0_isEnough_16 : decode cX0_isEnough 16 = .ok (.iload_n 3, 1) := by decide +kernel
theorem dX0_isEnough_17 : decode cX0_isEnough 17 = .ok (.sipush 1000, 3) := by decide +kernel
theorem dX0_isEnough_20 : decode cX0_isEnough 20 = .ok (.invokevirtual 66, 3) := by decide +kernel
theorem dX0_isEnough_23 : decode cX0_isEnough 23 = .ok (.ifCond .eq 31, 3) := by decide +kernel
theorem dX0_isEnough_26 : decode cX0_isEnough 26 = .ok (.lload 6, 2) := by decide +kernel
theorem dX0_isEnough_28 : decode cX0_isEnough 28 = .ok (.aload_n 0, 1) := by decide +kernel
theorem dX0_isEnough_29 : decode cX0_isEnough 29 = .ok (.getfield 11, 3) := by decide +kernel
theorem dX0_isEnough_32 : decode cX0_isEnough 32 = .ok (.iload 8, 2) := by decide +kernel
theorem dX0_isEnough_34 : decode cX0_isEnough 34 = .ok (.laload, 1) := by decide +kernel
theorem dX0_isEnough_35 : decode cX0_isEnough 35 = .ok (.ladd, 1) := by decide +kernel
theorem dX0_isEnough_36 : decode cX0_isEnough 36 = .ok (.lstore 6, 2) := by decide +kernel
theorem dX0_isEnough_38 : decode cX0_isEnough 38 = .ok (.lload 6, 2) := by decide +kernel
theorem dX0_isEnough_40 : decode cX0_isEnough 40 = .ok (.lload 4, 2) := by decide +kernel
theorem dX0_isEnough_42 : decode cX0_isEnough 42 = .ok (.lcmp, 1) := by decide +kernel
theorem dX0_isEnough_43 : decode cX0_isEnough 43 = .ok (.ifCond .lt 5, 3) := by decide +kernel
theorem dX0_isEnough_46 : decode cX0_isEnough 46 = .ok (.iconst 1, 1) := by decide +kernel
theorem dX0_isEnough_47 : decode cX0_isEnough 47 = .ok (.ireturn, 1) := by decide +kernel
theorem dX0_isEnough_48 : decode cX0_isEnough 48 = .ok (.iinc 8 (-1), 3) := by decide +kernel
theorem dX0_isEnough_51 : decode cX0_isEnough 51 = .ok (.goto (-45), 3) := by decide +kernel
theorem dX0_isEnough_54 : decode cX0_isEnough 54 = .ok (.iconst 0, 1) := by decide +kernel
theorem dX0_isEnough_55 : decode cX0_isEnough 55 = .ok (.ireturn, 1) := by decide +kernel
theorem dX1_init_0 : decode cX1_init 0 = .ok (.aload_n 0, 1) := by decide +kernel
theorem dX1_init_1 : decode cX1_init 1 = .ok (.invokespecial 3, 3) := by decide +kernel
theorem dX1_init_4 : decode cX1_init 4 = .ok (.aload_n 0, 1) := by decide +kernel
theorem dX1_init_5 : decode cX1_init 5 = .ok (.bipush 64, 2) := by decide +kernel
theorem dX1_init_7 : decode cX1_init 7 = .ok (.newarray .int, 2) := by decide +kernel
theorem dX1_init_9 : decode cX1_init 9 = .ok (.putfield 11, 3) := by decide +kernel
theorem dX1_init_12 : decode cX1_init 12 = .ok (.aload_n 0, 1) := by decide +kernel
theorem dX1_init_13 : decode cX1_init 13 = .ok (.aload_n 1, 1) := by decide +kernel
theorem dX1_init_14 : decode cX1_init 14 = .ok (.putfield 15, 3) := by decide +kernel
theorem dX1_init_17 : decode cX1_init 17 = .ok (.aload_n 0, 1) := by decide +kernel
theorem dX1_init_18 : decode cX1_init 18 = .ok (.aload_n 2, 1) := by decide +kernel
theorem dX1_init_19 : decode cX1_init 19 = .ok (.putfield 19, 3) := by decide +kernel
theorem dX1_init_22 : decode cX1_init 22 = .ok (.return_, 1) := by decide +kernel
theorem dX1_holds_0 : decode cX1_holds 0 = .ok (.aload_n 0, 1) := by decide +kernel
theorem dX1_holds_1 : decode cX1_holds 1 = .ok (.getfield 19, 3) := by decide +kernel
theorem dX1_holds_4 : decode cX1_holds 4 = .ok (.aload_n 1, 1) := by decide +kernel
theorem dX1_holds_5 : decode cX1_holds 5 = .ok (.iload_n 2, 1) := by decide +kernel
theorem dX1_holds_6 : decode cX1_holds 6 = .ok (.invokevirtual 23, 3) := by decide +kernel
theorem dX1_holds_9 : decode cX1_holds 9 = .ok (.aload_n 0, 1) := by decide +kernel
theorem dX1_holds_10 : decode cX1_holds 10 = .ok (.iconst 0, 1) := by decide +kernel
theorem dX1_holds_11 : decode cX1_holds 11 = .ok (.putfield 29, 3) := by decide +kernel
theorem dX1_holds_14 : decode cX1_holds 14 = .ok (.iload_n 3, 1) := by decide +kernel
theorem dX1_holds_15 : decode cX1_holds 15 = .ok (.iconst 1, 1) := by decide +kernel
theorem dX1_holds_16 : decode cX1_holds 16 = .ok (.if_icmp .ge 7, 3) := by decide +kernel
theorem dX1_holds_19 : decode cX1_holds 19 = .ok (.iconst 0, 1) := by decide +kernel
theorem dX1_holds_20 : decode cX1_holds 20 = .ok (.goto 11, 3) := by decide +kernel
theorem dX1_holds_23 : decode cX1_holds 23 = .ok (.aload_n 1, 1) := by decide +kernel
theorem dX1_holds_24 : decode cX1_holds 24 = .ok (.getfield 33, 3) := by decide +kernel
theorem dX1_holds_27 : decode cX1_holds 27 = .ok (.iload_n 3, 1) := by decide +kernel
theorem dX1_holds_28 : decode cX1_holds 28 = .ok (.iconst 1, 1) := by decide +kernel
theorem dX1_holds_29 : decode cX1_holds 29 = .ok (.isub, 1) := by decide +kernel
theorem dX1_holds_30 : decode cX1_holds 30 = .ok (.iaload, 1) := by decide +kernel
theorem dX1_holds_31 : decode cX1_holds 31 = .ok (.istore 4, 2) := by decide +kernel
theorem dX1_holds_33 : decode cX1_holds 33 = .ok (.iload 4, 2) := by decide +kernel
theorem dX1_holds_35 : decode cX1_holds 35 = .ok (.istore 5, 2) := by decide +kernel
theorem dX1_holds_37 : decode cX1_holds 37 = .ok (.iload 5, 2) := by decide +kernel
theorem dX1_holds_39 : decode cX1_holds 39 = .ok (.aload_n 1, 1) := by decide +kernel
theorem dX1_holds_40 : decode cX1_holds 40 = .ok (.getfield 33, 3) := by decide +kernel
theorem dX1_holds_43 : decode cX1_holds 43 = .ok (.iload_n 3, 1) := by decide +kernel
theorem dX1_holds_44 : decode cX1_holds 44 = .ok (.iaload, 1) := by decide +kernel
theorem dX1_holds_45 : decode cX1_holds 45 = .ok (.if_icmp .ge 101, 3) := by decide +kernel
theorem dX1_holds_48 : decode cX1_holds 48 = .ok (.aload_n 1, 1) := by decide +kernel
theorem dX1_holds_49 : decode cX1_holds 49 = .ok (.getfield 38, 3) := by decide +kernel
theorem dX1_holds_52 : decode cX1_holds 52 = .ok (.iload 5, 2) := by decide +kernel
theorem dX1_holds_54 : decode cX1_holds 54 = .ok (.iaload, 1) := by decide +kernel
theorem dX1_holds_55 : decode cX1_holds 55 = .ok (.sipush 10000, 3) := by decide +kernel
theorem dX1_holds_58 : decode cX1_holds 58 = .ok (.idiv, 1) := by decide +kernel
theorem dX1_holds_59 : decode cX1_holds 59 = .ok (.istore 6, 2) := by decide +kernel
theorem dX1_holds_61 : decode cX1_holds 61 = .ok (.aload_n 1, 1) := by decide +kernel
theorem dX1_holds_62 : decode cX1_holds 62 = .ok (.getfield 38, 3) := by decide +kernel
theorem dX1_holds_65 : decode cX1_holds 65 = .ok (.iload 5, 2) := by decide +kernel
theorem dX1_holds_67 : decode cX1_holds 67 = .ok (.iaload, 1) := by decide +kernel
theorem dX1_holds_68 : decode cX1_holds 68 = .ok (.sipush 10000, 3) := by decide +kernel
theorem dX1_holds_71 : decode cX1_holds 71 = .ok (.irem, 1) := by decide +kernel
theorem dX1_holds_72 : decode cX1_holds 72 = .ok (.istore 7, 2) := by decide +kernel
theorem dX1_holds_74 : decode cX1_holds 74 = .ok (.iload 6, 2) := by decide +kernel
theorem dX1_holds_76 : decode cX1_holds 76 = .ok (.bipush 19, 2) := by decide +kernel
theorem dX1_holds_78 : decode cX1_holds 78 = .ok (.if_icmp .ne 16, 3) := by decide +kernel
theorem dX1_holds_81 : decode cX1_holds 81 = .ok (.aload_n 0, 1) := by decide +kernel
theorem dX1_holds_82 : decode cX1_holds 82 = .ok (.iconst 1, 1) := by decide +kernel
theorem dX1_holds_83 : decode cX1_holds 83 = .ok (.aload_n 0, 1) := by decide +kernel
theorem dX1_holds_84 : decode cX1_holds 84 = .ok (.invokevirtual 41, 3) := by decide +kernel
theorem dX1_holds_87 : decode cX1_holds 87 = .ok (.isub, 1) := by decide +kernel
theorem dX1_holds_88 : decode cX1_holds 88 = .ok (.invokevirtual 45, 3) := by decide +kernel
theorem dX1_holds_91 : decode cX1_holds 91 = .ok (.goto 49, 3) := by decide +kernel
theorem dX1_holds_94 : decode cX1_holds 94 = .ok (.iload 6, 2) := by decide +kernel
theorem dX1_holds_96 : decode cX1_holds 96 = .ok (.invokestatic 49, 3) := by decide +kernel
theorem dX1_holds_99 : decode cX1_holds 99 = .ok (.ifCond .eq 20, 3) := by decide +kernel
theorem dX1_holds_102 : decode cX1_holds 102 = .ok (.aload_n 0, 1) := by decide +kernel
theorem dX1_holds_103 : decode cX1_holds 103 = .ok (.aload_n 0, 1) := by decide +kernel
theorem dX1_holds_104 : decode cX1_holds 104 = .ok (.aload_n 1, 1) := by decide +kernel
theorem dX1_holds_105 : decode cX1_holds 105 = .ok (.iload_n 2, 1) := by decide +kernel
theorem dX1_holds_106 : decode cX1_holds 106 = .ok (.iload 6, 2) := by decide +kernel
theorem dX1_holds_108 : decode cX1_holds 108 = .ok (.iload 7, 2) := by decide +kernel
theorem dX1_holds_110 : decode cX1_holds 110 = .ok (.invokevirtual 53, 3) := by decide +kernel
theorem dX1_holds_113 : decode cX1_holds 113 = .ok (.invokevirtual 45, 3) := by decide +kernel
theorem dX1_holds_116 : decode cX1_holds 116 = .ok (.goto 24, 3) := by decide +kernel
theorem dX1_holds_119 : decode cX1_holds 119 = .ok (.aload_n 0, 1) := by decide +kernel
theorem dX1_holds_120 : decode cX1_holds 120 = .ok (.invokevirtual 41, 3) := by decide +kernel
theorem dX1_holds_123 : decode cX1_holds 123 = .ok (.istore 8, 2) := by decide +kernel
theorem dX1_holds_125 : decode cX1_holds 125 = .ok (.aload_n 0, 1) := by decide +kernel
theorem dX1_holds_126 : decode cX1_holds 126 = .ok (.iload 6, 2) := by decide +kernel
theorem dX1_holds_128 : decode cX1_holds 128 = .ok (.aload_n 0, 1) := by decide +kernel
theorem dX1_holds_129 : decode cX1_holds 129 = .ok (.invokevirtual 41, 3) := by decide +kernel
theorem dX1_holds_132 : decode cX1_holds 132 = .ok (.iload 8, 2) := by decide +kernel
theorem dX1_holds_134 : decode cX1_holds 134 = .ok (.invokestatic 57, 3) := by decide +kernel
theorem dX1_holds_137 : decode cX1_holds 137 = .ok (.invokevirtual 45, 3) := by decide +kernel
theorem dX1_holds_140 : decode cX1_holds 140 = .ok (.iinc 5 1, 3) := by decide +kernel
theorem dX1_holds_143 : decode cX1_holds 143 = .ok (.goto (-106), 3) := by decide +kernel
theorem dX1_holds_146 : decode cX1_holds 146 = .ok (.aload_n 0, 1) := by decide +kernel
theorem dX1_holds_147 : decode cX1_holds 147 = .ok (.invokevirtual 41, 3) := by decide +kernel
theorem dX1_holds_150 : decode cX1_holds 150 = .ok (.iconst 1, 1) := by decide +kernel
theorem dX1_holds_151 : decode cX1_holds 151 = .ok (.if_icmp .ne 7, 3) := by decide +kernel
theorem dX1_holds_154 : decode cX1_holds 154 = .ok (.iconst 1, 1) := by decide +kernel
theorem dX1_holds_155 : decode cX1_holds 155 = .ok (.goto 4, 3) := by decide +kernel
theorem dX1_holds_158 : decode cX1_holds 158 = .ok (.iconst 0, 1) := by decide +kernel
theorem dX1_holds_159 : decode cX1_holds 159 = .ok (.ireturn, 1) := by decide +kernel
theorem dX1_push_0 : decode cX1_push 0 = .ok (.aload_n 0, 1) := by decide +kernel
theorem dX1_push_1 : decode cX1_push 1 = .ok (.getfield 29, 3) := by decide +kernel
theorem dX1_push_4 : decode cX1_push 4 = .ok (.bipush 64, 2) := by decide +kernel
theorem dX1_push_6 : decode cX1_push 6 = .ok (.if_icmp .ge 23, 3) := by decide +kernel
theorem dX1_push_9 : decode cX1_push 9 = .ok (.aload_n 0, 1) := by decide +kernel
theorem dX1_push_10 : decode cX1_push 10 = .ok (.getfield 11, 3) := by decide +kernel
theorem dX1_push_13 : decode cX1_push 13 = .ok (.aload_n 0, 1) := by decide +kernel
theorem dX1_push_14 : decode cX1_push 14 = .ok (.getfield 29, 3) := by decide +kernel
theorem dX1_push_17 : decode cX1_push 17 = .ok (.iload_n 1, 1) := by decide +kernel
theorem dX1_push_18 : decode cX1_push 18 = .ok (.iastore, 1) := by decide +kernel
theorem dX1_push_19 : decode cX1_push 19 = .ok (.aload_n 0, 1) := by decide +kernel
theorem dX1_push_20 : decode cX1_push 20 = .ok (.dup, 1) := by decide +kernel
theorem dX1_push_21 : decode cX1_push 21 = .ok (.getfield 29, 3) := by decide +kernel
theorem dX1_push_24 : decode cX1_push 24 = .ok (.iconst 1, 1) := by decide +kernel
theorem dX1_push_25 : decode cX1_push 25 = .ok (.iadd, 1) := by decide +kernel
theorem dX1_push_26 : decode cX1_push 26 = .ok (.putfield 29, 3) := by decide +kernel
theorem dX1_push_29 : decode cX1_push 29 = .ok (.return_, 1) := by decide +kernel
theorem dX1_pop_0 : decode cX1_pop 0 = .ok (.aload_n 0, 1) := by decide +kernel
theorem dX1_pop_1 : decode cX1_pop 1 = .ok (.getfield 29, 3) := by decide +kernel
theorem dX1_pop_4 : decode cX1_pop 4 = .ok (.iconst 1, 1) := by decide +kernel
theorem dX1_pop_5 : decode cX1_pop 5 = .ok (.if_icmp .ge 5, 3) := by decide +kernel
theorem dX1_pop_8 : decode cX1_pop 8 = .ok (.iconst 0, 1) := by decide +kernel
theorem dX1_pop_9 : decode cX1_pop 9 = .ok (.ireturn, 1) := by decide +kernel
theorem dX1_pop_10 : decode cX1_pop 10 = .ok (.aload_n 0, 1) := by decide +kernel
theorem dX1_pop_11 : decode cX1_pop 11 = .ok (.dup, 1) := by decide +kernel
theorem dX1_pop_12 : decode cX1_pop 12 = .ok (.getfield 29, 3) := by decide +kernel
theorem dX1_pop_15 : decode cX1_pop 15 = .ok (.iconst 1, 1) := by decide +kernel
theorem dX1_pop_16 : decode cX1_pop 16 = .ok (.isub, 1) := by decide +kernel
theorem dX1_pop_17 : decode cX1_pop 17 = .ok (.putfield 29, 3) := by decide +kernel
theorem dX1_pop_20 : decode cX1_pop 20 = .ok (.aload_n 0, 1) := by decide +kernel
theorem dX1_pop_21 : decode cX1_pop 21 = .ok (.getfield 11, 3) := by decide +kernel
theorem dX1_pop_24 : decode cX1_pop 24 = .ok (.aload_n 0, 1) := by decide +kernel
theorem dX1_pop_25 : decode cX1_pop 25 = .ok (.getfield 29, 3) := by decide +kernel
theorem dX1_pop_28 : decode cX1_pop 28 = .ok (.iaload, 1) := by decide +kernel
theorem dX1_pop_29 : decode cX1_pop 29 = .ok (.ireturn, 1) := by decide +kernel
theorem dX1_isPart_0 : decode cX1_isPart 0 = .ok (.iload_n 0, 1) := by decide +kernel
theorem dX1_isPart_1 : decode cX1_isPart 1 = .ok (.bipush 32, 2) := by decide +kernel
theorem dX1_isPart_3 : decode cX1_isPart 3 = .ok (.if_icmp .eq 21, 3) := by decide +kernel
theorem dX1_isPart_6 : decode cX1_isPart 6 = .ok (.iload_n 0, 1) := by decide +kernel
theorem dX1_isPart_7 : decode cX1_isPart 7 = .ok (.bipush 31, 2) := by decide +kernel
theorem dX1_isPart_9 : decode cX1_isPart 9 = .ok (.if_icmp .eq 15, 3) := by decide +kernel
theorem dX1_isPart_12 : decode cX1_isPart 12 = .ok (.iload_n 0, 1) := by decide +kernel
theorem dX1_isPart_13 : decode cX1_isPart 13 = .ok (.bipush 21, 2) := by decide +kernel
theorem dX1_isPart_15 : decode cX1_isPart 15 = .ok (.if_icmp .lt 13, 3) := by decide +kernel
theorem dX1_isPart_18 : decode cX1_isPart 18 = .ok (.iload_n 0, 1) := by decide +kernel
theorem dX1_isPart_19 : decode cX1_isPart 19 = .ok (.bipush 28, 2) := by decide +kernel
theorem dX1_isPart_21 : decode cX1_isPart 21 = .ok (.if_icmp .gt 7, 3) := by decide +kernel
theorem dX1_isPart_24 : decode cX1_isPart 24 = .ok (.iconst 1, 1) := by decide +kernel
theorem dX1_isPart_25 : decode cX1_isPart 25 = .ok (.goto 4, 3) := by decide +kernel
theorem dX1_isPart_28 : decode cX1_isPart 28 = .ok (.iconst 0, 1) := by decide +kernel
theorem dX1_isPart_29 : decode cX1_isPart 29 = .ok (.ireturn, 1) := by decide +kernel
theorem dX1_part_0 : decode cX1_part 0 = .ok (.iload_n 3, 1) := by decide +kernel
theorem dX1_part_1 : decode cX1_part 1 = .ok (.tableswitch 175 21 32 #[108, 121, 134, 147, 161, 175, 66, 76, 175, 175, 87, 63], 63) := by decide +kernel
theorem dX1_part_64 : decode cX1_part 64 = .ok (.iload 4, 2) := by decide +kernel
theorem dX1_part_66 : decode cX1_part 66 = .ok (.ireturn, 1) := by decide +kernel
theorem dX1_part_67 : decode cX1_part 67 = .ok (.aload_n 0, 1) := by decide +kernel
theorem dX1_part_68 : decode cX1_part 68 = .ok (.getfield 19, 3) := by decide +kernel
theorem dX1_part_71 : decode cX1_part 71 = .ok (.iload 4, 2) := by decide +kernel
theorem dX1_part_73 : decode cX1_part 73 = .ok (.invokevirtual 61, 3) := by decide +kernel
theorem dX1_part_76 : decode cX1_part 76 = .ok (.ireturn, 1) := by decide +kernel
theorem dX1_part_77 : decode cX1_part 77 = .ok (.aload_n 0, 1) := by decide +kernel
theorem dX1_part_78 : decode cX1_part 78 = .ok (.getfield 19, 3) := by decide +kernel
theorem dX1_part_81 : decode cX1_part 81 = .ok (.getfield 65, 3) := by decide +kernel
theorem dX1_part_84 : decode cX1_part 84 = .ok (.iload 4, 2) := by decide +kernel
theorem dX1_part_86 : decode cX1_part 86 = .ok (.iaload, 1) := by decide +kernel
theorem dX1_part_87 : decode cX1_part 87 = .ok (.ireturn, 1) := by decide +kernel
theorem dX1_part_88 : decode cX1_part 88 = .ok (.aload_n 0, 1) := by decide +kernel
theorem dX1_part_89 : decode cX1_part 89 = .ok (.getfield 15, 3) := by decide +kernel
theorem dX1_part_92 : decode cX1_part 92 = .ok (.aload_n 1, 1) := by decide +kernel
theorem dX1_part_93 : decode cX1_part 93 = .ok (.iload 4, 2) := by decide +kernel
theorem dX1_part_95 : decode cX1_part 95 = .ok (.iload_n 2, 1) := by decide +kernel
theorem dX1_part_96 : decode cX1_part 96 = .ok (.iconst 5, 1) := by decide +kernel
theorem dX1_part_97 : decode cX1_part 97 = .ok (.invokevirtual 68, 3) := by decide +kernel
theorem dX1_part_100 : decode cX1_part 100 = .ok (.ifCond .le 7, 3) := by decide +kernel
theorem dX1_part_103 : decode cX1_part 103 = .ok (.iconst 1, 1) := by decide +kernel
theorem dX1_part_104 : decode cX1_part 104 = .ok (.goto 4, 3) := by decide +kernel
theorem dX1_part_107 : decode cX1_part 107 = .ok (.iconst 0, 1) := by decide +kernel
theorem dX1_part_108 : decode cX1_part 108 = .ok (.ireturn, 1) := by decide +kernel
theorem dX1_part_109 : decode cX1_part 109 = .ok (.aload_n 0, 1) := by decide +kernel
theorem dX1_part_110 : decode cX1_part 110 = .ok (.getfield 15, 3) := by decide +kernel
theorem dX1_part_113 : decode cX1_part 113 = .ok (.aload_n 1, 1) := by decide +kernel
theorem dX1_part_114 : decode cX1_part 114 = .ok (.iload 4, 2) := by decide +kernel
theorem dX1_part_116 : decode cX1_part 116 = .ok (.iload_n 2, 1) := by decide +kernel
theorem dX1_part_117 : decode cX1_part 117 = .ok (.iconst 0, 1) := by decide +kernel
theorem dX1_part_118 : decode cX1_part 118 = .ok (.invokevirtual 68, 3) := by decide +kernel
theorem dX1_part_121 : decode cX1_part 121 = .ok (.ireturn, 1) := by decide +kernel
theorem dX1_part_122 : decode cX1_part 122 = .ok (.aload_n 0, 1) := by decide +kernel
theorem dX1_part_123 : decode cX1_part 123 = .ok (.getfield 15, 3) := by decide +kernel
theorem dX1_part_126 : decode cX1_part 126 = .ok (.aload_n 1, 1) := by decide +kernel
theorem dX1_part_127 : decode cX1_part 127 = .ok (.iload 4, 2) := by decide +kernel
theorem dX1_part_129 : decode cX1_part 129 = .ok (.iload_n 2, 1) := by decide +kernel
theorem dX1_part_130 : decode cX1_part 130 = .ok (.iconst 1, 1) := by decide +kernel
theorem dX1_part_131 : decode cX1_part 131 = .ok (.invokevirtual 68, 3) := by decide +kernel
theorem dX1_part_134 : decode cX1_part 134 = .ok (.ireturn, 1) := by decide +kernel
theorem dX1_part_135 : decode cX1_part 135 = .ok (.aload_n 0, 1) := by decide +kernel
theorem dX1_part_136 : decode cX1_part 136 = .ok (.getfield 15, 3) := by decide +kernel
theorem dX1_part_139 : decode cX1_part 139 = .ok (.aload_n 1, 1) := by decide +kernel
theorem dX1_part_140 : decode cX1_part 140 = .ok (.iload 4, 2) := by decide +kernel
theorem dX1_part_142 : decode cX1_part 142 = .ok (.iload_n 2, 1) := by decide +kernel
theorem dX1_part_143 : decode cX1_part 143 = .ok (.iconst 2, 1) := by decide +kernel
theorem dX1_part_144 : decode cX1_part 144 = .ok (.invokevirtual 68, 3) := by decide +kernel
theorem dX1_part_147 : decode cX1_part 147 = .ok (.ireturn, 1) := by decide +kernel
theorem dX1_part_148 : decode cX1_part 148 = .ok (.aload_n 0, 1) := by decide +kernel
theorem dX1_part_149 : decode cX1_part 149 = .ok (.getfield 15, 3) := by decide +kernel
theorem dX1_part_152 : decode cX1_part 152 = .ok (.aload_n 1, 1) := by decide +kernel
theorem dX1_part_153 : decode cX1_part 153 = .ok (.iload 4, 2) := by decide +kernel
theorem dX1_part_155 : decode cX1_part 155 = .ok (.iload_n 2, 1) := by decide +kernel
theorem dX1_part_156 : decode cX1_part 156 = .ok (.bipush 9, 2) := by decide +kernel
theorem dX1_part_158 : decode cX1_part 158 = .ok (.invokevirtual 68, 3) := by decide +kernel
theorem dX1_part_161 : decode cX1_part 161 = .ok (.ireturn, 1) := by decide +kernel
theorem dX1_part_162 : decode cX1_part 162 = .ok (.aload_n 0, 1) := by decide +kernel
theorem dX1_part_163 : decode cX1_part 163 = .ok (.getfield 15, 3) := by decide +kernel
theorem dX1_part_166 : decode cX1_part 166 = .ok (.aload_n 1, 1) := by decide +kernel
theorem dX1_part_167 : decode cX1_part 167 = .ok (.iload 4, 2) := by decide +kernel
theorem dX1_part_169 : decode cX1_part 169 = .ok (.iload_n 2, 1) := by decide +kernel
theorem dX1_part_170 : decode cX1_part 170 = .ok (.bipush 7, 2) := by decide +kernel
theorem dX1_part_172 : decode cX1_part 172 = .ok (.invokevirtual 68, 3) := by decide +kernel
theorem dX1_part_175 : decode cX1_part 175 = .ok (.ireturn, 1) := by decide +kernel
theorem dX1_part_176 : decode cX1_part 176 = .ok (.aload_n 0, 1) := by decide +kernel
theorem dX1_part_177 : decode cX1_part 177 = .ok (.getfield 15, 3) := by decide +kernel
theorem dX1_part_180 : decode cX1_part 180 = .ok (.aload_n 1, 1) := by decide +kernel
theorem dX1_part_181 : decode cX1_part 181 = .ok (.iload 4, 2) := by decide +kernel
theorem dX1_part_183 : decode cX1_part 183 = .ok (.iload_n 2, 1) := by decide +kernel
theorem dX1_part_184 : decode cX1_part 184 = .ok (.bipush 8, 2) := by decide +kernel
theorem dX1_part_186 : decode cX1_part 186 = .ok (.invokevirtual 68, 3) := by decide +kernel
theorem dX1_part_189 : decode cX1_part 189 = .ok (.ireturn, 1) := by decide +kernel
theorem dX1_joined_0 : decode cX1_joined 0 = .ok (.iload_n 0, 1) := by decide +kernel
theorem dX1_joined_1 : decode cX1_joined 1 = .ok (.lookupswitch 179 #[(17, 91), (18, 95), (29, 173), (42, 150), (43, 132), (45, 141), (47, 159), (60, 99), (61, 121), (62, 110)], 91) := by decide +kernel
theorem dX1_joined_92 : decode cX1_joined 92 = .ok (.iload_n 1, 1) := by decide +kernel
theorem dX1_joined_93 : decode cX1_joined 93 = .ok (.iload_n 2, 1) := by decide +kernel
theorem dX1_joined_94 : decode cX1_joined 94 = .ok (.ior, 1) := by decide +kernel
theorem dX1_joined_95 : decode cX1_joined 95 = .ok (.ireturn, 1) := by decide +kernel
theorem dX1_joined_96 : decode cX1_joined 96 = .ok (.iload_n 1, 1) := by decide +kernel
theorem dX1_joined_97 : decode cX1_joined 97 = .ok (.iload_n 2, 1) := by decide +kernel
theorem dX1_joined_98 : decode cX1_joined 98 = .ok (.iand, 1) := by decide +kernel
theorem dX1_joined_99 : decode cX1_joined 99 = .ok (.ireturn, 1) := by decide +kernel
theorem dX1_joined_100 : decode cX1_joined 100 = .ok (.iload_n 1, 1) := by decide +kernel
theorem dX1_joined_101 : decode cX1_joined 101 = .ok (.iload_n 2, 1) := by decide +kernel
theorem dX1_joined_102 : decode cX1_joined 102 = .ok (.if_icmp .ge 7, 3) := by decide +kernel
theorem dX1_joined_105 : decode cX1_joined 105 = .ok (.iconst 1, 1) := by decide +kernel
theorem dX1_joined_106 : decode cX1_joined 106 = .ok (.goto 4, 3) := by decide +kernel
theorem dX1_joined_109 : decode cX1_joined 109 = .ok (.iconst 0, 1) := by decide +kernel
theorem dX1_joined_110 : decode cX1_joined 110 = .ok (.ireturn, 1) := by decide +kernel
theorem dX1_joined_111 : decode cX1_joined 111 = .ok (.iload_n 1, 1) := by decide +kernel
theorem dX1_joined_112 : decode cX1_joined 112 = .ok (.iload_n 2, 1) := by decide +kernel
theorem dX1_joined_113 : decode cX1_joined 113 = .ok (.if_icmp .le 7, 3) := by decide +kernel
theorem dX1_joined_116 : decode cX1_joined 116 = .ok (.iconst 1, 1) := by decide +kernel
theorem dX1_joined_117 : decode cX1_joined 117 = .ok (.goto 4, 3) := by decide +kernel
theorem dX1_joined_120 : decode cX1_joined 120 = .ok (.iconst 0, 1) := by decide +kernel
theorem dX1_joined_121 : decode cX1_joined 121 = .ok (.ireturn, 1) := by decide +kernel
theorem dX1_joined_122 : decode cX1_joined 122 = .ok (.iload_n 1, 1) := by decide +kernel
theorem dX1_joined_123 : decode cX1_joined 123 = .ok (.iload_n 2, 1) := by decide +kernel
theorem dX1_joined_124 : decode cX1_joined 124 = .ok (.if_icmp .ne 7, 3) := by decide +kernel
theorem dX1_joined_127 : decode cX1_joined 127 = .ok (.iconst 1, 1) := by decide +kernel
theorem dX1_joined_128 : decode cX1_joined 128 = .ok (.goto 4, 3) := by decide +kernel
theorem dX1_joined_131 : decode cX1_joined 131 = .ok (.iconst 0, 1) := by decide +kernel
theorem dX1_joined_132 : decode cX1_joined 132 = .ok (.ireturn, 1) := by decide +kernel
theorem dX1_joined_133 : decode cX1_joined 133 = .ok (.iload_n 1, 1) := by decide +kernel
theorem dX1_joined_134 : decode cX1_joined 134 = .ok (.i2l, 1) := by decide +kernel
theorem dX1_joined_135 : decode cX1_joined 135 = .ok (.iload_n 2, 1) := by decide +kernel
theorem dX1_joined_136 : decode cX1_joined 136 = .ok (.i2l, 1) := by decide +kernel
theorem dX1_joined_137 : decode cX1_joined 137 = .ok (.ladd, 1) := by decide +kernel
theorem dX1_joined_138 : decode cX1_joined 138 = .ok (.invokestatic 73, 3) := by decide +kernel
theorem dX1_joined_141 : decode cX1_joined 141 = .ok (.ireturn, 1) := by decide +kernel
theorem dX1_joined_142 : decode cX1_joined 142 = .ok (.iload_n 1, 1) := by decide +kernel
theorem dX1_joined_143 : decode cX1_joined 143 = .ok (.i2l, 1) := by decide +kernel
theorem dX1_joined_144 : decode cX1_joined 144 = .ok (.iload_n 2, 1) := by decide +kernel
theorem dX1_joined_145 : decode cX1_joined 145 = .ok (.i2l, 1) := by decide +kernel
theorem dX1_joined_146 : decode cX1_joined 146 = .ok (.lsub, 1) := by decide +kernel
theorem dX1_joined_147 : decode cX1_joined 147 = .ok (.invokestatic 73, 3) := by decide +kernel
theorem dX1_joined_150 : decode cX1_joined 150 = .ok (.ireturn, 1) := by decide +kernel
theorem dX1_joined_151 : decode cX1_joined 151 = .ok (.iload_n 1, 1) := by decide +kernel
theorem dX1_joined_152 : decode cX1_joined 152 = .ok (.i2l, 1) := by decide +kernel
theorem dX1_joined_153 : decode cX1_joined 153 = .ok (.iload_n 2, 1) := by decide +kernel
theorem dX1_joined_154 : decode cX1_joined 154 = .ok (.i2l, 1) := by decide +kernel
theorem dX1_joined_155 : decode cX1_joined 155 = .ok (.lmul, 1) := by decide +kernel
theorem dX1_joined_156 : decode cX1_joined 156 = .ok (.invokestatic 73, 3) := by decide +kernel
theorem dX1_joined_159 : decode cX1_joined 159 = .ok (.ireturn, 1) := by decide +kernel
theorem dX1_joined_160 : decode cX1_joined 160 = .ok (.iload_n 2, 1) := by decide +kernel
theorem dX1_joined_161 : decode cX1_joined 161 = .ok (.ifCond .ne 7, 3) := by decide +kernel
theorem dX1_joined_164 : decode cX1_joined 164 = .ok (.iconst 0, 1) := by decide +kernel
theorem dX1_joined_165 : decode cX1_joined 165 = .ok (.goto 8, 3) := by decide +kernel
theorem dX1_joined_168 : decode cX1_joined 168 = .ok (.iload_n 1, 1) := by decide +kernel
theorem dX1_joined_169 : decode cX1_joined 169 = .ok (.iload_n 2, 1) := by decide +kernel
theorem dX1_joined_170 : decode cX1_joined 170 = .ok (.invokestatic 77, 3) := by decide +kernel
theorem dX1_joined_173 : decode cX1_joined 173 = .ok (.ireturn, 1) := by decide +kernel
theorem dX1_joined_174 : decode cX1_joined 174 = .ok (.iload_n 1, 1) := by decide +kernel
theorem dX1_joined_175 : decode cX1_joined 175 = .ok (.iload_n 2, 1) := by decide +kernel
theorem dX1_joined_176 : decode cX1_joined 176 = .ok (.invokestatic 83, 3) := by decide +kernel
theorem dX1_joined_179 : decode cX1_joined 179 = .ok (.ireturn, 1) := by decide +kernel
theorem dX1_joined_180 : decode cX1_joined 180 = .ok (.iload_n 1, 1) := by decide +kernel
theorem dX1_joined_181 : decode cX1_joined 181 = .ok (.iload_n 2, 1) := by decide +kernel
theorem dX1_joined_182 : decode cX1_joined 182 = .ok (.invokestatic 86, 3) := by decide +kernel
theorem dX1_joined_185 : decode cX1_joined 185 = .ok (.ireturn, 1) := by decide +kernel
theorem dX1_bounded_0 : decode cX1_bounded 0 = .ok (.ldc2_w 89, 3) := by decide +kernel
theorem dX1_bounded_3 : decode cX1_bounded 3 = .ok (.ldc2_w 91, 3) := by decide +kernel
theorem dX1_bounded_6 : decode cX1_bounded 6 = .ok (.lload_n 0, 1) := by decide +kernel
theorem dX1_bounded_7 : decode cX1_bounded 7 = .ok (.invokestatic 93, 3) := by decide +kernel
theorem dX1_bounded_10 : decode cX1_bounded 10 = .ok (.invokestatic 96, 3) := by decide +kernel
theorem dX1_bounded_13 : decode cX1_bounded 13 = .ok (.l2i, 1) := by decide +kernel
theorem dX1_bounded_14 : decode cX1_bounded 14 = .ok (.ireturn, 1) := by decide +kernel
theorem dX2_init_0 : decode cX2_init 0 = .ok (.aload_n 0, 1) := by decide +kernel
theorem dX2_init_1 : decode cX2_init 1 = .ok (.invokespecial 3, 3) := by decide +kernel
theorem dX2_init_4 : decode cX2_init 4 = .ok (.aload_n 0, 1) := by decide +kernel
theorem dX2_init_5 : decode cX2_init 5 = .ok (.sipush 251, 3) := by decide +kernel
theorem dX2_init_8 : decode cX2_init 8 = .ok (.newarray .int, 2) := by decide +kernel
theorem dX2_init_10 : decode cX2_init 10 = .ok (.putfield 9, 3) := by decide +kernel
theorem dX2_init_13 : decode cX2_init 13 = .ok (.aload_n 0, 1) := by decide +kernel
theorem dX2_init_14 : decode cX2_init 14 = .ok (.sipush 251, 3) := by decide +kernel
theorem dX2_init_17 : decode cX2_init 17 = .ok (.newarray .int, 2) := by decide +kernel
theorem dX2_init_19 : decode cX2_init 19 = .ok (.putfield 15, 3) := by decide +kernel
theorem dX2_init_22 : decode cX2_init 22 = .ok (.aload_n 0, 1) := by decide +kernel
theorem dX2_init_23 : decode cX2_init 23 = .ok (.sipush 251, 3) := by decide +kernel
theorem dX2_init_26 : decode cX2_init 26 = .ok (.newarray .int, 2) := by decide +kernel
theorem dX2_init_28 : decode cX2_init 28 = .ok (.putfield 18, 3) := by decide +kernel
theorem dX2_init_31 : decode cX2_init 31 = .ok (.aload_n 0, 1) := by decide +kernel
theorem dX2_init_32 : decode cX2_init 32 = .ok (.sipush 251, 3) := by decide +kernel
theorem dX2_init_35 : decode cX2_init 35 = .ok (.newarray .int, 2) := by decide +kernel
theorem dX2_init_37 : decode cX2_init 37 = .ok (.putfield 21, 3) := by decide +kernel
theorem dX2_init_40 : decode cX2_init 40 = .ok (.aload_n 0, 1) := by decide +kernel
theorem dX2_init_41 : decode cX2_init 41 = .ok (.sipush 251, 3) := by decide +kernel
theorem dX2_init_44 : decode cX2_init 44 = .ok (.newarray .int, 2) := by decide +kernel
theorem dX2_init_46 : decode cX2_init 46 = .ok (.putfield 24, 3) := by decide +kernel
theorem dX2_init_49 : decode cX2_init 49 = .ok (.aload_n 0, 1) := by decide +kernel
theorem dX2_init_50 : decode cX2_init 50 = .ok (.sipush 251, 3) := by decide +kernel
theorem dX2_init_53 : decode cX2_init 53 = .ok (.newarray .int, 2) := by decide +kernel
theorem dX2_init_55 : decode cX2_init 55 = .ok (.putfield 27, 3) := by decide +kernel
theorem dX2_init_58 : decode cX2_init 58 = .ok (.return_, 1) := by decide +kernel
theorem dX2_clear_0 : decode cX2_clear 0 = .ok (.aload_n 0, 1) := by decide +kernel
theorem dX2_clear_1 : decode cX2_clear 1 = .ok (.iconst 0, 1) := by decide +kernel
theorem dX2_clear_2 : decode cX2_clear 2 = .ok (.putfield 30, 3) := by decide +kernel
theorem dX2_clear_5 : decode cX2_clear 5 = .ok (.return_, 1) := by decide +kernel
theorem dX2_isFull_0 : decode cX2_isFull 0 = .ok (.aload_n 0, 1) := by decide +kernel
theorem dX2_isFull_1 : decode cX2_isFull 1 = .ok (.getfield 30, 3) := by decide +kernel
theorem dX2_isFull_4 : decode cX2_isFull 4 = .ok (.sipush 250, 3) := by decide +kernel
theorem dX2_isFull_7 : decode cX2_isFull 7 = .ok (.if_icmp .lt 7, 3) := by decide +kernel
theorem dX2_isFull_10 : decode cX2_isFull 10 = .ok (.iconst 1, 1) := by decide +kernel
theorem dX2_isFull_11 : decode cX2_isFull 11 = .ok (.goto 4, 3) := by decide +kernel
theorem dX2_isFull_14 : decode cX2_isFull 14 = .ok (.iconst 0, 1) := by decide +kernel
theorem dX2_isFull_15 : decode cX2_isFull 15 = .ok (.ireturn, 1) := by decide +kernel
theorem dX2_note_0 : decode cX2_note 0 = .ok (.aload_n 0, 1) := by decide +kernel
theorem dX2_note_1 : decode cX2_note 1 = .ok (.invokevirtual 34, 3) := by decide +kernel
theorem dX2_note_4 : decode cX2_note 4 = .ok (.ifCond .eq 5, 3) := by decide +kernel
theorem dX2_note_7 : decode cX2_note 7 = .ok (.iconst (-1), 1) := by decide +kernel
theorem dX2_note_8 : decode cX2_note 8 = .ok (.ireturn, 1) := by decide +kernel
theorem dX2_note_9 : decode cX2_note 9 = .ok (.aload_n 0, 1) := by decide +kernel
theorem dX2_note_10 : decode cX2_note 10 = .ok (.dup, 1) := by decide +kernel
theorem dX2_note_11 : decode cX2_note 11 = .ok (.getfield 30, 3) := by decide +kernel
theorem dX2_note_14 : decode cX2_note 14 = .ok (.iconst 1, 1) := by decide +kernel
theorem dX2_note_15 : decode cX2_note 15 = .ok (.iadd, 1) := by decide +kernel
theorem dX2_note_16 : decode cX2_note 16 = .ok (.putfield 30, 3) := by decide +kernel
theorem dX2_note_19 : decode cX2_note 19 = .ok (.aload_n 0, 1) := by decide +kernel
theorem dX2_note_20 : decode cX2_note 20 = .ok (.getfield 9, 3) := by decide +kernel
theorem dX2_note_23 : decode cX2_note 23 = .ok (.aload_n 0, 1) := by decide +kernel
theorem dX2_note_24 : decode cX2_note 24 = .ok (.getfield 30, 3) := by decide +kernel
theorem dX2_note_27 : decode cX2_note 27 = .ok (.iload_n 1, 1) := by decide +kernel
theorem dX2_note_28 : decode cX2_note 28 = .ok (.iastore, 1) := by decide +kernel
theorem dX2_note_29 : decode cX2_note 29 = .ok (.aload_n 0, 1) := by decide +kernel
theorem dX2_note_30 : decode cX2_note 30 = .ok (.getfield 15, 3) := by decide +kernel
theorem dX2_note_33 : decode cX2_note 33 = .ok (.aload_n 0, 1) := by decide +kernel
theorem dX2_note_34 : decode cX2_note 34 = .ok (.getfield 30, 3) := by decide +kernel
theorem dX2_note_37 : decode cX2_note 37 = .ok (.iload_n 2, 1) := by decide +kernel
theorem dX2_note_38 : decode cX2_note 38 = .ok (.iastore, 1) := by decide +kernel
theorem dX2_note_39 : decode cX2_note 39 = .ok (.aload_n 0, 1) := by decide +kernel
theorem dX2_note_40 : decode cX2_note 40 = .ok (.getfield 18, 3) := by decide +kernel
theorem dX2_note_43 : decode cX2_note 43 = .ok (.aload_n 0, 1) := by decide +kernel
theorem dX2_note_44 : decode cX2_note 44 = .ok (.getfield 30, 3) := by decide +kernel
theorem dX2_note_47 : decode cX2_note 47 = .ok (.iload_n 3, 1) := by decide +kernel
theorem dX2_note_48 : decode cX2_note 48 = .ok (.iastore, 1) := by decide +kernel
theorem dX2_note_49 : decode cX2_note 49 = .ok (.aload_n 0, 1) := by decide +kernel
theorem dX2_note_50 : decode cX2_note 50 = .ok (.getfield 21, 3) := by decide +kernel
theorem dX2_note_53 : decode cX2_note 53 = .ok (.aload_n 0, 1) := by decide +kernel
theorem dX2_note_54 : decode cX2_note 54 = .ok (.getfield 30, 3) := by decide +kernel
theorem dX2_note_57 : decode cX2_note 57 = .ok (.iload 4, 2) := by decide +kernel
theorem dX2_note_59 : decode cX2_note 59 = .ok (.iastore, 1) := by decide +kernel
theorem dX2_note_60 : decode cX2_note 60 = .ok (.aload_n 0, 1) := by decide +kernel
theorem dX2_note_61 : decode cX2_note 61 = .ok (.getfield 24, 3) := by decide +kernel
theorem dX2_note_64 : decode cX2_note 64 = .ok (.aload_n 0, 1) := by decide +kernel
theorem dX2_note_65 : decode cX2_note 65 = .ok (.getfield 30, 3) := by decide +kernel
theorem dX2_note_68 : decode cX2_note 68 = .ok (.iload 5, 2) := by decide +kernel
theorem dX2_note_70 : decode cX2_note 70 = .ok (.iastore, 1) := by decide +kernel
theorem dX2_note_71 : decode cX2_note 71 = .ok (.aload_n 0, 1) := by decide +kernel
theorem dX2_note_72 : decode cX2_note 72 = .ok (.getfield 27, 3) := by decide +kernel
theorem dX2_note_75 : decode cX2_note 75 = .ok (.aload_n 0, 1) := by decide +kernel
theorem dX2_note_76 : decode cX2_note 76 = .ok (.getfield 30, 3) := by decide +kernel
theorem dX2_note_79 : decode cX2_note 79 = .ok (.iconst 0, 1) := by decide +kernel
theorem dX2_note_80 : decode cX2_note 80 = .ok (.iastore, 1) := by decide +kernel
theorem dX2_note_81 : decode cX2_note 81 = .ok (.aload_n 0, 1) := by decide +kernel
theorem dX2_note_82 : decode cX2_note 82 = .ok (.getfield 30, 3) := by decide +kernel
theorem dX2_note_85 : decode cX2_note 85 = .ok (.ireturn, 1) := by decide +kernel
theorem dX2_canBeVoid_0 : decode cX2_canBeVoid 0 = .ok (.iload_n 1, 1) := by decide +kernel
theorem dX2_canBeVoid_1 : decode cX2_canBeVoid 1 = .ok (.iconst 1, 1) := by decide +kernel
theorem dX2_canBeVoid_2 : decode cX2_canBeVoid 2 = .ok (.if_icmp .lt 34, 3) := by decide +kernel
theorem dX2_canBeVoid_5 : decode cX2_canBeVoid 5 = .ok (.iload_n 1, 1) := by decide +kernel
theorem dX2_canBeVoid_6 : decode cX2_canBeVoid 6 = .ok (.aload_n 0, 1) := by decide +kernel
theorem dX2_canBeVoid_7 : decode cX2_canBeVoid 7 = .ok (.getfield 30, 3) := by decide +kernel
theorem dX2_canBeVoid_10 : decode cX2_canBeVoid 10 = .ok (.if_icmp .gt 26, 3) := by decide +kernel
theorem dX2_canBeVoid_13 : decode cX2_canBeVoid 13 = .ok (.aload_n 0, 1) := by decide +kernel
theorem dX2_canBeVoid_14 : decode cX2_canBeVoid 14 = .ok (.getfield 9, 3) := by decide +kernel
theorem dX2_canBeVoid_17 : decode cX2_canBeVoid 17 = .ok (.iload_n 1, 1) := by decide +kernel
theorem dX2_canBeVoid_18 : decode cX2_canBeVoid 18 = .ok (.iaload, 1) := by decide +kernel
theorem dX2_canBeVoid_19 : decode cX2_canBeVoid 19 = .ok (.iconst 4, 1) := by decide +kernel
theorem dX2_canBeVoid_20 : decode cX2_canBeVoid 20 = .ok (.if_icmp .eq 16, 3) := by decide +kernel
theorem dX2_canBeVoid_23 : decode cX2_canBeVoid 23 = .ok (.aload_n 0, 1) := by decide +kernel
theorem dX2_canBeVoid_24 : decode cX2_canBeVoid 24 = .ok (.getfield 27, 3) := by decide +kernel
theorem dX2_canBeVoid_27 : decode cX2_canBeVoid 27 = .ok (.iload_n 1, 1) := by decide +kernel
theorem dX2_canBeVoid_28 : decode cX2_canBeVoid 28 = .ok (.iaload, 1) := by decide +kernel
theorem dX2_canBeVoid_29 : decode cX2_canBeVoid 29 = .ok (.ifCond .ne 7, 3) := by decide +kernel
theorem dX2_canBeVoid_32 : decode cX2_canBeVoid 32 = .ok (.iconst 1, 1) := by decide +kernel
theorem dX2_canBeVoid_33 : decode cX2_canBeVoid 33 = .ok (.goto 4, 3) := by decide +kernel
theorem dX2_canBeVoid_36 : decode cX2_canBeVoid 36 = .ok (.iconst 0, 1) := by decide +kernel
theorem dX2_canBeVoid_37 : decode cX2_canBeVoid 37 = .ok (.ireturn, 1) := by decide +kernel
theorem dX2_noteVoid_0 : decode cX2_noteVoid 0 = .ok (.aload_n 0, 1) := by decide +kernel
theorem dX2_noteVoid_1 : decode cX2_noteVoid 1 = .ok (.iconst 4, 1) := by decide +kernel
theorem dX2_noteVoid_2 : decode cX2_noteVoid 2 = .ok (.iload_n 1, 1) := by decide +kernel
theorem dX2_noteVoid_3 : decode cX2_noteVoid 3 = .ok (.iconst 0, 1) := by decide +kernel
theorem dX2_noteVoid_4 : decode cX2_noteVoid 4 = .ok (.iconst 0, 1) := by decide +kernel
theorem dX2_noteVoid_5 : decode cX2_noteVoid 5 = .ok (.iconst 0, 1) := by decide +kernel
theorem dX2_noteVoid_6 : decode cX2_noteVoid 6 = .ok (.invokevirtual 38, 3) := by decide +kernel
theorem dX2_noteVoid_9 : decode cX2_noteVoid 9 = .ok (.istore_n 2, 1) := by decide +kernel
theorem dX2_noteVoid_10 : decode cX2_noteVoid 10 = .ok (.iload_n 2, 1) := by decide +kernel
theorem dX2_noteVoid_11 : decode cX2_noteVoid 11 = .ok (.iconst (-1), 1) := by decide +kernel
theorem dX2_noteVoid_12 : decode cX2_noteVoid 12 = .ok (.if_icmp .eq 22, 3) := by decide +kernel
theorem dX2_noteVoid_15 : decode cX2_noteVoid 15 = .ok (.iload_n 1, 1) := by decide +kernel
theorem dX2_noteVoid_16 : decode cX2_noteVoid 16 = .ok (.iconst 1, 1) := by decide +kernel
theorem dX2_noteVoid_17 : decode cX2_noteVoid 17 = .ok (.if_icmp .lt 17, 3) := by decide +kernel
theorem dX2_noteVoid_20 : decode cX2_noteVoid 20 = .ok (.iload_n 1, 1) := by decide +kernel
theorem dX2_noteVoid_21 : decode cX2_noteVoid 21 = .ok (.sipush 250, 3) := by decide +kernel
theorem dX2_noteVoid_24 : decode cX2_noteVoid 24 = .ok (.if_icmp .gt 10, 3) := by decide +kernel
theorem dX2_noteVoid_27 : decode cX2_noteVoid 27 = .ok (.aload_n 0, 1) := by decide +kernel
theorem dX2_noteVoid_28 : decode cX2_noteVoid 28 = .ok (.getfield 27, 3) := by decide +kernel
theorem dX2_noteVoid_31 : decode cX2_noteVoid 31 = .ok (.iload_n 1, 1) := by decide +kernel
theorem dX2_noteVoid_32 : decode cX2_noteVoid 32 = .ok (.iload_n 2, 1) := by decide +kernel
theorem dX2_noteVoid_33 : decode cX2_noteVoid 33 = .ok (.iastore, 1) := by decide +kernel
theorem dX2_noteVoid_34 : decode cX2_noteVoid 34 = .ok (.iload_n 2, 1) := by decide +kernel
theorem dX2_noteVoid_35 : decode cX2_noteVoid 35 = .ok (.ireturn, 1) := by decide +kernel
theorem dX2_isKnown_0 : decode cX2_isKnown 0 = .ok (.aload_n 0, 1) := by decide +kernel
theorem dX2_isKnown_1 : decode cX2_isKnown 1 = .ok (.getfield 9, 3) := by decide +kernel
theorem dX2_isKnown_4 : decode cX2_isKnown 4 = .ok (.iload_n 1, 1) := by decide +kernel
theorem dX2_isKnown_5 : decode cX2_isKnown 5 = .ok (.iaload, 1) := by decide +kernel
theorem dX2_isKnown_6 : decode cX2_isKnown 6 = .ok (.iload_n 2, 1) := by decide +kernel
theorem dX2_isKnown_7 : decode cX2_isKnown 7 = .ok (.if_icmp .ne 26, 3) := by decide +kernel
theorem dX2_isKnown_10 : decode cX2_isKnown 10 = .ok (.aload_n 0, 1) := by decide +kernel
theorem dX2_isKnown_11 : decode cX2_isKnown 11 = .ok (.getfield 27, 3) := by decide +kernel
theorem dX2_isKnown_14 : decode cX2_isKnown 14 = .ok (.iload_n 1, 1) := by decide +kernel
theorem dX2_isKnown_15 : decode cX2_isKnown 15 = .ok (.iaload, 1) := by decide +kernel
theorem dX2_isKnown_16 : decode cX2_isKnown 16 = .ok (.ifCond .eq 13, 3) := by decide +kernel
theorem dX2_isKnown_19 : decode cX2_isKnown 19 = .ok (.aload_n 0, 1) := by decide +kernel
theorem dX2_isKnown_20 : decode cX2_isKnown 20 = .ok (.getfield 27, 3) := by decide +kernel
theorem dX2_isKnown_23 : decode cX2_isKnown 23 = .ok (.iload_n 1, 1) := by decide +kernel
theorem dX2_isKnown_24 : decode cX2_isKnown 24 = .ok (.iaload, 1) := by decide +kernel
theorem dX2_isKnown_25 : decode cX2_isKnown 25 = .ok (.iload_n 3, 1) := by decide +kernel
theorem dX2_isKnown_26 : decode cX2_isKnown 26 = .ok (.if_icmp .le 7, 3) := by decide +kernel
theorem dX2_isKnown_29 : decode cX2_isKnown 29 = .ok (.iconst 1, 1) := by decide +kernel
theorem dX2_isKnown_30 : decode cX2_isKnown 30 = .ok (.goto 4, 3) := by decide +kernel
theorem dX2_isKnown_33 : decode cX2_isKnown 33 = .ok (.iconst 0, 1) := by decide +kernel
theorem dX2_isKnown_34 : decode cX2_isKnown 34 = .ok (.ireturn, 1) := by decide +kernel
theorem dX3_init_0 : decode cX3_init 0 = .ok (.aload_n 0, 1) := by decide +kernel
theorem dX3_init_1 : decode cX3_init 1 = .ok (.invokespecial 3, 3) := by decide +kernel
theorem dX3_init_4 : decode cX3_init 4 = .ok (.aload_n 0, 1) := by decide +kernel
theorem dX3_init_5 : decode cX3_init 5 = .ok (.bipush 9, 2) := by decide +kernel
theorem dX3_init_7 : decode cX3_init 7 = .ok (.putfield 9, 3) := by decide +kernel
theorem dX3_init_10 : decode cX3_init 10 = .ok (.aload_n 0, 1) := by decide +kernel
theorem dX3_init_11 : decode cX3_init 11 = .ok (.iconst (-1), 1) := by decide +kernel
theorem dX3_init_12 : decode cX3_init 12 = .ok (.putfield 15, 3) := by decide +kernel
theorem dX3_init_15 : decode cX3_init 15 = .ok (.aload_n 0, 1) := by decide +kernel
theorem dX3_init_16 : decode cX3_init 16 = .ok (.bipush 14, 2) := by decide +kernel
theorem dX3_init_18 : decode cX3_init 18 = .ok (.newarray .long, 2) := by decide +kernel
theorem dX3_init_20 : decode cX3_init 20 = .ok (.putfield 18, 3) := by decide +kernel
theorem dX3_init_23 : decode cX3_init 23 = .ok (.aload_n 0, 1) := by decide +kernel
theorem dX3_init_24 : decode cX3_init 24 = .ok (.iconst 4, 1) := by decide +kernel
theorem dX3_init_25 : decode cX3_init 25 = .ok (.newarray .boolean, 2) := by decide +kernel
theorem dX3_init_27 : decode cX3_init 27 = .ok (.putfield 22, 3) := by decide +kernel
theorem dX3_init_30 : decode cX3_init 30 = .ok (.aload_n 0, 1) := by decide +kernel
theorem dX3_init_31 : decode cX3_init 31 = .ok (.iconst 4, 1) := by decide +kernel
theorem dX3_init_32 : decode cX3_init 32 = .ok (.newarray .int, 2) := by decide +kernel
theorem dX3_init_34 : decode cX3_init 34 = .ok (.putfield 26, 3) := by decide +kernel
theorem dX3_init_37 : decode cX3_init 37 = .ok (.aload_n 0, 1) := by decide +kernel
theorem dX3_init_38 : decode cX3_init 38 = .ok (.bipush 20, 2) := by decide +kernel
theorem dX3_init_40 : decode cX3_init 40 = .ok (.newarray .int, 2) := by decide +kernel
theorem dX3_init_42 : decode cX3_init 42 = .ok (.putfield 30, 3) := by decide +kernel
theorem dX3_init_45 : decode cX3_init 45 = .ok (.aload_n 0, 1) := by decide +kernel
theorem dX3_init_46 : decode cX3_init 46 = .ok (.bipush 20, 2) := by decide +kernel
theorem dX3_init_48 : decode cX3_init 48 = .ok (.newarray .int, 2) := by decide +kernel
theorem dX3_init_50 : decode cX3_init 50 = .ok (.putfield 33, 3) := by decide +kernel
theorem dX3_init_53 : decode cX3_init 53 = .ok (.aload_n 0, 1) := by decide +kernel
theorem dX3_init_54 : decode cX3_init 54 = .ok (.bipush 20, 2) := by decide +kernel
theorem dX3_init_56 : decode cX3_init 56 = .ok (.newarray .int, 2) := by decide +kernel
theorem dX3_init_58 : decode cX3_init 58 = .ok (.putfield 36, 3) := by decide +kernel
theorem dX3_init_61 : decode cX3_init 61 = .ok (.aload_n 0, 1) := by decide +kernel
theorem dX3_init_62 : decode cX3_init 62 = .ok (.sipush 360, 3) := by decide +kernel
theorem dX3_init_65 : decode cX3_init 65 = .ok (.newarray .int, 2) := by decide +kernel
theorem dX3_init_67 : decode cX3_init 67 = .ok (.putfield 39, 3) := by decide +kernel
theorem dX3_init_70 : decode cX3_init 70 = .ok (.aload_n 0, 1) := by decide +kernel
theorem dX3_init_71 : decode cX3_init 71 = .ok (.sipush 700, 3) := by decide +kernel
theorem dX3_init_74 : decode cX3_init 74 = .ok (.newarray .int, 2) := by decide +kernel
theorem dX3_init_76 : decode cX3_init 76 = .ok (.putfield 42, 3) := by decide +kernel
theorem dX3_init_79 : decode cX3_init 79 = .ok (.aload_n 0, 1) := by decide +kernel
theorem dX3_init_80 : decode cX3_init 80 = .ok (.bipush 8, 2) := by decide +kernel
theorem dX3_init_82 : decode cX3_init 82 = .ok (.newarray .int, 2) := by decide +kernel
theorem dX3_init_84 : decode cX3_init 84 = .ok (.putfield 45, 3) := by decide +kernel
theorem dX3_init_87 : decode cX3_init 87 = .ok (.return_, 1) := by decide +kernel
theorem dX3_clear_0 : decode cX3_clear 0 = .ok (.aload_n 0, 1) := by decide +kernel
theorem dX3_clear_1 : decode cX3_clear 1 = .ok (.iconst 0, 1) := by decide +kernel
theorem dX3_clear_2 : decode cX3_clear 2 = .ok (.putfield 48, 3) := by decide +kernel
theorem dX3_clear_5 : decode cX3_clear 5 = .ok (.aload_n 0, 1) := by decide +kernel
theorem dX3_clear_6 : decode cX3_clear 6 = .ok (.iconst 0, 1) := by decide +kernel
theorem dX3_clear_7 : decode cX3_clear 7 = .ok (.putfield 51, 3) := by decide +kernel
theorem dX3_clear_10 : decode cX3_clear 10 = .ok (.aload_n 0, 1) := by decide +kernel
theorem dX3_clear_11 : decode cX3_clear 11 = .ok (.iconst 0, 1) := by decide +kernel
theorem dX3_clear_12 : decode cX3_clear 12 = .ok (.putfield 54, 3) := by decide +kernel
theorem dX3_clear_15 : decode cX3_clear 15 = .ok (.aload_n 0, 1) := by decide +kernel
theorem dX3_clear_16 : decode cX3_clear 16 = .ok (.bipush 9, 2) := by decide +kernel
theorem dX3_clear_18 : decode cX3_clear 18 = .ok (.putfield 9, 3) := by decide +kernel
theorem dX3_clear_21 : decode cX3_clear 21 = .ok (.aload_n 0, 1) := by decide +kernel
theorem dX3_clear_22 : decode cX3_clear 22 = .ok (.iconst 0, 1) := by decide +kernel
theorem dX3_clear_23 : decode cX3_clear 23 = .ok (.putfield 57, 3) := by decide +kernel
theorem dX3_clear_26 : decode cX3_clear 26 = .ok (.aload_n 0, 1) := by decide +kernel
theorem dX3_clear_27 : decode cX3_clear 27 = .ok (.iconst (-1), 1) := by decide +kernel
theorem dX3_clear_28 : decode cX3_clear 28 = .ok (.putfield 15, 3) := by decide +kernel
theorem dX3_clear_31 : decode cX3_clear 31 = .ok (.aload_n 0, 1) := by decide +kernel
theorem dX3_clear_32 : decode cX3_clear 32 = .ok (.iconst 0, 1) := by decide +kernel
theorem dX3_clear_33 : decode cX3_clear 33 = .ok (.putfield 61, 3) := by decide +kernel
theorem dX3_clear_36 : decode cX3_clear 36 = .ok (.return_, 1) := by decide +kernel
theorem dX3_places_0 : decode cX3_places 0 = .ok (.aload_n 0, 1) := by decide +kernel
theorem dX3_places_1 : decode cX3_places 1 = .ok (.getfield 22, 3) := by decide +kernel
theorem dX3_places_4 : decode cX3_places 4 = .ok (.iload_n 1, 1) := by decide +kernel
theorem dX3_places_5 : decode cX3_places 5 = .ok (.baload, 1) := by decide +kernel
theorem dX3_places_6 : decode cX3_places 6 = .ok (.ifCond .eq 7, 3) := by decide +kernel
theorem dX3_places_9 : decode cX3_places 9 = .ok (.iconst 3, 1) := by decide +kernel
theorem dX3_places_10 : decode cX3_places 10 = .ok (.goto 4, 3) := by decide +kernel
theorem dX3_places_13 : decode cX3_places 13 = .ok (.iconst 2, 1) := by decide +kernel
theorem dX3_places_14 : decode cX3_places 14 = .ok (.ireturn, 1) := by decide +kernel
theorem dX3_cups_0 : decode cX3_cups 0 = .ok (.bipush 30, 2) := by decide +kernel
theorem dX3_cups_2 : decode cX3_cups 2 = .ok (.aload_n 0, 1) := by decide +kernel
theorem dX3_cups_3 : decode cX3_cups 3 = .ok (.iload_n 1, 1) := by decide +kernel
theorem dX3_cups_4 : decode cX3_cups 4 = .ok (.invokevirtual 64, 3) := by decide +kernel
theorem dX3_cups_7 : decode cX3_cups 7 = .ok (.imul, 1) := by decide +kernel
theorem dX3_cups_8 : decode cX3_cups 8 = .ok (.ireturn, 1) := by decide +kernel
theorem dX3_allLooks_0 : decode cX3_allLooks 0 = .ok (.iconst 0, 1) := by decide +kernel
theorem dX3_allLooks_1 : decode cX3_allLooks 1 = .ok (.istore_n 1, 1) := by decide +kernel
theorem dX3_allLooks_2 : decode cX3_allLooks 2 = .ok (.iconst 0, 1) := by decide +kernel
theorem dX3_allLooks_3 : decode cX3_allLooks 3 = .ok (.istore_n 2, 1) := by decide +kernel
theorem dX3_allLooks_4 : decode cX3_allLooks 4 = .ok (.iload_n 2, 1) := by decide +kernel
theorem dX3_allLooks_5 : decode cX3_allLooks 5 = .ok (.aload_n 0, 1) := by decide +kernel
theorem dX3_allLooks_6 : decode cX3_allLooks 6 = .ok (.getfield 51, 3) := by decide +kernel
theorem dX3_allLooks_9 : decode cX3_allLooks 9 = .ok (.if_icmp .ge 18, 3) := by decide +kernel
theorem dX3_allLooks_12 : decode cX3_allLooks 12 = .ok (.iload_n 1, 1) := by decide +kernel
theorem dX3_allLooks_13 : decode cX3_allLooks 13 = .ok (.aload_n 0, 1) := by decide +kernel
theorem dX3_allLooks_14 : decode cX3_allLooks 14 = .ok (.getfield 26, 3) := by decide +kernel
theorem dX3_allLooks_17 : decode cX3_allLooks 17 = .ok (.iload_n 2, 1) := by decide +kernel
theorem dX3_allLooks_18 : decode cX3_allLooks 18 = .ok (.iaload, 1) := by decide +kernel
theorem dX3_allLooks_19 : decode cX3_allLooks 19 = .ok (.iadd, 1) := by decide +kernel
theorem dX3_allLooks_20 : decode cX3_allLooks 20 = .ok (.istore_n 1, 1) := by decide +kernel
theorem dX3_allLooks_21 : decode cX3_allLooks 21 = .ok (.iinc 2 1, 3) := by decide +kernel
theorem dX3_allLooks_24 : decode cX3_allLooks 24 = .ok (.goto (-20), 3) := by decide +kernel
theorem dX3_allLooks_27 : decode cX3_allLooks 27 = .ok (.iload_n 1, 1) := by decide +kernel
theorem dX3_allLooks_28 : decode cX3_allLooks 28 = .ok (.ireturn, 1) := by decide +kernel
theorem dX3_productNamed_0 : decode cX3_productNamed 0 = .ok (.iconst 0, 1) := by decide +kernel
theorem dX3_productNamed_1 : decode cX3_productNamed 1 = .ok (.istore_n 3, 1) := by decide +kernel
theorem dX3_productNamed_2 : decode cX3_productNamed 2 = .ok (.iload_n 3, 1) := by decide +kernel
theorem dX3_productNamed_3 : decode cX3_productNamed 3 = .ok (.aload_n 0, 1) := by decide +kernel
theorem dX3_productNamed_4 : decode cX3_productNamed 4 = .ok (.getfield 48, 3) := by decide +kernel
theorem dX3_productNamed_7 : decode cX3_productNamed 7 = .ok (.if_icmp .ge 22, 3) := by decide +kernel
theorem dX3_productNamed_10 : decode cX3_productNamed 10 = .ok (.aload_n 0, 1) := by decide +kernel
theorem dX3_productNamed_11 : decode cX3_productNamed 11 = .ok (.getfield 18, 3) := by decide +kernel
theorem dX3_productNamed_14 : decode cX3_productNamed 14 = .ok (.iload_n 3, 1) := by decide +kernel
theorem dX3_productNamed_15 : decode cX3_productNamed 15 = .ok (.laload, 1) := by decide +kernel
theorem dX3_productNamed_16 : decode cX3_productNamed 16 = .ok (.lload_n 1, 1) := by decide +kernel
theorem dX3_productNamed_17 : decode cX3_productNamed 17 = .ok (.lcmp, 1) := by decide +kernel
theorem dX3_productNamed_18 : decode cX3_productNamed 18 = .ok (.ifCond .ne 5, 3) := by decide +kernel
theorem dX3_productNamed_21 : decode cX3_productNamed 21 = .ok (.iload_n 3, 1) := by decide +kernel
theorem dX3_productNamed_22 : decode cX3_productNamed 22 = .ok (.ireturn, 1) := by decide +kernel
theorem dX3_productNamed_23 : decode cX3_productNamed 23 = .ok (.iinc 3 1, 3) := by decide +kernel
theorem dX3_productNamed_26 : decode cX3_productNamed 26 = .ok (.goto (-24), 3) := by decide +kernel
theorem dX3_productNamed_29 : decode cX3_productNamed 29 = .ok (.iconst (-1), 1) := by decide +kernel
theorem dX3_productNamed_30 : decode cX3_productNamed 30 = .ok (.ireturn, 1) := by decide +kernel
theorem dX3_hasName_0 : decode cX3_hasName 0 = .ok (.iconst 0, 1) := by decide +kernel
theorem dX3_hasName_1 : decode cX3_hasName 1 = .ok (.istore_n 3, 1) := by decide +kernel
theorem dX3_hasName_2 : decode cX3_hasName 2 = .ok (.iload_n 3, 1) := by decide +kernel
theorem dX3_hasName_3 : decode cX3_hasName 3 = .ok (.aload_n 0, 1) := by decide +kernel
theorem dX3_hasName_4 : decode cX3_hasName 4 = .ok (.getfield 54, 3) := by decide +kernel
theorem dX3_hasName_7 : decode cX3_hasName 7 = .ok (.if_icmp .ge 25, 3) := by decide +kernel
theorem dX3_hasName_10 : decode cX3_hasName 10 = .ok (.aload_n 0, 1) := by decide +kernel
theorem dX3_hasName_11 : decode cX3_hasName 11 = .ok (.getfield 18, 3) := by decide +kernel
theorem dX3_hasName_14 : decode cX3_hasName 14 = .ok (.bipush 6, 2) := by decide +kernel
theorem dX3_hasName_16 : decode cX3_hasName 16 = .ok (.iload_n 3, 1) := by decide +kernel
theorem dX3_hasName_17 : decode cX3_hasName 17 = .ok (.iadd, 1) := by decide +kernel
theorem dX3_hasName_18 : decode cX3_hasName 18 = .ok (.laload, 1) := by decide +kernel
theorem dX3_hasName_19 : decode cX3_hasName 19 = .ok (.lload_n 1, 1) := by decide +kernel
theorem dX3_hasName_20 : decode cX3_hasName 20 = .ok (.lcmp, 1) := by decide +kernel
theorem dX3_hasName_21 : decode cX3_hasName 21 = .ok (.ifCond .ne 5, 3) := by decide +kernel
theorem dX3_hasName_24 : decode cX3_hasName 24 = .ok (.iconst 1, 1) := by decide +kernel
theorem dX3_hasName_25 : decode cX3_hasName 25 = .ok (.ireturn, 1) := by decide +kernel
theorem dX3_hasName_26 : decode cX3_hasName 26 = .ok (.iinc 3 1, 3) := by decide +kernel
theorem dX3_hasName_29 : decode cX3_hasName 29 = .ok (.goto (-27), 3) := by decide +kernel
theorem dX3_hasName_32 : decode cX3_hasName 32 = .ok (.aload_n 0, 1) := by decide +kernel
theorem dX3_hasName_33 : decode cX3_hasName 33 = .ok (.lload_n 1, 1) := by decide +kernel
theorem dX3_hasName_34 : decode cX3_hasName 34 = .ok (.invokevirtual 68, 3) := by decide +kernel
theorem dX3_hasName_37 : decode cX3_hasName 37 = .ok (.iconst (-1), 1) := by decide +kernel
theorem dX3_hasName_38 : decode cX3_hasName 38 = .ok (.if_icmp .eq 7, 3) := by decide +kernel
theorem dX3_hasName_41 : decode cX3_hasName 41 = .ok (.iconst 1, 1) := by decide +kernel
theorem dX3_hasName_42 : decode cX3_hasName 42 = .ok (.goto 4, 3) := by decide +kernel
theorem dX3_hasName_45 : decode cX3_hasName 45 = .ok (.iconst 0, 1) := by decide +kernel
theorem dX3_hasName_46 : decode cX3_hasName 46 = .ok (.ireturn, 1) := by decide +kernel
theorem dX3_addProduct_0 : decode cX3_addProduct 0 = .ok (.aload_n 0, 1) := by decide +kernel
theorem dX3_addProduct_1 : decode cX3_addProduct 1 = .ok (.getfield 48, 3) := by decide +kernel
theorem dX3_addProduct_4 : decode cX3_addProduct 4 = .ok (.bipush 6, 2) := by decide +kernel
theorem dX3_addProduct_6 : decode cX3_addProduct 6 = .ok (.if_icmp .ge 23, 3) := by decide +kernel
theorem dX3_addProduct_9 : decode cX3_addProduct 9 = .ok (.aload_n 0, 1) := by decide +kernel
theorem dX3_addProduct_10 : decode cX3_addProduct 10 = .ok (.getfield 18, 3) := by decide +kernel
theorem dX3_addProduct_13 : decode cX3_addProduct 13 = .ok (.aload_n 0, 1) := by decide +kernel
theorem dX3_addProduct_14 : decode cX3_addProduct 14 = .ok (.getfield 48, 3) := by decide +kernel
theorem dX3_addProduct_17 : decode cX3_addProduct 17 = .ok (.lload_n 1, 1) := by decide +kernel
theorem dX3_addProduct_18 : decode cX3_addProduct 18 = .ok (.lastore, 1) := by decide +kernel
theorem dX3_addProduct_19 : decode cX3_addProduct 19 = .ok (.aload_n 0, 1) := by decide +kernel
theorem dX3_addProduct_20 : decode cX3_addProduct 20 = .ok (.dup, 1) := by decide +kernel
theorem dX3_addProduct_21 : decode cX3_addProduct 21 = .ok (.getfield 48, 3) := by decide +kernel
theorem dX3_addProduct_24 : decode cX3_addProduct 24 = .ok (.iconst 1, 1) := by decide +kernel
theorem dX3_addProduct_25 : decode cX3_addProduct 25 = .ok (.iadd, 1) := by decide +kernel
theorem dX3_addProduct_26 : decode cX3_addProduct 26 = .ok (.putfield 48, 3) := by decide +kernel
theorem dX3_addProduct_29 : decode cX3_addProduct 29 = .ok (.return_, 1) := by decide +kernel
theorem dX3_addTrial_0 : decode cX3_addTrial 0 = .ok (.aload_n 0, 1) := by decide +kernel
theorem dX3_addTrial_1 : decode cX3_addTrial 1 = .ok (.getfield 51, 3) := by decide +kernel
theorem dX3_addTrial_4 : decode cX3_addTrial 4 = .ok (.iconst 4, 1) := by decide +kernel
theorem dX3_addTrial_5 : decode cX3_addTrial 5 = .ok (.if_icmp .ge 33, 3) := by decide +kernel
theorem dX3_addTrial_8 : decode cX3_addTrial 8 = .ok (.aload_n 0, 1) := by decide +kernel
theorem dX3_addTrial_9 : decode cX3_addTrial 9 = .ok (.getfield 22, 3) := by decide +kernel
theorem dX3_addTrial_12 : decode cX3_addTrial 12 = .ok (.aload_n 0, 1) := by decide +kernel
theorem dX3_addTrial_13 : decode cX3_addTrial 13 = .ok (.getfield 51, 3) := by decide +kernel
theorem dX3_addTrial_16 : decode cX3_addTrial 16 = .ok (.iload_n 1, 1) := by decide +kernel
theorem dX3_addTrial_17 : decode cX3_addTrial 17 = .ok (.bastore, 1) := by decide +kernel
theorem dX3_addTrial_18 : decode cX3_addTrial 18 = .ok (.aload_n 0, 1) := by decide +kernel
theorem dX3_addTrial_19 : decode cX3_addTrial 19 = .ok (.getfield 26, 3) := by decide +kernel
theorem dX3_addTrial_22 : decode cX3_addTrial 22 = .ok (.aload_n 0, 1) := by decide +kernel
theorem dX3_addTrial_23 : decode cX3_addTrial 23 = .ok (.getfield 51, 3) := by decide +kernel
theorem dX3_addTrial_26 : decode cX3_addTrial 26 = .ok (.iconst 0, 1) := by decide +kernel
theorem dX3_addTrial_27 : decode cX3_addTrial 27 = .ok (.iastore, 1) := by decide +kernel
theorem dX3_addTrial_28 : decode cX3_addTrial 28 = .ok (.aload_n 0, 1) := by decide +kernel
theorem dX3_addTrial_29 : decode cX3_addTrial 29 = .ok (.dup, 1) := by decide +kernel
theorem dX3_addTrial_30 : decode cX3_addTrial 30 = .ok (.getfield 51, 3) := by decide +kernel
theorem dX3_addTrial_33 : decode cX3_addTrial 33 = .ok (.iconst 1, 1) := by decide +kernel
theorem dX3_addTrial_34 : decode cX3_addTrial 34 = .ok (.iadd, 1) := by decide +kernel
theorem dX3_addTrial_35 : decode cX3_addTrial 35 = .ok (.putfield 51, 3) := by decide +kernel
theorem dX3_addTrial_38 : decode cX3_addTrial 38 = .ok (.return_, 1) := by decide +kernel
theorem dX3_addLook_0 : decode cX3_addLook 0 = .ok (.aload_n 0, 1) := by decide +kernel
theorem dX3_addLook_1 : decode cX3_addLook 1 = .ok (.getfield 51, 3) := by decide +kernel
theorem dX3_addLook_4 : decode cX3_addLook 4 = .ok (.iconst 1, 1) := by decide +kernel
theorem dX3_addLook_5 : decode cX3_addLook 5 = .ok (.isub, 1) := by decide +kernel
theorem dX3_addLook_6 : decode cX3_addLook 6 = .ok (.istore 4, 2) := by decide +kernel
theorem dX3_addLook_8 : decode cX3_addLook 8 = .ok (.iload 4, 2) := by decide +kernel
theorem dX3_addLook_10 : decode cX3_addLook 10 = .ok (.ifCond .lt 63, 3) := by decide +kernel
theorem dX3_addLook_13 : decode cX3_addLook 13 = .ok (.aload_n 0, 1) := by decide +kernel
theorem dX3_addLook_14 : decode cX3_addLook 14 = .ok (.getfield 26, 3) := by decide +kernel
theorem dX3_addLook_17 : decode cX3_addLook 17 = .ok (.iload 4, 2) := by decide +kernel
theorem dX3_addLook_19 : decode cX3_addLook 19 = .ok (.iaload, 1) := by decide +kernel
theorem dX3_addLook_20 : decode cX3_addLook 20 = .ok (.iconst 5, 1) := by decide +kernel
theorem dX3_addLook_21 : decode cX3_addLook 21 = .ok (.if_icmp .ge 52, 3) := by decide +kernel
theorem dX3_addLook_24 : decode cX3_addLook 24 = .ok (.iload 4, 2) := by decide +kernel
theorem dX3_addLook_26 : decode cX3_addLook 26 = .ok (.iconst 5, 1) := by decide +kernel
theorem dX3_addLook_27 : decode cX3_addLook 27 = .ok (.imul, 1) := by decide +kernel
theorem dX3_addLook_28 : decode cX3_addLook 28 = .ok (.aload_n 0, 1) := by decide +kernel
theorem dX3_addLook_29 : decode cX3_addLook 29 = .ok (.getfield 26, 3) := by decide +kernel
theorem dX3_addLook_32 : decode cX3_addLook 32 = .ok (.iload 4, 2) := by decide +kernel
theorem dX3_addLook_34 : decode cX3_addLook 34 = .ok (.iaload, 1) := by decide +kernel
theorem dX3_addLook_35 : decode cX3_addLook 35 = .ok (.iadd, 1) := by decide +kernel
theorem dX3_addLook_36 : decode cX3_addLook 36 = .ok (.istore 5, 2) := by decide +kernel
theorem dX3_addLook_38 : decode cX3_addLook 38 = .ok (.aload_n 0, 1) := by decide +kernel
theorem dX3_addLook_39 : decode cX3_addLook 39 = .ok (.getfield 30, 3) := by decide +kernel
theorem dX3_addLook_42 : decode cX3_addLook 42 = .ok (.iload 5, 2) := by decide +kernel
theorem dX3_addLook_44 : decode cX3_addLook 44 = .ok (.iload_n 1, 1) := by decide +kernel
theorem dX3_addLook_45 : decode cX3_addLook 45 = .ok (.iastore, 1) := by decide +kernel
theorem dX3_addLook_46 : decode cX3_addLook 46 = .ok (.aload_n 0, 1) := by decide +kernel
theorem dX3_addLook_47 : decode cX3_addLook 47 = .ok (.getfield 33, 3) := by decide +kernel
theorem dX3_addLook_50 : decode cX3_addLook 50 = .ok (.iload 5, 2) := by decide +kernel
theorem dX3_addLook_52 : decode cX3_addLook 52 = .ok (.iload_n 2, 1) := by decide +kernel
theorem dX3_addLook_53 : decode cX3_addLook 53 = .ok (.iastore, 1) := by decide +kernel
theorem dX3_addLook_54 : decode cX3_addLook 54 = .ok (.aload_n 0, 1) := by decide +kernel
theorem dX3_addLook_55 : decode cX3_addLook 55 = .ok (.getfield 36, 3) := by decide +kernel
theorem dX3_addLook_58 : decode cX3_addLook 58 = .ok (.iload 5, 2) := by decide +kernel
theorem dX3_addLook_60 : decode cX3_addLook 60 = .ok (.iload_n 3, 1) := by decide +kernel
theorem dX3_addLook_61 : decode cX3_addLook 61 = .ok (.iastore, 1) := by decide +kernel
theorem dX3_addLook_62 : decode cX3_addLook 62 = .ok (.aload_n 0, 1) := by decide +kernel
theorem dX3_addLook_63 : decode cX3_addLook 63 = .ok (.getfield 26, 3) := by decide +kernel
theorem dX3_addLook_66 : decode cX3_addLook 66 = .ok (.iload 4, 2) := by decide +kernel
theorem dX3_addLook_68 : decode cX3_addLook 68 = .ok (.dup2, 1) := by decide +kernel
theorem dX3_addLook_69 : decode cX3_addLook 69 = .ok (.iaload, 1) := by decide +kernel
theorem dX3_addLook_70 : decode cX3_addLook 70 = .ok (.iconst 1, 1) := by decide +kernel
theorem dX3_addLook_71 : decode cX3_addLook 71 = .ok (.iadd, 1) := by decide +kernel
theorem dX3_addLook_72 : decode cX3_addLook 72 = .ok (.iastore, 1) := by decide +kernel
theorem dX3_addLook_73 : decode cX3_addLook 73 = .ok (.return_, 1) := by decide +kernel
theorem dX3_answersAtLatestLook_0 : decode cX3_answersAtLatestLook 0 = .ok (.aload_n 0, 1) := by decide +kernel
theorem dX3_answersAtLatestLook_1 : decode cX3_answersAtLatestLook 1 = .ok (.getfield 51, 3) := by decide +kernel
theorem dX3_answersAtLatestLook_4 : decode cX3_answersAtLatestLook 4 = .ok (.iconst 1, 1) := by decide +kernel
theorem dX3_answersAtLatestLook_5 : decode cX3_answersAtLatestLook 5 = .ok (.isub, 1) := by decide +kernel
theorem dX3_answersAtLatestLook_6 : decode cX3_answersAtLatestLook 6 = .ok (.istore_n 1, 1) := by decide +kernel
theorem dX3_answersAtLatestLook_7 : decode cX3_answersAtLatestLook 7 = .ok (.iload_n 1, 1) := by decide +kernel
theorem dX3_answersAtLatestLook_8 : decode cX3_answersAtLatestLook 8 = .ok (.ifCond .lt 13, 3) := by decide +kernel
theorem dX3_answersAtLatestLook_11 : decode cX3_answersAtLatestLook 11 = .ok (.aload_n 0, 1) := by decide +kernel
theorem dX3_answersAtLatestLook_12 : decode cX3_answersAtLatestLook 12 = .ok (.getfield 26, 3) := by decide +kernel
theorem dX3_answersAtLatestLook_15 : decode cX3_answersAtLatestLook 15 = .ok (.iload_n 1, 1) := by decide +kernel
theorem dX3_answersAtLatestLook_16 : decode cX3_answersAtLatestLook 16 = .ok (.iaload, 1) := by decide +kernel
theorem dX3_answersAtLatestLook_17 : decode cX3_answersAtLatestLook 17 = .ok (.iconst 1, 1) := by decide +kernel
theorem dX3_answersAtLatestLook_18 : decode cX3_answersAtLatestLook 18 = .ok (.if_icmp .ge 7, 3) := by decide +kernel
theorem dX3_answersAtLatestLook_21 : decode cX3_answersAtLatestLook 21 = .ok (.iconst 0, 1) := by decide +kernel
theorem dX3_answersAtLatestLook_22 : decode cX3_answersAtLatestLook 22 = .ok (.goto 20, 3) := by decide +kernel
theorem dX3_answersAtLatestLook_25 : decode cX3_answersAtLatestLook 25 = .ok (.aload_n 0, 1) := by decide +kernel
theorem dX3_answersAtLatestLook_26 : decode cX3_answersAtLatestLook 26 = .ok (.getfield 30, 3) := by decide +kernel
theorem dX3_answersAtLatestLook_29 : decode cX3_answersAtLatestLook 29 = .ok (.iload_n 1, 1) := by decide +kernel
theorem dX3_answersAtLatestLook_30 : decode cX3_answersAtLatestLook 30 = .ok (.iconst 5, 1) := by decide +kernel
theorem dX3_answersAtLatestLook_31 : decode cX3_answersAtLatestLook 31 = .ok (.imul, 1) := by decide +kernel
theorem dX3_answersAtLatestLook_32 : decode cX3_answersAtLatestLook 32 = .ok (.aload_n 0, 1) := by decide +kernel
theorem dX3_answersAtLatestLook_33 : decode cX3_answersAtLatestLook 33 = .ok (.getfield 26, 3) := by decide +kernel
theorem dX3_answersAtLatestLook_36 : decode cX3_answersAtLatestLook 36 = .ok (.iload_n 1, 1) := by decide +kernel
theorem dX3_answersAtLatestLook_37 : decode cX3_answersAtLatestLook 37 = .ok (.iaload, 1) := by decide +kernel
theorem dX3_answersAtLatestLook_38 : decode cX3_answersAtLatestLook 38 = .ok (.iadd, 1) := by decide +kernel
theorem dX3_answersAtLatestLook_39 : decode cX3_answersAtLatestLook 39 = .ok (.iconst 1, 1) := by decide +kernel
theorem dX3_answersAtLatestLook_40 : decode cX3_answersAtLatestLook 40 = .ok (.isub, 1) := by decide +kernel
theorem dX3_answersAtLatestLook_41 : decode cX3_answersAtLatestLook 41 = .ok (.iaload, 1) := by decide +kernel
theorem dX3_answersAtLatestLook_42 : decode cX3_answersAtLatestLook 42 = .ok (.ireturn, 1) := by decide +kernel
theorem dX3_addStep_0 : decode cX3_addStep 0 = .ok (.aload_n 0, 1) := by decide +kernel
theorem dX3_addStep_1 : decode cX3_addStep 1 = .ok (.getfield 61, 3) := by decide +kernel
theorem dX3_addStep_4 : decode cX3_addStep 4 = .ok (.sipush 700, 3) := by decide +kernel
theorem dX3_addStep_7 : decode cX3_addStep 7 = .ok (.if_icmp .ge 29, 3) := by decide +kernel
theorem dX3_addStep_10 : decode cX3_addStep 10 = .ok (.aload_n 0, 1) := by decide +kernel
theorem dX3_addStep_11 : decode cX3_addStep 11 = .ok (.getfield 42, 3) := by decide +kernel
theorem dX3_addStep_14 : decode cX3_addStep 14 = .ok (.aload_n 0, 1) := by decide +kernel
theorem dX3_addStep_15 : decode cX3_addStep 15 = .ok (.getfield 61, 3) := by decide +kernel
theorem dX3_addStep_18 : decode cX3_addStep 18 = .ok (.iload_n 1, 1) := by decide +kernel
theorem dX3_addStep_19 : decode cX3_addStep 19 = .ok (.sipush 10000, 3) := by decide +kernel
theorem dX3_addStep_22 : decode cX3_addStep 22 = .ok (.imul, 1) := by decide +kernel
theorem dX3_addStep_23 : decode cX3_addStep 23 = .ok (.iload_n 2, 1) := by decide +kernel
theorem dX3_addStep_24 : decode cX3_addStep 24 = .ok (.iadd, 1) := by decide +kernel
theorem dX3_addStep_25 : decode cX3_addStep 25 = .ok (.iastore, 1) := by decide +kernel
theorem dX3_addStep_26 : decode cX3_addStep 26 = .ok (.aload_n 0, 1) := by decide +kernel
theorem dX3_addStep_27 : decode cX3_addStep 27 = .ok (.dup, 1) := by decide +kernel
theorem dX3_addStep_28 : decode cX3_addStep 28 = .ok (.getfield 61, 3) := by decide +kernel
theorem dX3_addStep_31 : decode cX3_addStep 31 = .ok (.iconst 1, 1) := by decide +kernel
theorem dX3_addStep_32 : decode cX3_addStep 32 = .ok (.iadd, 1) := by decide +kernel
theorem dX3_addStep_33 : decode cX3_addStep 33 = .ok (.putfield 61, 3) := by decide +kernel
theorem dX3_addStep_36 : decode cX3_addStep 36 = .ok (.return_, 1) := by decide +kernel
theorem dX3_addClaim_0 : decode cX3_addClaim 0 = .ok (.aload_n 0, 1) := by decide +kernel
theorem dX3_addClaim_1 : decode cX3_addClaim 1 = .ok (.getfield 54, 3) := by decide +kernel
theorem dX3_addClaim_4 : decode cX3_addClaim 4 = .ok (.bipush 8, 2) := by decide +kernel
theorem dX3_addClaim_6 : decode cX3_addClaim 6 = .ok (.if_icmp .ge 39, 3) := by decide +kernel
theorem dX3_addClaim_9 : decode cX3_addClaim 9 = .ok (.aload_n 0, 1) := by decide +kernel
theorem dX3_addClaim_10 : decode cX3_addClaim 10 = .ok (.getfield 18, 3) := by decide +kernel
theorem dX3_addClaim_13 : decode cX3_addClaim 13 = .ok (.bipush 6, 2) := by decide +kernel
theorem dX3_addClaim_15 : decode cX3_addClaim 15 = .ok (.aload_n 0, 1) := by decide +kernel
theorem dX3_addClaim_16 : decode cX3_addClaim 16 = .ok (.getfield 54, 3) := by decide +kernel
theorem dX3_addClaim_19 : decode cX3_addClaim 19 = .ok (.iadd, 1) := by decide +kernel
theorem dX3_addClaim_20 : decode cX3_addClaim 20 = .ok (.lload_n 1, 1) := by decide +kernel
theorem dX3_addClaim_21 : decode cX3_addClaim 21 = .ok (.lastore, 1) := by decide +kernel
theorem dX3_addClaim_22 : decode cX3_addClaim 22 = .ok (.aload_n 0, 1) := by decide +kernel
theorem dX3_addClaim_23 : decode cX3_addClaim 23 = .ok (.getfield 45, 3) := by decide +kernel
theorem dX3_addClaim_26 : decode cX3_addClaim 26 = .ok (.aload_n 0, 1) := by decide +kernel
theorem dX3_addClaim_27 : decode cX3_addClaim 27 = .ok (.getfield 54, 3) := by decide +kernel
theorem dX3_addClaim_30 : decode cX3_addClaim 30 = .ok (.aload_n 0, 1) := by decide +kernel
theorem dX3_addClaim_31 : decode cX3_addClaim 31 = .ok (.getfield 61, 3) := by decide +kernel
theorem dX3_addClaim_34 : decode cX3_addClaim 34 = .ok (.iastore, 1) := by decide +kernel
theorem dX3_addClaim_35 : decode cX3_addClaim 35 = .ok (.aload_n 0, 1) := by decide +kernel
theorem dX3_addClaim_36 : decode cX3_addClaim 36 = .ok (.dup, 1) := by decide +kernel
theorem dX3_addClaim_37 : decode cX3_addClaim 37 = .ok (.getfield 54, 3) := by decide +kernel
theorem dX3_addClaim_40 : decode cX3_addClaim 40 = .ok (.iconst 1, 1) := by decide +kernel
theorem dX3_addClaim_41 : decode cX3_addClaim 41 = .ok (.iadd, 1) := by decide +kernel
theorem dX3_addClaim_42 : decode cX3_addClaim 42 = .ok (.putfield 54, 3) := by decide +kernel
theorem dX3_addClaim_45 : decode cX3_addClaim 45 = .ok (.return_, 1) := by decide +kernel
theorem dX3_layCodes_0 : decode cX3_layCodes 0 = .ok (.aload_n 0, 1) := by decide +kernel
theorem dX3_layCodes_1 : decode cX3_layCodes 1 = .ok (.getfield 39, 3) := by decide +kernel
theorem dX3_layCodes_4 : decode cX3_layCodes 4 = .ok (.iconst 0, 1) := by decide +kernel
theorem dX3_layCodes_5 : decode cX3_layCodes 5 = .ok (.invokestatic 72, 3) := by decide +kernel
theorem dX3_layCodes_8 : decode cX3_layCodes 8 = .ok (.iconst 0, 1) := by decide +kernel
theorem dX3_layCodes_9 : decode cX3_layCodes 9 = .ok (.istore_n 2, 1) := by decide +kernel
theorem dX3_layCodes_10 : decode cX3_layCodes 10 = .ok (.iload_n 2, 1) := by decide +kernel
theorem dX3_layCodes_11 : decode cX3_layCodes 11 = .ok (.aload_n 0, 1) := by decide +kernel
theorem dX3_layCodes_12 : decode cX3_layCodes 12 = .ok (.getfield 51, 3) := by decide +kernel
theorem dX3_layCodes_15 : decode cX3_layCodes 15 = .ok (.if_icmp .ge 72, 3) := by decide +kernel
theorem dX3_layCodes_18 : decode cX3_layCodes 18 = .ok (.iload_n 1, 1) := by decide +kernel
theorem dX3_layCodes_19 : decode cX3_layCodes 19 = .ok (.i2l, 1) := by decide +kernel
theorem dX3_layCodes_20 : decode cX3_layCodes 20 = .ok (.lstore_n 3, 1) := by decide +kernel
theorem dX3_layCodes_21 : decode cX3_layCodes 21 = .ok (.iconst 0, 1) := by decide +kernel
theorem dX3_layCodes_22 : decode cX3_layCodes 22 = .ok (.istore 5, 2) := by decide +kernel
theorem dX3_layCodes_24 : decode cX3_layCodes 24 = .ok (.iload 5, 2) := by decide +kernel
theorem dX3_layCodes_26 : decode cX3_layCodes 26 = .ok (.aload_n 0, 1) := by decide +kernel
theorem dX3_layCodes_27 : decode cX3_layCodes 27 = .ok (.iload_n 2, 1) := by decide +kernel
theorem dX3_layCodes_28 : decode cX3_layCodes 28 = .ok (.invokevirtual 78, 3) := by decide +kernel
theorem dX3_layCodes_31 : decode cX3_layCodes 31 = .ok (.if_icmp .ge 50, 3) := by decide +kernel
theorem dX3_layCodes_34 : decode cX3_layCodes 34 = .ok (.ldc2_w 81, 3) := by decide +kernel
theorem dX3_layCodes_37 : decode cX3_layCodes 37 = .ok (.lload_n 3, 1) := by decide +kernel
theorem dX3_layCodes_38 : decode cX3_layCodes 38 = .ok (.lmul, 1) := by decide +kernel
theorem dX3_layCodes_39 : decode cX3_layCodes 39 = .ok (.ldc2_w 83, 3) := by decide +kernel
theorem dX3_layCodes_42 : decode cX3_layCodes 42 = .ok (.ladd, 1) := by decide +kernel
theorem dX3_layCodes_43 : decode cX3_layCodes 43 = .ok (.ldc2_w 85, 3) := by decide +kernel
theorem dX3_layCodes_46 : decode cX3_layCodes 46 = .ok (.land, 1) := by decide +kernel
theorem dX3_layCodes_47 : decode cX3_layCodes 47 = .ok (.lstore_n 3, 1) := by decide +kernel
theorem dX3_layCodes_48 : decode cX3_layCodes 48 = .ok (.aload_n 0, 1) := by decide +kernel
theorem dX3_layCodes_49 : decode cX3_layCodes 49 = .ok (.getfield 39, 3) := by decide +kernel
theorem dX3_layCodes_52 : decode cX3_layCodes 52 = .ok (.iload_n 2, 1) := by decide +kernel
theorem dX3_layCodes_53 : decode cX3_layCodes 53 = .ok (.bipush 90, 2) := by decide +kernel
theorem dX3_layCodes_55 : decode cX3_layCodes 55 = .ok (.imul, 1) := by decide +kernel
theorem dX3_layCodes_56 : decode cX3_layCodes 56 = .ok (.iload 5, 2) := by decide +kernel
theorem dX3_layCodes_58 : decode cX3_layCodes 58 = .ok (.iadd, 1) := by decide +kernel
theorem dX3_layCodes_59 : decode cX3_layCodes 59 = .ok (.aload_n 0, 1) := by decide +kernel
theorem dX3_layCodes_60 : decode cX3_layCodes 60 = .ok (.iload_n 2, 1) := by decide +kernel
theorem dX3_layCodes_61 : decode cX3_layCodes 61 = .ok (.lload_n 3, 1) := by decide +kernel
theorem dX3_layCodes_62 : decode cX3_layCodes 62 = .ok (.ldc2_w 87, 3) := by decide +kernel
theorem dX3_layCodes_65 : decode cX3_layCodes 65 = .ok (.ldiv, 1) := by decide +kernel
theorem dX3_layCodes_66 : decode cX3_layCodes 66 = .ok (.ldc2_w 89, 3) := by decide +kernel
theorem dX3_layCodes_69 : decode cX3_layCodes 69 = .ok (.lrem, 1) := by decide +kernel
theorem dX3_layCodes_70 : decode cX3_layCodes 70 = .ok (.l2i, 1) := by decide +kernel
theorem dX3_layCodes_71 : decode cX3_layCodes 71 = .ok (.invokevirtual 91, 3) := by decide +kernel
theorem dX3_layCodes_74 : decode cX3_layCodes 74 = .ok (.iastore, 1) := by decide +kernel
theorem dX3_layCodes_75 : decode cX3_layCodes 75 = .ok (.iinc 5 1, 3) := by decide +kernel
theorem dX3_layCodes_78 : decode cX3_layCodes 78 = .ok (.goto (-54), 3) := by decide +kernel
theorem dX3_layCodes_81 : decode cX3_layCodes 81 = .ok (.iinc 2 1, 3) := by decide +kernel
theorem dX3_layCodes_84 : decode cX3_layCodes 84 = .ok (.goto (-74), 3) := by decide +kernel
theorem dX3_layCodes_87 : decode cX3_layCodes 87 = .ok (.return_, 1) := by decide +kernel
theorem dX3_freeCode_0 : decode cX3_freeCode 0 = .ok (.bipush 100, 2) := by decide +kernel
theorem dX3_freeCode_2 : decode cX3_freeCode 2 = .ok (.iload_n 2, 1) := by decide +kernel
theorem dX3_freeCode_3 : decode cX3_freeCode 3 = .ok (.iadd, 1) := by decide +kernel
theorem dX3_freeCode_4 : decode cX3_freeCode 4 = .ok (.istore_n 3, 1) := by decide +kernel
theorem dX3_freeCode_5 : decode cX3_freeCode 5 = .ok (.iconst 0, 1) := by decide +kernel
theorem dX3_freeCode_6 : decode cX3_freeCode 6 = .ok (.istore 4, 2) := by decide +kernel
theorem dX3_freeCode_8 : decode cX3_freeCode 8 = .ok (.iload 4, 2) := by decide +kernel
theorem dX3_freeCode_10 : decode cX3_freeCode 10 = .ok (.sipush 900, 3) := by decide +kernel
theorem dX3_freeCode_13 : decode cX3_freeCode 13 = .ok (.if_icmp .ge 37, 3) := by decide +kernel
theorem dX3_freeCode_16 : decode cX3_freeCode 16 = .ok (.aload_n 0, 1) := by decide +kernel
theorem dX3_freeCode_17 : decode cX3_freeCode 17 = .ok (.iload_n 1, 1) := by decide +kernel
theorem dX3_freeCode_18 : decode cX3_freeCode 18 = .ok (.iload_n 3, 1) := by decide +kernel
theorem dX3_freeCode_19 : decode cX3_freeCode 19 = .ok (.invokevirtual 95, 3) := by decide +kernel
theorem dX3_freeCode_22 : decode cX3_freeCode 22 = .ok (.iconst (-1), 1) := by decide +kernel
theorem dX3_freeCode_23 : decode cX3_freeCode 23 = .ok (.if_icmp .eq 27, 3) := by decide +kernel
theorem dX3_freeCode_26 : decode cX3_freeCode 26 = .ok (.iload_n 3, 1) := by decide +kernel
theorem dX3_freeCode_27 : decode cX3_freeCode 27 = .ok (.iconst 1, 1) := by decide +kernel
theorem dX3_freeCode_28 : decode cX3_freeCode 28 = .ok (.iadd, 1) := by decide +kernel
theorem dX3_freeCode_29 : decode cX3_freeCode 29 = .ok (.sipush 1000, 3) := by decide +kernel
theorem dX3_freeCode_32 : decode cX3_freeCode 32 = .ok (.if_icmp .ge 9, 3) := by decide +kernel
theorem dX3_freeCode_35 : decode cX3_freeCode 35 = .ok (.iload_n 3, 1) := by decide +kernel
theorem dX3_freeCode_36 : decode cX3_freeCode 36 = .ok (.iconst 1, 1) := by decide +kernel
theorem dX3_freeCode_37 : decode cX3_freeCode 37 = .ok (.iadd, 1) := by decide +kernel
theorem dX3_freeCode_38 : decode cX3_freeCode 38 = .ok (.goto 5, 3) := by decide +kernel
theorem dX3_freeCode_41 : decode cX3_freeCode 41 = .ok (.bipush 100, 2) := by decide +kernel
theorem dX3_freeCode_43 : decode cX3_freeCode 43 = .ok (.istore_n 3, 1) := by decide +kernel
theorem dX3_freeCode_44 : decode cX3_freeCode 44 = .ok (.iinc 4 1, 3) := by decide +kernel
theorem dX3_freeCode_47 : decode cX3_freeCode 47 = .ok (.goto (-39), 3) := by decide +kernel
theorem dX3_freeCode_50 : decode cX3_freeCode 50 = .ok (.iload_n 3, 1) := by decide +kernel
theorem dX3_freeCode_51 : decode cX3_freeCode 51 = .ok (.ireturn, 1) := by decide +kernel
theorem dX3_cupOf_0 : decode cX3_cupOf 0 = .ok (.iload_n 2, 1) := by decide +kernel
theorem dX3_cupOf_1 : decode cX3_cupOf 1 = .ok (.bipush 100, 2) := by decide +kernel
theorem dX3_cupOf_3 : decode cX3_cupOf 3 = .ok (.if_icmp .ge 5, 3) := by decide +kernel
theorem dX3_cupOf_6 : decode cX3_cupOf 6 = .ok (.iconst (-1), 1) := by decide +kernel
theorem dX3_cupOf_7 : decode cX3_cupOf 7 = .ok (.ireturn, 1) := by decide +kernel
theorem dX3_cupOf_8 : decode cX3_cupOf 8 = .ok (.iconst 0, 1) := by decide +kernel
theorem dX3_cupOf_9 : decode cX3_cupOf 9 = .ok (.istore_n 3, 1) := by decide +kernel
theorem dX3_cupOf_10 : decode cX3_cupOf 10 = .ok (.iload_n 3, 1) := by decide +kernel
theorem dX3_cupOf_11 : decode cX3_cupOf 11 = .ok (.aload_n 0, 1) := by decide +kernel
theorem dX3_cupOf_12 : decode cX3_cupOf 12 = .ok (.iload_n 1, 1) := by decide +kernel
theorem dX3_cupOf_13 : decode cX3_cupOf 13 = .ok (.invokevirtual 78, 3) := by decide +kernel
theorem dX3_cupOf_16 : decode cX3_cupOf 16 = .ok (.if_icmp .ge 26, 3) := by decide +kernel
theorem dX3_cupOf_19 : decode cX3_cupOf 19 = .ok (.aload_n 0, 1) := by decide +kernel
theorem dX3_cupOf_20 : decode cX3_cupOf 20 = .ok (.getfield 39, 3) := by decide +kernel
theorem dX3_cupOf_23 : decode cX3_cupOf 23 = .ok (.iload_n 1, 1) := by decide +kernel
theorem dX3_cupOf_24 : decode cX3_cupOf 24 = .ok (.bipush 90, 2) := by decide +kernel
theorem dX3_cupOf_26 : decode cX3_cupOf 26 = .ok (.imul, 1) := by decide +kernel
theorem dX3_cupOf_27 : decode cX3_cupOf 27 = .ok (.iload_n 3, 1) := by decide +kernel
theorem dX3_cupOf_28 : decode cX3_cupOf 28 = .ok (.iadd, 1) := by decide +kernel
theorem dX3_cupOf_29 : decode cX3_cupOf 29 = .ok (.iaload, 1) := by decide +kernel
theorem dX3_cupOf_30 : decode cX3_cupOf 30 = .ok (.iload_n 2, 1) := by decide +kernel
theorem dX3_cupOf_31 : decode cX3_cupOf 31 = .ok (.if_icmp .ne 5, 3) := by decide +kernel
theorem dX3_cupOf_34 : decode cX3_cupOf 34 = .ok (.iload_n 3, 1) := by decide +kernel
theorem dX3_cupOf_35 : decode cX3_cupOf 35 = .ok (.ireturn, 1) := by decide +kernel
theorem dX3_cupOf_36 : decode cX3_cupOf 36 = .ok (.iinc 3 1, 3) := by decide +kernel
theorem dX3_cupOf_39 : decode cX3_cupOf 39 = .ok (.goto (-29), 3) := by decide +kernel
theorem dX3_cupOf_42 : decode cX3_cupOf 42 = .ok (.iconst (-1), 1) := by decide +kernel
theorem dX3_cupOf_43 : decode cX3_cupOf 43 = .ok (.ireturn, 1) := by decide +kernel
theorem dX4_init_0 : decode cX4_init 0 = .ok (.aload_n 0, 1) := by decide +kernel
theorem dX4_init_1 : decode cX4_init 1 = .ok (.invokespecial 3, 3) := by decide +kernel
theorem dX4_init_4 : decode cX4_init 4 = .ok (.aload_n 0, 1) := by decide +kernel
theorem dX4_init_5 : decode cX4_init 5 = .ok (.sipush 700, 3) := by decide +kernel
theorem dX4_init_8 : decode cX4_init 8 = .ok (.newarray .char, 2) := by decide +kernel
theorem dX4_init_10 : decode cX4_init 10 = .ok (.putfield 9, 3) := by decide +kernel
theorem dX4_init_13 : decode cX4_init 13 = .ok (.aload_n 0, 1) := by decide +kernel
theorem dX4_init_14 : decode cX4_init 14 = .ok (.aload_n 1, 1) := by decide +kernel
theorem dX4_init_15 : decode cX4_init 15 = .ok (.putfield 15, 3) := by decide +kernel
theorem dX4_init_18 : decode cX4_init 18 = .ok (.aload_n 0, 1) := by decide +kernel
theorem dX4_init_19 : decode cX4_init 19 = .ok (.iconst 0, 1) := by decide +kernel
theorem dX4_init_20 : decode cX4_init 20 = .ok (.putfield 19, 3) := by decide +kernel
theorem dX4_init_23 : decode cX4_init 23 = .ok (.aload_n 0, 1) := by decide +kernel
theorem dX4_init_24 : decode cX4_init 24 = .ok (.iconst 0, 1) := by decide +kernel
theorem dX4_init_25 : decode cX4_init 25 = .ok (.putfield 23, 3) := by decide +kernel
theorem dX4_init_28 : decode cX4_init 28 = .ok (.aload_n 0, 1) := by decide +kernel
theorem dX4_init_29 : decode cX4_init 29 = .ok (.iconst (-1), 1) := by decide +kernel
theorem dX4_init_30 : decode cX4_init 30 = .ok (.putfield 26, 3) := by decide +kernel
theorem dX4_init_33 : decode cX4_init 33 = .ok (.return_, 1) := by decide +kernel
theorem dX4_append_0 : decode cX4_append 0 = .ok (.bipush 24, 2) := by decide +kernel
theorem dX4_append_2 : decode cX4_append 2 = .ok (.istore_n 2, 1) := by decide +kernel
theorem dX4_append_3 : decode cX4_append 3 = .ok (.iload_n 2, 1) := by decide +kernel
theorem dX4_append_4 : decode cX4_append 4 = .ok (.ifCond .lt 46, 3) := by decide +kernel
theorem dX4_append_7 : decode cX4_append 7 = .ok (.aload_n 0, 1) := by decide +kernel
theorem dX4_append_8 : decode cX4_append 8 = .ok (.getfield 19, 3) := by decide +kernel
theorem dX4_append_11 : decode cX4_append 11 = .ok (.sipush 700, 3) := by decide +kernel
theorem dX4_append_14 : decode cX4_append 14 = .ok (.if_icmp .ge 36, 3) := by decide +kernel
theorem dX4_append_17 : decode cX4_append 17 = .ok (.aload_n 0, 1) := by decide +kernel
theorem dX4_append_18 : decode cX4_append 18 = .ok (.getfield 9, 3) := by decide +kernel
theorem dX4_append_21 : decode cX4_append 21 = .ok (.aload_n 0, 1) := by decide +kernel
theorem dX4_append_22 : decode cX4_append 22 = .ok (.getfield 19, 3) := by decide +kernel
theorem dX4_append_25 : decode cX4_append 25 = .ok (.iload_n 1, 1) := by decide +kernel
theorem dX4_append_26 : decode cX4_append 26 = .ok (.iload_n 2, 1) := by decide +kernel
theorem dX4_append_27 : decode cX4_append 27 = .ok (.iushr, 1) := by decide +kernel
theorem dX4_append_28 : decode cX4_append 28 = .ok (.sipush 255, 3) := by decide +kernel
theorem dX4_append_31 : decode cX4_append 31 = .ok (.iand, 1) := by decide +kernel
theorem dX4_append_32 : decode cX4_append 32 = .ok (.i2c, 1) := by decide +kernel
theorem dX4_append_33 : decode cX4_append 33 = .ok (.castore, 1) := by decide +kernel
theorem dX4_append_34 : decode cX4_append 34 = .ok (.aload_n 0, 1) := by decide +kernel
theorem dX4_append_35 : decode cX4_append 35 = .ok (.dup, 1) := by decide +kernel
theorem dX4_append_36 : decode cX4_append 36 = .ok (.getfield 19, 3) := by decide +kernel
theorem dX4_append_39 : decode cX4_append 39 = .ok (.iconst 1, 1) := by decide +kernel
theorem dX4_append_40 : decode cX4_append 40 = .ok (.iadd, 1) := by decide +kernel
theorem dX4_append_41 : decode cX4_append 41 = .ok (.putfield 19, 3) := by decide +kernel
theorem dX4_append_44 : decode cX4_append 44 = .ok (.iinc 2 (-8), 3) := by decide +kernel
theorem dX4_append_47 : decode cX4_append 47 = .ok (.goto (-44), 3) := by decide +kernel
theorem dX4_append_50 : decode cX4_append 50 = .ok (.return_, 1) := by decide +kernel
theorem dX4_trade_0 : decode cX4_trade 0 = .ok (.aload_n 0, 1) := by decide +kernel
theorem dX4_trade_1 : decode cX4_trade 1 = .ok (.getfield 15, 3) := by decide +kernel
theorem dX4_trade_4 : decode cX4_trade 4 = .ok (.astore_n 2, 1) := by decide +kernel
theorem dX4_trade_5 : decode cX4_trade 5 = .ok (.aload_n 0, 1) := by decide +kernel
theorem dX4_trade_6 : decode cX4_trade 6 = .ok (.aload_n 1, 1) := by decide +kernel
theorem dX4_trade_7 : decode cX4_trade 7 = .ok (.putfield 15, 3) := by decide +kernel
theorem dX4_trade_10 : decode cX4_trade 10 = .ok (.aload_n 2, 1) := by decide +kernel
theorem dX4_trade_11 : decode cX4_trade 11 = .ok (.areturn, 1) := by decide +kernel
theorem dX4_readPlan_0 : decode cX4_readPlan 0 = .ok (.aload_n 0, 1) := by decide +kernel
theorem dX4_readPlan_1 : decode cX4_readPlan 1 = .ok (.getfield 15, 3) := by decide +kernel
theorem dX4_readPlan_4 : decode cX4_readPlan 4 = .ok (.invokevirtual 29, 3) := by decide +kernel
theorem dX4_readPlan_7 : decode cX4_readPlan 7 = .ok (.aload_n 0, 1) := by decide +kernel
theorem dX4_readPlan_8 : decode cX4_readPlan 8 = .ok (.iconst 0, 1) := by decide +kernel
theorem dX4_readPlan_9 : decode cX4_readPlan 9 = .ok (.putfield 23, 3) := by decide +kernel
theorem dX4_readPlan_12 : decode cX4_readPlan 12 = .ok (.aload_n 0, 1) := by decide +kernel
theorem dX4_readPlan_13 : decode cX4_readPlan 13 = .ok (.iconst (-1), 1) := by decide +kernel
theorem dX4_readPlan_14 : decode cX4_readPlan 14 = .ok (.putfield 26, 3) := by decide +kernel
theorem dX4_readPlan_17 : decode cX4_readPlan 17 = .ok (.aload_n 0, 1) := by decide +kernel
theorem dX4_readPlan_18 : decode cX4_readPlan 18 = .ok (.iconst 0, 1) := by decide +kernel
theorem dX4_readPlan_19 : decode cX4_readPlan 19 = .ok (.putfield 34, 3) := by decide +kernel
theorem dX4_readPlan_22 : decode cX4_readPlan 22 = .ok (.aload_n 0, 1) := by decide +kernel
theorem dX4_readPlan_23 : decode cX4_readPlan 23 = .ok (.iconst 0, 1) := by decide +kernel
theorem dX4_readPlan_24 : decode cX4_readPlan 24 = .ok (.putfield 37, 3) := by decide +kernel
theorem dX4_readPlan_27 : decode cX4_readPlan 27 = .ok (.iconst 0, 1) := by decide +kernel
theorem dX4_readPlan_28 : decode cX4_readPlan 28 = .ok (.istore_n 1, 1) := by decide +kernel
theorem dX4_readPlan_29 : decode cX4_readPlan 29 = .ok (.aload_n 0, 1) := by decide +kernel
theorem dX4_readPlan_30 : decode cX4_readPlan 30 = .ok (.invokevirtual 40, 3) := by decide +kernel
theorem dX4_readPlan_33 : decode cX4_readPlan 33 = .ok (.iconst 0, 1) := by decide +kernel
theorem dX4_readPlan_34 : decode cX4_readPlan 34 = .ok (.istore_n 2, 1) := by decide +kernel
theorem dX4_readPlan_35 : decode cX4_readPlan 35 = .ok (.iload_n 2, 1) := by decide +kernel
theorem dX4_readPlan_36 : decode cX4_readPlan 36 = .ok (.sipush 700, 3) := by decide +kernel
theorem dX4_readPlan_39 : decode cX4_readPlan 39 = .ok (.if_icmp .ge 183, 3) := by decide +kernel
theorem dX4_readPlan_42 : decode cX4_readPlan 42 = .ok (.aload_n 0, 1) := by decide +kernel
theorem dX4_readPlan_43 : decode cX4_readPlan 43 = .ok (.getfield 23, 3) := by decide +kernel
theorem dX4_readPlan_46 : decode cX4_readPlan 46 = .ok (.ifCond .ne 176, 3) := by decide +kernel
theorem dX4_readPlan_49 : decode cX4_readPlan 49 = .ok (.aload_n 0, 1) := by decide +kernel
theorem dX4_readPlan_50 : decode cX4_readPlan 50 = .ok (.getfield 43, 3) := by decide +kernel
theorem dX4_readPlan_53 : decode cX4_readPlan 53 = .ok (.sipush 256, 3) := by decide +kernel
theorem dX4_readPlan_56 : decode cX4_readPlan 56 = .ok (.if_icmp .eq 166, 3) := by decide +kernel
theorem dX4_readPlan_59 : decode cX4_readPlan 59 = .ok (.aload_n 0, 1) := by decide +kernel
theorem dX4_readPlan_60 : decode cX4_readPlan 60 = .ok (.getfield 46, 3) := by decide +kernel
theorem dX4_readPlan_63 : decode cX4_readPlan 63 = .ok (.tableswitch 135 0 15 #[77, 84, 135, 92, 100, 135, 135, 107, 135, 135, 135, 114, 135, 135, 121, 128], 77) := by decide +kernel
theorem dX4_readPlan_140 : decode cX4_readPlan 140 = .ok (.aload_n 0, 1) := by decide +kernel
theorem dX4_readPlan_141 : decode cX4_readPlan 141 = .ok (.invokevirtual 49, 3) := by decide +kernel
theorem dX4_readPlan_144 : decode cX4_readPlan 144 = .ok (.goto 63, 3) := by decide +kernel
theorem dX4_readPlan_147 : decode cX4_readPlan 147 = .ok (.aload_n 0, 1) := by decide +kernel
theorem dX4_readPlan_148 : decode cX4_readPlan 148 = .ok (.iconst 1, 1) := by decide +kernel
theorem dX4_readPlan_149 : decode cX4_readPlan 149 = .ok (.invokevirtual 52, 3) := by decide +kernel
theorem dX4_readPlan_152 : decode cX4_readPlan 152 = .ok (.goto 55, 3) := by decide +kernel
theorem dX4_readPlan_155 : decode cX4_readPlan 155 = .ok (.aload_n 0, 1) := by decide +kernel
theorem dX4_readPlan_156 : decode cX4_readPlan 156 = .ok (.iconst 0, 1) := by decide +kernel
theorem dX4_readPlan_157 : decode cX4_readPlan 157 = .ok (.invokevirtual 52, 3) := by decide +kernel
theorem dX4_readPlan_160 : decode cX4_readPlan 160 = .ok (.goto 47, 3) := by decide +kernel
theorem dX4_readPlan_163 : decode cX4_readPlan 163 = .ok (.aload_n 0, 1) := by decide +kernel
theorem dX4_readPlan_164 : decode cX4_readPlan 164 = .ok (.invokevirtual 56, 3) := by decide +kernel
theorem dX4_readPlan_167 : decode cX4_readPlan 167 = .ok (.goto 40, 3) := by decide +kernel
theorem dX4_readPlan_170 : decode cX4_readPlan 170 = .ok (.aload_n 0, 1) := by decide +kernel
theorem dX4_readPlan_171 : decode cX4_readPlan 171 = .ok (.invokevirtual 59, 3) := by decide +kernel
theorem dX4_readPlan_174 : decode cX4_readPlan 174 = .ok (.goto 33, 3) := by decide +kernel
theorem dX4_readPlan_177 : decode cX4_readPlan 177 = .ok (.aload_n 0, 1) := by decide +kernel
theorem dX4_readPlan_178 : decode cX4_readPlan 178 = .ok (.invokevirtual 62, 3) := by decide +kernel
theorem dX4_readPlan_181 : decode cX4_readPlan 181 = .ok (.goto 26, 3) := by decide +kernel
theorem dX4_readPlan_184 : decode cX4_readPlan 184 = .ok (.aload_n 0, 1) := by decide +kernel
theorem dX4_readPlan_185 : decode cX4_readPlan 185 = .ok (.invokevirtual 65, 3) := by decide +kernel
theorem dX4_readPlan_188 : decode cX4_readPlan 188 = .ok (.goto 19, 3) := by decide +kernel
theorem dX4_readPlan_191 : decode cX4_readPlan 191 = .ok (.aload_n 0, 1) := by decide +kernel
theorem dX4_readPlan_192 : decode cX4_readPlan 192 = .ok (.invokevirtual 68, 3) := by decide +kernel
theorem dX4_readPlan_195 : decode cX4_readPlan 195 = .ok (.goto 12, 3) := by decide +kernel
theorem dX4_readPlan_198 : decode cX4_readPlan 198 = .ok (.aload_n 0, 1) := by decide +kernel
theorem dX4_readPlan_199 : decode cX4_readPlan 199 = .ok (.iconst 1, 1) := by decide +kernel
theorem dX4_readPlan_200 : decode cX4_readPlan 200 = .ok (.aload_n 0, 1) := by decide +kernel
theorem dX4_readPlan_201 : decode cX4_readPlan 201 = .ok (.getfield 71, 3) := by decide +kernel
theorem dX4_readPlan_204 : decode cX4_readPlan 204 = .ok (.invokevirtual 74, 3) := by decide +kernel
theorem dX4_readPlan_207 : decode cX4_readPlan 207 = .ok (.aload_n 0, 1) := by decide +kernel
theorem dX4_readPlan_208 : decode cX4_readPlan 208 = .ok (.bipush 59, 2) := by decide +kernel
theorem dX4_readPlan_210 : decode cX4_readPlan 210 = .ok (.invokevirtual 78, 3) := by decide +kernel
theorem dX4_readPlan_213 : decode cX4_readPlan 213 = .ok (.iinc 1 1, 3) := by decide +kernel
theorem dX4_readPlan_216 : decode cX4_readPlan 216 = .ok (.iinc 2 1, 3) := by decide +kernel
theorem dX4_readPlan_219 : decode cX4_readPlan 219 = .ok (.goto (-184), 3) := by decide +kernel
theorem dX4_readPlan_222 : decode cX4_readPlan 222 = .ok (.aload_n 0, 1) := by decide +kernel
theorem dX4_readPlan_223 : decode cX4_readPlan 223 = .ok (.iconst 0, 1) := by decide +kernel
theorem dX4_readPlan_224 : decode cX4_readPlan 224 = .ok (.putfield 19, 3) := by decide +kernel
theorem dX4_readPlan_227 : decode cX4_readPlan 227 = .ok (.aload_n 0, 1) := by decide +kernel
theorem dX4_readPlan_228 : decode cX4_readPlan 228 = .ok (.getfield 23, 3) := by decide +kernel
theorem dX4_readPlan_231 : decode cX4_readPlan 231 = .ok (.ifCond .ne 7, 3) := by decide +kernel
theorem dX4_readPlan_234 : decode cX4_readPlan 234 = .ok (.iload_n 1, 1) := by decide +kernel
theorem dX4_readPlan_235 : decode cX4_readPlan 235 = .ok (.goto 4, 3) := by decide +kernel
theorem dX4_readPlan_238 : decode cX4_readPlan 238 = .ok (.iconst (-1), 1) := by decide +kernel
theorem dX4_readPlan_239 : decode cX4_readPlan 239 = .ok (.ireturn, 1) := by decide +kernel
theorem dX4_readProduct_0 : decode cX4_readProduct 0 = .ok (.aload_n 0, 1) := by decide +kernel
theorem dX4_readProduct_1 : decode cX4_readProduct 1 = .ok (.aload_n 0, 1) := by decide +kernel
theorem dX4_readProduct_2 : decode cX4_readProduct 2 = .ok (.getfield 15, 3) := by decide +kernel
theorem dX4_readProduct_5 : decode cX4_readProduct 5 = .ok (.getfield 82, 3) := by decide +kernel
theorem dX4_readProduct_8 : decode cX4_readProduct 8 = .ok (.bipush 6, 2) := by decide +kernel
theorem dX4_readProduct_10 : decode cX4_readProduct 10 = .ok (.invokevirtual 85, 3) := by decide +kernel
theorem dX4_readProduct_13 : decode cX4_readProduct 13 = .ok (.aload_n 0, 1) := by decide +kernel
theorem dX4_readProduct_14 : decode cX4_readProduct 14 = .ok (.invokevirtual 40, 3) := by decide +kernel
theorem dX4_readProduct_17 : decode cX4_readProduct 17 = .ok (.aload_n 0, 1) := by decide +kernel
theorem dX4_readProduct_18 : decode cX4_readProduct 18 = .ok (.invokevirtual 88, 3) := by decide +kernel
theorem dX4_readProduct_21 : decode cX4_readProduct 21 = .ok (.lstore_n 1, 1) := by decide +kernel
theorem dX4_readProduct_22 : decode cX4_readProduct 22 = .ok (.aload_n 0, 1) := by decide +kernel
theorem dX4_readProduct_23 : decode cX4_readProduct 23 = .ok (.getfield 23, 3) := by decide +kernel
theorem dX4_readProduct_26 : decode cX4_readProduct 26 = .ok (.ifCond .ne 11, 3) := by decide +kernel
theorem dX4_readProduct_29 : decode cX4_readProduct 29 = .ok (.aload_n 0, 1) := by decide +kernel
theorem dX4_readProduct_30 : decode cX4_readProduct 30 = .ok (.getfield 15, 3) := by decide +kernel
theorem dX4_readProduct_33 : decode cX4_readProduct 33 = .ok (.lload_n 1, 1) := by decide +kernel
theorem dX4_readProduct_34 : decode cX4_readProduct 34 = .ok (.invokevirtual 92, 3) := by decide +kernel
theorem dX4_readProduct_37 : decode cX4_readProduct 37 = .ok (.return_, 1) := by decide +kernel
theorem dX4_readTrial_0 : decode cX4_readTrial 0 = .ok (.aload_n 0, 1) := by decide +kernel
theorem dX4_readTrial_1 : decode cX4_readTrial 1 = .ok (.aload_n 0, 1) := by decide +kernel
theorem dX4_readTrial_2 : decode cX4_readTrial 2 = .ok (.getfield 15, 3) := by decide +kernel
theorem dX4_readTrial_5 : decode cX4_readTrial 5 = .ok (.getfield 96, 3) := by decide +kernel
theorem dX4_readTrial_8 : decode cX4_readTrial 8 = .ok (.iconst 4, 1) := by decide +kernel
theorem dX4_readTrial_9 : decode cX4_readTrial 9 = .ok (.invokevirtual 85, 3) := by decide +kernel
theorem dX4_readTrial_12 : decode cX4_readTrial 12 = .ok (.aload_n 0, 1) := by decide +kernel
theorem dX4_readTrial_13 : decode cX4_readTrial 13 = .ok (.invokevirtual 40, 3) := by decide +kernel
theorem dX4_readTrial_16 : decode cX4_readTrial 16 = .ok (.aload_n 0, 1) := by decide +kernel
theorem dX4_readTrial_17 : decode cX4_readTrial 17 = .ok (.iconst (-1), 1) := by decide +kernel
theorem dX4_readTrial_18 : decode cX4_readTrial 18 = .ok (.invokevirtual 99, 3) := by decide +kernel
theorem dX4_readTrial_21 : decode cX4_readTrial 21 = .ok (.istore_n 2, 1) := by decide +kernel
theorem dX4_readTrial_22 : decode cX4_readTrial 22 = .ok (.aload_n 0, 1) := by decide +kernel
theorem dX4_readTrial_23 : decode cX4_readTrial 23 = .ok (.iconst 2, 1) := by decide +kernel
theorem dX4_readTrial_24 : decode cX4_readTrial 24 = .ok (.invokevirtual 103, 3) := by decide +kernel
theorem dX4_readTrial_27 : decode cX4_readTrial 27 = .ok (.aload_n 0, 1) := by decide +kernel
theorem dX4_readTrial_28 : decode cX4_readTrial 28 = .ok (.iload_n 2, 1) := by decide +kernel
theorem dX4_readTrial_29 : decode cX4_readTrial 29 = .ok (.invokevirtual 99, 3) := by decide +kernel
theorem dX4_readTrial_32 : decode cX4_readTrial 32 = .ok (.pop, 1) := by decide +kernel
theorem dX4_readTrial_33 : decode cX4_readTrial 33 = .ok (.aload_n 0, 1) := by decide +kernel
theorem dX4_readTrial_34 : decode cX4_readTrial 34 = .ok (.getfield 23, 3) := by decide +kernel
theorem dX4_readTrial_37 : decode cX4_readTrial 37 = .ok (.ifCond .ne 11, 3) := by decide +kernel
theorem dX4_readTrial_40 : decode cX4_readTrial 40 = .ok (.aload_n 0, 1) := by decide +kernel
theorem dX4_readTrial_41 : decode cX4_readTrial 41 = .ok (.getfield 15, 3) := by decide +kernel
theorem dX4_readTrial_44 : decode cX4_readTrial 44 = .ok (.iload_n 1, 1) := by decide +kernel
theorem dX4_readTrial_45 : decode cX4_readTrial 45 = .ok (.invokevirtual 106, 3) := by decide +kernel
theorem dX4_readTrial_48 : decode cX4_readTrial 48 = .ok (.return_, 1) := by decide +kernel
theorem dX4_readLook_0 : decode cX4_readLook 0 = .ok (.aload_n 0, 1) := by decide +kernel
theorem dX4_readLook_1 : decode cX4_readLook 1 = .ok (.getfield 15, 3) := by decide +kernel
theorem dX4_readLook_4 : decode cX4_readLook 4 = .ok (.getfield 96, 3) := by decide +kernel
theorem dX4_readLook_7 : decode cX4_readLook 7 = .ok (.iconst 1, 1) := by decide +kernel
theorem dX4_readLook_8 : decode cX4_readLook 8 = .ok (.if_icmp .ge 13, 3) := by decide +kernel
theorem dX4_readLook_11 : decode cX4_readLook 11 = .ok (.aload_n 0, 1) := by decide +kernel
theorem dX4_readLook_12 : decode cX4_readLook 12 = .ok (.iconst 1, 1) := by decide +kernel
theorem dX4_readLook_13 : decode cX4_readLook 13 = .ok (.aload_n 0, 1) := by decide +kernel
theorem dX4_readLook_14 : decode cX4_readLook 14 = .ok (.getfield 71, 3) := by decide +kernel
theorem dX4_readLook_17 : decode cX4_readLook 17 = .ok (.invokevirtual 74, 3) := by decide +kernel
theorem dX4_readLook_20 : decode cX4_readLook 20 = .ok (.return_, 1) := by decide +kernel
theorem dX4_readLook_21 : decode cX4_readLook 21 = .ok (.aload_n 0, 1) := by decide +kernel
theorem dX4_readLook_22 : decode cX4_readLook 22 = .ok (.aload_n 0, 1) := by decide +kernel
theorem dX4_readLook_23 : decode cX4_readLook 23 = .ok (.getfield 15, 3) := by decide +kernel
theorem dX4_readLook_26 : decode cX4_readLook 26 = .ok (.getfield 109, 3) := by decide +kernel
theorem dX4_readLook_29 : decode cX4_readLook 29 = .ok (.aload_n 0, 1) := by decide +kernel
theorem dX4_readLook_30 : decode cX4_readLook 30 = .ok (.getfield 15, 3) := by decide +kernel
theorem dX4_readLook_33 : decode cX4_readLook 33 = .ok (.getfield 96, 3) := by decide +kernel
theorem dX4_readLook_36 : decode cX4_readLook 36 = .ok (.iconst 1, 1) := by decide +kernel
theorem dX4_readLook_37 : decode cX4_readLook 37 = .ok (.isub, 1) := by decide +kernel
theorem dX4_readLook_38 : decode cX4_readLook 38 = .ok (.iaload, 1) := by decide +kernel
theorem dX4_readLook_39 : decode cX4_readLook 39 = .ok (.iconst 5, 1) := by decide +kernel
theorem dX4_readLook_40 : decode cX4_readLook 40 = .ok (.invokevirtual 85, 3) := by decide +kernel
theorem dX4_readLook_43 : decode cX4_readLook 43 = .ok (.aload_n 0, 1) := by decide +kernel
theorem dX4_readLook_44 : decode cX4_readLook 44 = .ok (.invokevirtual 40, 3) := by decide +kernel
theorem dX4_readLook_47 : decode cX4_readLook 47 = .ok (.aload_n 0, 1) := by decide +kernel
theorem dX4_readLook_48 : decode cX4_readLook 48 = .ok (.aload_n 0, 1) := by decide +kernel
theorem dX4_readLook_49 : decode cX4_readLook 49 = .ok (.getfield 15, 3) := by decide +kernel
theorem dX4_readLook_52 : decode cX4_readLook 52 = .ok (.invokevirtual 113, 3) := by decide +kernel
theorem dX4_readLook_55 : decode cX4_readLook 55 = .ok (.iconst 1, 1) := by decide +kernel
theorem dX4_readLook_56 : decode cX4_readLook 56 = .ok (.iadd, 1) := by decide +kernel
theorem dX4_readLook_57 : decode cX4_readLook 57 = .ok (.bipush 30, 2) := by decide +kernel
theorem dX4_readLook_59 : decode cX4_readLook 59 = .ok (.invokevirtual 117, 3) := by decide +kernel
theorem dX4_readLook_62 : decode cX4_readLook 62 = .ok (.istore_n 1, 1) := by decide +kernel
theorem dX4_readLook_63 : decode cX4_readLook 63 = .ok (.aload_n 0, 1) := by decide +kernel
theorem dX4_readLook_64 : decode cX4_readLook 64 = .ok (.iconst 5, 1) := by decide +kernel
theorem dX4_readLook_65 : decode cX4_readLook 65 = .ok (.invokevirtual 103, 3) := by decide +kernel
theorem dX4_readLook_68 : decode cX4_readLook 68 = .ok (.aload_n 0, 1) := by decide +kernel
theorem dX4_readLook_69 : decode cX4_readLook 69 = .ok (.iconst 1, 1) := by decide +kernel
theorem dX4_readLook_70 : decode cX4_readLook 70 = .ok (.sipush 1000, 3) := by decide +kernel
theorem dX4_readLook_73 : decode cX4_readLook 73 = .ok (.invokevirtual 117, 3) := by decide +kernel
theorem dX4_readLook_76 : decode cX4_readLook 76 = .ok (.istore_n 2, 1) := by decide +kernel
theorem dX4_readLook_77 : decode cX4_readLook 77 = .ok (.aload_n 0, 1) := by decide +kernel
theorem dX4_readLook_78 : decode cX4_readLook 78 = .ok (.bipush 6, 2) := by decide +kernel
theorem dX4_readLook_80 : decode cX4_readLook 80 = .ok (.invokevirtual 103, 3) := by decide +kernel
theorem dX4_readLook_83 : decode cX4_readLook 83 = .ok (.aload_n 0, 1) := by decide +kernel
theorem dX4_readLook_84 : decode cX4_readLook 84 = .ok (.iload_n 2, 1) := by decide +kernel
theorem dX4_readLook_85 : decode cX4_readLook 85 = .ok (.sipush 1000, 3) := by decide +kernel
theorem dX4_readLook_88 : decode cX4_readLook 88 = .ok (.invokevirtual 117, 3) := by decide +kernel
theorem dX4_readLook_91 : decode cX4_readLook 91 = .ok (.istore_n 3, 1) := by decide +kernel
theorem dX4_readLook_92 : decode cX4_readLook 92 = .ok (.aload_n 0, 1) := by decide +kernel
theorem dX4_readLook_93 : decode cX4_readLook 93 = .ok (.getfield 23, 3) := by decide +kernel
theorem dX4_readLook_96 : decode cX4_readLook 96 = .ok (.ifCond .ne 13, 3) := by decide +kernel
theorem dX4_readLook_99 : decode cX4_readLook 99 = .ok (.aload_n 0, 1) := by decide +kernel
theorem dX4_readLook_100 : decode cX4_readLook 100 = .ok (.getfield 15, 3) := by decide +kernel
theorem dX4_readLook_103 : decode cX4_readLook 103 = .ok (.iload_n 1, 1) := by decide +kernel
theorem dX4_readLook_104 : decode cX4_readLook 104 = .ok (.iload_n 2, 1) := by decide +kernel
theorem dX4_readLook_105 : decode cX4_readLook 105 = .ok (.iload_n 3, 1) := by decide +kernel
theorem dX4_readLook_106 : decode cX4_readLook 106 = .ok (.invokevirtual 121, 3) := by decide +kernel
theorem dX4_readLook_109 : decode cX4_readLook 109 = .ok (.return_, 1) := by decide +kernel
theorem dX4_readTies_0 : decode cX4_readTies 0 = .ok (.aload_n 0, 1) := by decide +kernel
theorem dX4_readTies_1 : decode cX4_readTies 1 = .ok (.invokevirtual 40, 3) := by decide +kernel
theorem dX4_readTies_4 : decode cX4_readTies 4 = .ok (.aload_n 0, 1) := by decide +kernel
theorem dX4_readTies_5 : decode cX4_readTies 5 = .ok (.getfield 46, 3) := by decide +kernel
theorem dX4_readTies_8 : decode cX4_readTies 8 = .ok (.bipush 8, 2) := by decide +kernel
theorem dX4_readTies_10 : decode cX4_readTies 10 = .ok (.if_icmp .eq 21, 3) := by decide +kernel
theorem dX4_readTies_13 : decode cX4_readTies 13 = .ok (.aload_n 0, 1) := by decide +kernel
theorem dX4_readTies_14 : decode cX4_readTies 14 = .ok (.getfield 46, 3) := by decide +kernel
theorem dX4_readTies_17 : decode cX4_readTies 17 = .ok (.bipush 9, 2) := by decide +kernel
theorem dX4_readTies_19 : decode cX4_readTies 19 = .ok (.if_icmp .eq 12, 3) := by decide +kernel
theorem dX4_readTies_22 : decode cX4_readTies 22 = .ok (.aload_n 0, 1) := by decide +kernel
theorem dX4_readTies_23 : decode cX4_readTies 23 = .ok (.getfield 46, 3) := by decide +kernel
theorem dX4_readTies_26 : decode cX4_readTies 26 = .ok (.bipush 10, 2) := by decide +kernel
theorem dX4_readTies_28 : decode cX4_readTies 28 = .ok (.if_icmp .ne 21, 3) := by decide +kernel
theorem dX4_readTies_31 : decode cX4_readTies 31 = .ok (.aload_n 0, 1) := by decide +kernel
theorem dX4_readTies_32 : decode cX4_readTies 32 = .ok (.getfield 15, 3) := by decide +kernel
theorem dX4_readTies_35 : decode cX4_readTies 35 = .ok (.aload_n 0, 1) := by decide +kernel
theorem dX4_readTies_36 : decode cX4_readTies 36 = .ok (.getfield 46, 3) := by decide +kernel
theorem dX4_readTies_39 : decode cX4_readTies 39 = .ok (.putfield 125, 3) := by decide +kernel
theorem dX4_readTies_42 : decode cX4_readTies 42 = .ok (.aload_n 0, 1) := by decide +kernel
theorem dX4_readTies_43 : decode cX4_readTies 43 = .ok (.invokevirtual 40, 3) := by decide +kernel
theorem dX4_readTies_46 : decode cX4_readTies 46 = .ok (.goto 12, 3) := by decide +kernel
theorem dX4_readTies_49 : decode cX4_readTies 49 = .ok (.aload_n 0, 1) := by decide +kernel
theorem dX4_readTies_50 : decode cX4_readTies 50 = .ok (.iconst 1, 1) := by decide +kernel
theorem dX4_readTies_51 : decode cX4_readTies 51 = .ok (.aload_n 0, 1) := by decide +kernel
theorem dX4_readTies_52 : decode cX4_readTies 52 = .ok (.getfield 71, 3) := by decide +kernel
theorem dX4_readTies_55 : decode cX4_readTies 55 = .ok (.invokevirtual 74, 3) := by decide +kernel
theorem dX4_readTies_58 : decode cX4_readTies 58 = .ok (.return_, 1) := by decide +kernel
theorem dX4_readScale_0 : decode cX4_readScale 0 = .ok (.aload_n 0, 1) := by decide +kernel
theorem dX4_readScale_1 : decode cX4_readScale 1 = .ok (.invokevirtual 40, 3) := by decide +kernel
theorem dX4_readScale_4 : decode cX4_readScale 4 = .ok (.aload_n 0, 1) := by decide +kernel
theorem dX4_readScale_5 : decode cX4_readScale 5 = .ok (.getfield 46, 3) := by decide +kernel
theorem dX4_readScale_8 : decode cX4_readScale 8 = .ok (.bipush 12, 2) := by decide +kernel
theorem dX4_readScale_10 : decode cX4_readScale 10 = .ok (.if_icmp .eq 12, 3) := by decide +kernel
theorem dX4_readScale_13 : decode cX4_readScale 13 = .ok (.aload_n 0, 1) := by decide +kernel
theorem dX4_readScale_14 : decode cX4_readScale 14 = .ok (.getfield 46, 3) := by decide +kernel
theorem dX4_readScale_17 : decode cX4_readScale 17 = .ok (.bipush 13, 2) := by decide +kernel
theorem dX4_readScale_19 : decode cX4_readScale 19 = .ok (.if_icmp .ne 31, 3) := by decide +kernel
theorem dX4_readScale_22 : decode cX4_readScale 22 = .ok (.aload_n 0, 1) := by decide +kernel
theorem dX4_readScale_23 : decode cX4_readScale 23 = .ok (.getfield 15, 3) := by decide +kernel
theorem dX4_readScale_26 : decode cX4_readScale 26 = .ok (.aload_n 0, 1) := by decide +kernel
theorem dX4_readScale_27 : decode cX4_readScale 27 = .ok (.getfield 46, 3) := by decide +kernel
theorem dX4_readScale_30 : decode cX4_readScale 30 = .ok (.bipush 12, 2) := by decide +kernel
theorem dX4_readScale_32 : decode cX4_readScale 32 = .ok (.if_icmp .ne 7, 3) := by decide +kernel
theorem dX4_readScale_35 : decode cX4_readScale 35 = .ok (.iconst 1, 1) := by decide +kernel
theorem dX4_readScale_36 : decode cX4_readScale 36 = .ok (.goto 4, 3) := by decide +kernel
theorem dX4_readScale_39 : decode cX4_readScale 39 = .ok (.iconst 0, 1) := by decide +kernel
theorem dX4_readScale_40 : decode cX4_readScale 40 = .ok (.putfield 128, 3) := by decide +kernel
theorem dX4_readScale_43 : decode cX4_readScale 43 = .ok (.aload_n 0, 1) := by decide +kernel
theorem dX4_readScale_44 : decode cX4_readScale 44 = .ok (.invokevirtual 40, 3) := by decide +kernel
theorem dX4_readScale_47 : decode cX4_readScale 47 = .ok (.goto 12, 3) := by decide +kernel
theorem dX4_readScale_50 : decode cX4_readScale 50 = .ok (.aload_n 0, 1) := by decide +kernel
theorem dX4_readScale_51 : decode cX4_readScale 51 = .ok (.iconst 1, 1) := by decide +kernel
theorem dX4_readScale_52 : decode cX4_readScale 52 = .ok (.aload_n 0, 1) := by decide +kernel
theorem dX4_readScale_53 : decode cX4_readScale 53 = .ok (.getfield 71, 3) := by decide +kernel
theorem dX4_readScale_56 : decode cX4_readScale 56 = .ok (.invokevirtual 74, 3) := by decide +kernel
theorem dX4_readScale_59 : decode cX4_readScale 59 = .ok (.return_, 1) := by decide +kernel
theorem dX4_readReference_0 : decode cX4_readReference 0 = .ok (.aload_n 0, 1) := by decide +kernel
theorem dX4_readReference_1 : decode cX4_readReference 1 = .ok (.invokevirtual 40, 3) := by decide +kernel
theorem dX4_readReference_4 : decode cX4_readReference 4 = .ok (.aload_n 0, 1) := by decide +kernel
theorem dX4_readReference_5 : decode cX4_readReference 5 = .ok (.iconst (-1), 1) := by decide +kernel
theorem dX4_readReference_6 : decode cX4_readReference 6 = .ok (.invokevirtual 99, 3) := by decide +kernel
theorem dX4_readReference_9 : decode cX4_readReference 9 = .ok (.istore_n 1, 1) := by decide +kernel
theorem dX4_readReference_10 : decode cX4_readReference 10 = .ok (.aload_n 0, 1) := by decide +kernel
theorem dX4_readReference_11 : decode cX4_readReference 11 = .ok (.getfield 23, 3) := by decide +kernel
theorem dX4_readReference_14 : decode cX4_readReference 14 = .ok (.ifCond .ne 11, 3) := by decide +kernel
theorem dX4_readReference_17 : decode cX4_readReference 17 = .ok (.aload_n 0, 1) := by decide +kernel
theorem dX4_readReference_18 : decode cX4_readReference 18 = .ok (.getfield 15, 3) := by decide +kernel
theorem dX4_readReference_21 : decode cX4_readReference 21 = .ok (.iload_n 1, 1) := by decide +kernel
theorem dX4_readReference_22 : decode cX4_readReference 22 = .ok (.putfield 132, 3) := by decide +kernel
theorem dX4_readReference_25 : decode cX4_readReference 25 = .ok (.return_, 1) := by decide +kernel
theorem dX4_readClaim_0 : decode cX4_readClaim 0 = .ok (.aload_n 0, 1) := by decide +kernel
theorem dX4_readClaim_1 : decode cX4_readClaim 1 = .ok (.aload_n 0, 1) := by decide +kernel
theorem dX4_readClaim_2 : decode cX4_readClaim 2 = .ok (.getfield 15, 3) := by decide +kernel
theorem dX4_readClaim_5 : decode cX4_readClaim 5 = .ok (.getfield 135, 3) := by decide +kernel
theorem dX4_readClaim_8 : decode cX4_readClaim 8 = .ok (.bipush 8, 2) := by decide +kernel
theorem dX4_readClaim_10 : decode cX4_readClaim 10 = .ok (.invokevirtual 85, 3) := by decide +kernel
theorem dX4_readClaim_13 : decode cX4_readClaim 13 = .ok (.aload_n 0, 1) := by decide +kernel
theorem dX4_readClaim_14 : decode cX4_readClaim 14 = .ok (.invokevirtual 40, 3) := by decide +kernel
theorem dX4_readClaim_17 : decode cX4_readClaim 17 = .ok (.aload_n 0, 1) := by decide +kernel
theorem dX4_readClaim_18 : decode cX4_readClaim 18 = .ok (.invokevirtual 88, 3) := by decide +kernel
theorem dX4_readClaim_21 : decode cX4_readClaim 21 = .ok (.lstore_n 1, 1) := by decide +kernel
theorem dX4_readClaim_22 : decode cX4_readClaim 22 = .ok (.aload_n 0, 1) := by decide +kernel
theorem dX4_readClaim_23 : decode cX4_readClaim 23 = .ok (.bipush 16, 2) := by decide +kernel
theorem dX4_readClaim_25 : decode cX4_readClaim 25 = .ok (.invokevirtual 103, 3) := by decide +kernel
theorem dX4_readClaim_28 : decode cX4_readClaim 28 = .ok (.aload_n 0, 1) := by decide +kernel
theorem dX4_readClaim_29 : decode cX4_readClaim 29 = .ok (.invokevirtual 138, 3) := by decide +kernel
theorem dX4_readClaim_32 : decode cX4_readClaim 32 = .ok (.aload_n 0, 1) := by decide +kernel
theorem dX4_readClaim_33 : decode cX4_readClaim 33 = .ok (.getfield 23, 3) := by decide +kernel
theorem dX4_readClaim_36 : decode cX4_readClaim 36 = .ok (.ifCond .ne 11, 3) := by decide +kernel
theorem dX4_readClaim_39 : decode cX4_readClaim 39 = .ok (.aload_n 0, 1) := by decide +kernel
theorem dX4_readClaim_40 : decode cX4_readClaim 40 = .ok (.getfield 15, 3) := by decide +kernel
theorem dX4_readClaim_43 : decode cX4_readClaim 43 = .ok (.lload_n 1, 1) := by decide +kernel
theorem dX4_readClaim_44 : decode cX4_readClaim 44 = .ok (.invokevirtual 141, 3) := by decide +kernel
theorem dX4_readClaim_47 : decode cX4_readClaim 47 = .ok (.return_, 1) := by decide +kernel
theorem dX4_readTest_0 : decode cX4_readTest 0 = .ok (.aload_n 0, 1) := by decide +kernel
theorem dX4_readTest_1 : decode cX4_readTest 1 = .ok (.invokevirtual 144, 3) := by decide +kernel
theorem dX4_readTest_4 : decode cX4_readTest 4 = .ok (.iconst 0, 1) := by decide +kernel
theorem dX4_readTest_5 : decode cX4_readTest 5 = .ok (.istore_n 1, 1) := by decide +kernel
theorem dX4_readTest_6 : decode cX4_readTest 6 = .ok (.iload_n 1, 1) := by decide +kernel
theorem dX4_readTest_7 : decode cX4_readTest 7 = .ok (.sipush 700, 3) := by decide +kernel
theorem dX4_readTest_10 : decode cX4_readTest 10 = .ok (.if_icmp .ge 43, 3) := by decide +kernel
theorem dX4_readTest_13 : decode cX4_readTest 13 = .ok (.aload_n 0, 1) := by decide +kernel
theorem dX4_readTest_14 : decode cX4_readTest 14 = .ok (.getfield 23, 3) := by decide +kernel
theorem dX4_readTest_17 : decode cX4_readTest 17 = .ok (.ifCond .ne 36, 3) := by decide +kernel
theorem dX4_readTest_20 : decode cX4_readTest 20 = .ok (.aload_n 0, 1) := by decide +kernel
theorem dX4_readTest_21 : decode cX4_readTest 21 = .ok (.getfield 46, 3) := by decide +kernel
theorem dX4_readTest_24 : decode cX4_readTest 24 = .ok (.bipush 17, 2) := by decide +kernel
theorem dX4_readTest_26 : decode cX4_readTest 26 = .ok (.if_icmp .ne 27, 3) := by decide +kernel
theorem dX4_readTest_29 : decode cX4_readTest 29 = .ok (.aload_n 0, 1) := by decide +kernel
theorem dX4_readTest_30 : decode cX4_readTest 30 = .ok (.invokevirtual 40, 3) := by decide +kernel
theorem dX4_readTest_33 : decode cX4_readTest 33 = .ok (.aload_n 0, 1) := by decide +kernel
theorem dX4_readTest_34 : decode cX4_readTest 34 = .ok (.invokevirtual 144, 3) := by decide +kernel
theorem dX4_readTest_37 : decode cX4_readTest 37 = .ok (.aload_n 0, 1) := by decide +kernel
theorem dX4_readTest_38 : decode cX4_readTest 38 = .ok (.getfield 15, 3) := by decide +kernel
theorem dX4_readTest_41 : decode cX4_readTest 41 = .ok (.bipush 17, 2) := by decide +kernel
theorem dX4_readTest_43 : decode cX4_readTest 43 = .ok (.iconst 0, 1) := by decide +kernel
theorem dX4_readTest_44 : decode cX4_readTest 44 = .ok (.invokevirtual 147, 3) := by decide +kernel
theorem dX4_readTest_47 : decode cX4_readTest 47 = .ok (.iinc 1 1, 3) := by decide +kernel
theorem dX4_readTest_50 : decode cX4_readTest 50 = .ok (.goto (-44), 3) := by decide +kernel
theorem dX4_readTest_53 : decode cX4_readTest 53 = .ok (.return_, 1) := by decide +kernel
theorem dX4_readBoth_0 : decode cX4_readBoth 0 = .ok (.aload_n 0, 1) := by decide +kernel
theorem dX4_readBoth_1 : decode cX4_readBoth 1 = .ok (.invokevirtual 150, 3) := by decide +kernel
theorem dX4_readBoth_4 : decode cX4_readBoth 4 = .ok (.iconst 0, 1) := by decide +kernel
theorem dX4_readBoth_5 : decode cX4_readBoth 5 = .ok (.istore_n 1, 1) := by decide +kernel
theorem dX4_readBoth_6 : decode cX4_readBoth 6 = .ok (.iload_n 1, 1) := by decide +kernel
theorem dX4_readBoth_7 : decode cX4_readBoth 7 = .ok (.sipush 700, 3) := by decide +kernel
theorem dX4_readBoth_10 : decode cX4_readBoth 10 = .ok (.if_icmp .ge 43, 3) := by decide +kernel
theorem dX4_readBoth_13 : decode cX4_readBoth 13 = .ok (.aload_n 0, 1) := by decide +kernel
theorem dX4_readBoth_14 : decode cX4_readBoth 14 = .ok (.getfield 23, 3) := by decide +kernel
theorem dX4_readBoth_17 : decode cX4_readBoth 17 = .ok (.ifCond .ne 36, 3) := by decide +kernel
theorem dX4_readBoth_20 : decode cX4_readBoth 20 = .ok (.aload_n 0, 1) := by decide +kernel
theorem dX4_readBoth_21 : decode cX4_readBoth 21 = .ok (.getfield 46, 3) := by decide +kernel
theorem dX4_readBoth_24 : decode cX4_readBoth 24 = .ok (.bipush 18, 2) := by decide +kernel
theorem dX4_readBoth_26 : decode cX4_readBoth 26 = .ok (.if_icmp .ne 27, 3) := by decide +kernel
theorem dX4_readBoth_29 : decode cX4_readBoth 29 = .ok (.aload_n 0, 1) := by decide +kernel
theorem dX4_readBoth_30 : decode cX4_readBoth 30 = .ok (.invokevirtual 40, 3) := by decide +kernel
theorem dX4_readBoth_33 : decode cX4_readBoth 33 = .ok (.aload_n 0, 1) := by decide +kernel
theorem dX4_readBoth_34 : decode cX4_readBoth 34 = .ok (.invokevirtual 150, 3) := by decide +kernel
theorem dX4_readBoth_37 : decode cX4_readBoth 37 = .ok (.aload_n 0, 1) := by decide +kernel
theorem dX4_readBoth_38 : decode cX4_readBoth 38 = .ok (.getfield 15, 3) := by decide +kernel
theorem dX4_readBoth_41 : decode cX4_readBoth 41 = .ok (.bipush 18, 2) := by decide +kernel
theorem dX4_readBoth_43 : decode cX4_readBoth 43 = .ok (.iconst 0, 1) := by decide +kernel
theorem dX4_readBoth_44 : decode cX4_readBoth 44 = .ok (.invokevirtual 147, 3) := by decide +kernel
theorem dX4_readBoth_47 : decode cX4_readBoth 47 = .ok (.iinc 1 1, 3) := by decide +kernel
theorem dX4_readBoth_50 : decode cX4_readBoth 50 = .ok (.goto (-44), 3) := by decide +kernel
theorem dX4_readBoth_53 : decode cX4_readBoth 53 = .ok (.return_, 1) := by decide +kernel
theorem dX4_readFact_0 : decode cX4_readFact 0 = .ok (.aload_n 0, 1) := by decide +kernel
theorem dX4_readFact_1 : decode cX4_readFact 1 = .ok (.getfield 23, 3) := by decide +kernel
theorem dX4_readFact_4 : decode cX4_readFact 4 = .ok (.ifCond .eq 4, 3) := by decide +kernel
theorem dX4_readFact_7 : decode cX4_readFact 7 = .ok (.return_, 1) := by decide +kernel
theorem dX4_readFact_8 : decode cX4_readFact 8 = .ok (.aload_n 0, 1) := by decide +kernel
theorem dX4_readFact_9 : decode cX4_readFact 9 = .ok (.getfield 46, 3) := by decide +kernel
theorem dX4_readFact_12 : decode cX4_readFact 12 = .ok (.bipush 19, 2) := by decide +kernel
theorem dX4_readFact_14 : decode cX4_readFact 14 = .ok (.if_icmp .ne 37, 3) := by decide +kernel
theorem dX4_readFact_17 : decode cX4_readFact 17 = .ok (.aload_n 0, 1) := by decide +kernel
theorem dX4_readFact_18 : decode cX4_readFact 18 = .ok (.invokevirtual 153, 3) := by decide +kernel
theorem dX4_readFact_21 : decode cX4_readFact 21 = .ok (.ifCond .eq 89, 3) := by decide +kernel
theorem dX4_readFact_24 : decode cX4_readFact 24 = .ok (.aload_n 0, 1) := by decide +kernel
theorem dX4_readFact_25 : decode cX4_readFact 25 = .ok (.invokevirtual 150, 3) := by decide +kernel
theorem dX4_readFact_28 : decode cX4_readFact 28 = .ok (.aload_n 0, 1) := by decide +kernel
theorem dX4_readFact_29 : decode cX4_readFact 29 = .ok (.dup, 1) := by decide +kernel
theorem dX4_readFact_30 : decode cX4_readFact 30 = .ok (.getfield 34, 3) := by decide +kernel
theorem dX4_readFact_33 : decode cX4_readFact 33 = .ok (.iconst 1, 1) := by decide +kernel
theorem dX4_readFact_34 : decode cX4_readFact 34 = .ok (.isub, 1) := by decide +kernel
theorem dX4_readFact_35 : decode cX4_readFact 35 = .ok (.putfield 34, 3) := by decide +kernel
theorem dX4_readFact_38 : decode cX4_readFact 38 = .ok (.aload_n 0, 1) := by decide +kernel
theorem dX4_readFact_39 : decode cX4_readFact 39 = .ok (.getfield 15, 3) := by decide +kernel
theorem dX4_readFact_42 : decode cX4_readFact 42 = .ok (.bipush 19, 2) := by decide +kernel
theorem dX4_readFact_44 : decode cX4_readFact 44 = .ok (.iconst 0, 1) := by decide +kernel
theorem dX4_readFact_45 : decode cX4_readFact 45 = .ok (.invokevirtual 147, 3) := by decide +kernel
theorem dX4_readFact_48 : decode cX4_readFact 48 = .ok (.goto 62, 3) := by decide +kernel
theorem dX4_readFact_51 : decode cX4_readFact 51 = .ok (.aload_n 0, 1) := by decide +kernel
theorem dX4_readFact_52 : decode cX4_readFact 52 = .ok (.getfield 43, 3) := by decide +kernel
theorem dX4_readFact_55 : decode cX4_readFact 55 = .ok (.bipush 91, 2) := by decide +kernel
theorem dX4_readFact_57 : decode cX4_readFact 57 = .ok (.if_icmp .ne 33, 3) := by decide +kernel
theorem dX4_readFact_60 : decode cX4_readFact 60 = .ok (.aload_n 0, 1) := by decide +kernel
theorem dX4_readFact_61 : decode cX4_readFact 61 = .ok (.invokevirtual 153, 3) := by decide +kernel
theorem dX4_readFact_64 : decode cX4_readFact 64 = .ok (.ifCond .eq 46, 3) := by decide +kernel
theorem dX4_readFact_67 : decode cX4_readFact 67 = .ok (.aload_n 0, 1) := by decide +kernel
theorem dX4_readFact_68 : decode cX4_readFact 68 = .ok (.invokevirtual 138, 3) := by decide +kernel
theorem dX4_readFact_71 : decode cX4_readFact 71 = .ok (.aload_n 0, 1) := by decide +kernel
theorem dX4_readFact_72 : decode cX4_readFact 72 = .ok (.bipush 93, 2) := by decide +kernel
theorem dX4_readFact_74 : decode cX4_readFact 74 = .ok (.invokevirtual 78, 3) := by decide +kernel
theorem dX4_readFact_77 : decode cX4_readFact 77 = .ok (.aload_n 0, 1) := by decide +kernel
theorem dX4_readFact_78 : decode cX4_readFact 78 = .ok (.dup, 1) := by decide +kernel
theorem dX4_readFact_79 : decode cX4_readFact 79 = .ok (.getfield 34, 3) := by decide +kernel
theorem dX4_readFact_82 : decode cX4_readFact 82 = .ok (.iconst 1, 1) := by decide +kernel
theorem dX4_readFact_83 : decode cX4_readFact 83 = .ok (.isub, 1) := by decide +kernel
theorem dX4_readFact_84 : decode cX4_readFact 84 = .ok (.putfield 34, 3) := by decide +kernel
theorem dX4_readFact_87 : decode cX4_readFact 87 = .ok (.goto 23, 3) := by decide +kernel
theorem dX4_readFact_90 : decode cX4_readFact 90 = .ok (.aload_n 0, 1) := by decide +kernel
theorem dX4_readFact_91 : decode cX4_readFact 91 = .ok (.getfield 46, 3) := by decide +kernel
theorem dX4_readFact_94 : decode cX4_readFact 94 = .ok (.bipush 31, 2) := by decide +kernel
theorem dX4_readFact_96 : decode cX4_readFact 96 = .ok (.if_icmp .ne 10, 3) := by decide +kernel
theorem dX4_readFact_99 : decode cX4_readFact 99 = .ok (.aload_n 0, 1) := by decide +kernel
theorem dX4_readFact_100 : decode cX4_readFact 100 = .ok (.invokevirtual 157, 3) := by decide +kernel
theorem dX4_readFact_103 : decode cX4_readFact 103 = .ok (.goto 7, 3) := by decide +kernel
theorem dX4_readFact_106 : decode cX4_readFact 106 = .ok (.aload_n 0, 1) := by decide +kernel
theorem dX4_readFact_107 : decode cX4_readFact 107 = .ok (.invokevirtual 160, 3) := by decide +kernel
theorem dX4_readFact_110 : decode cX4_readFact 110 = .ok (.return_, 1) := by decide +kernel
theorem dX4_readComparison_0 : decode cX4_readComparison 0 = .ok (.aload_n 0, 1) := by decide +kernel
theorem dX4_readComparison_1 : decode cX4_readComparison 1 = .ok (.invokevirtual 163, 3) := by decide +kernel
theorem dX4_readComparison_4 : decode cX4_readComparison 4 = .ok (.aload_n 0, 1) := by decide +kernel
theorem dX4_readComparison_5 : decode cX4_readComparison 5 = .ok (.getfield 43, 3) := by decide +kernel
theorem dX4_readComparison_8 : decode cX4_readComparison 8 = .ok (.istore_n 1, 1) := by decide +kernel
theorem dX4_readComparison_9 : decode cX4_readComparison 9 = .ok (.iload_n 1, 1) := by decide +kernel
theorem dX4_readComparison_10 : decode cX4_readComparison 10 = .ok (.bipush 60, 2) := by decide +kernel
theorem dX4_readComparison_12 : decode cX4_readComparison 12 = .ok (.if_icmp .eq 15, 3) := by decide +kernel
theorem dX4_readComparison_15 : decode cX4_readComparison 15 = .ok (.iload_n 1, 1) := by decide +kernel
theorem dX4_readComparison_16 : decode cX4_readComparison 16 = .ok (.bipush 62, 2) := by decide +kernel
theorem dX4_readComparison_18 : decode cX4_readComparison 18 = .ok (.if_icmp .eq 9, 3) := by decide +kernel
theorem dX4_readComparison_21 : decode cX4_readComparison 21 = .ok (.iload_n 1, 1) := by decide +kernel
theorem dX4_readComparison_22 : decode cX4_readComparison 22 = .ok (.bipush 61, 2) := by decide +kernel
theorem dX4_readComparison_24 : decode cX4_readComparison 24 = .ok (.if_icmp .ne 23, 3) := by decide +kernel
theorem dX4_readComparison_27 : decode cX4_readComparison 27 = .ok (.aload_n 0, 1) := by decide +kernel
theorem dX4_readComparison_28 : decode cX4_readComparison 28 = .ok (.invokevirtual 40, 3) := by decide +kernel
theorem dX4_readComparison_31 : decode cX4_readComparison 31 = .ok (.aload_n 0, 1) := by decide +kernel
theorem dX4_readComparison_32 : decode cX4_readComparison 32 = .ok (.invokevirtual 163, 3) := by decide +kernel
theorem dX4_readComparison_35 : decode cX4_readComparison 35 = .ok (.aload_n 0, 1) := by decide +kernel
theorem dX4_readComparison_36 : decode cX4_readComparison 36 = .ok (.getfield 15, 3) := by decide +kernel
theorem dX4_readComparison_39 : decode cX4_readComparison 39 = .ok (.iload_n 1, 1) := by decide +kernel
theorem dX4_readComparison_40 : decode cX4_readComparison 40 = .ok (.iconst 0, 1) := by decide +kernel
theorem dX4_readComparison_41 : decode cX4_readComparison 41 = .ok (.invokevirtual 147, 3) := by decide +kernel
theorem dX4_readComparison_44 : decode cX4_readComparison 44 = .ok (.goto 12, 3) := by decide +kernel
theorem dX4_readComparison_47 : decode cX4_readComparison 47 = .ok (.aload_n 0, 1) := by decide +kernel
theorem dX4_readComparison_48 : decode cX4_readComparison 48 = .ok (.iconst 1, 1) := by decide +kernel
theorem dX4_readComparison_49 : decode cX4_readComparison 49 = .ok (.aload_n 0, 1) := by decide +kernel
theorem dX4_readComparison_50 : decode cX4_readComparison 50 = .ok (.getfield 71, 3) := by decide +kernel
theorem dX4_readComparison_53 : decode cX4_readComparison 53 = .ok (.invokevirtual 74, 3) := by decide +kernel
theorem dX4_readComparison_56 : decode cX4_readComparison 56 = .ok (.return_, 1) := by decide +kernel
theorem dX4_readSum_0 : decode cX4_readSum 0 = .ok (.aload_n 0, 1) := by decide +kernel
theorem dX4_readSum_1 : decode cX4_readSum 1 = .ok (.invokevirtual 166, 3) := by decide +kernel
theorem dX4_readSum_4 : decode cX4_readSum 4 = .ok (.iconst 0, 1) := by decide +kernel
theorem dX4_readSum_5 : decode cX4_readSum 5 = .ok (.istore_n 1, 1) := by decide +kernel
theorem dX4_readSum_6 : decode cX4_readSum 6 = .ok (.iload_n 1, 1) := by decide +kernel
theorem dX4_readSum_7 : decode cX4_readSum 7 = .ok (.sipush 700, 3) := by decide +kernel
theorem dX4_readSum_10 : decode cX4_readSum 10 = .ok (.if_icmp .ge 56, 3) := by decide +kernel
theorem dX4_readSum_13 : decode cX4_readSum 13 = .ok (.aload_n 0, 1) := by decide +kernel
theorem dX4_readSum_14 : decode cX4_readSum 14 = .ok (.getfield 23, 3) := by decide +kernel
theorem dX4_readSum_17 : decode cX4_readSum 17 = .ok (.ifCond .ne 49, 3) := by decide +kernel
theorem dX4_readSum_20 : decode cX4_readSum 20 = .ok (.aload_n 0, 1) := by decide +kernel
theorem dX4_readSum_21 : decode cX4_readSum 21 = .ok (.getfield 43, 3) := by decide +kernel
theorem dX4_readSum_24 : decode cX4_readSum 24 = .ok (.bipush 43, 2) := by decide +kernel
theorem dX4_readSum_26 : decode cX4_readSum 26 = .ok (.if_icmp .eq 12, 3) := by decide +kernel
theorem dX4_readSum_29 : decode cX4_readSum 29 = .ok (.aload_n 0, 1) := by decide +kernel
theorem dX4_readSum_30 : decode cX4_readSum 30 = .ok (.getfield 43, 3) := by decide +kernel
theorem dX4_readSum_33 : decode cX4_readSum 33 = .ok (.bipush 45, 2) := by decide +kernel
theorem dX4_readSum_35 : decode cX4_readSum 35 = .ok (.if_icmp .ne 31, 3) := by decide +kernel
theorem dX4_readSum_38 : decode cX4_readSum 38 = .ok (.aload_n 0, 1) := by decide +kernel
theorem dX4_readSum_39 : decode cX4_readSum 39 = .ok (.getfield 43, 3) := by decide +kernel
theorem dX4_readSum_42 : decode cX4_readSum 42 = .ok (.istore_n 2, 1) := by decide +kernel
theorem dX4_readSum_43 : decode cX4_readSum 43 = .ok (.aload_n 0, 1) := by decide +kernel
theorem dX4_readSum_44 : decode cX4_readSum 44 = .ok (.invokevirtual 40, 3) := by decide +kernel
theorem dX4_readSum_47 : decode cX4_readSum 47 = .ok (.aload_n 0, 1) := by decide +kernel
theorem dX4_readSum_48 : decode cX4_readSum 48 = .ok (.invokevirtual 166, 3) := by decide +kernel
theorem dX4_readSum_51 : decode cX4_readSum 51 = .ok (.aload_n 0, 1) := by decide +kernel
theorem dX4_readSum_52 : decode cX4_readSum 52 = .ok (.getfield 15, 3) := by decide +kernel
theorem dX4_readSum_55 : decode cX4_readSum 55 = .ok (.iload_n 2, 1) := by decide +kernel
theorem dX4_readSum_56 : decode cX4_readSum 56 = .ok (.iconst 0, 1) := by decide +kernel
theorem dX4_readSum_57 : decode cX4_readSum 57 = .ok (.invokevirtual 147, 3) := by decide +kernel
theorem dX4_readSum_60 : decode cX4_readSum 60 = .ok (.iinc 1 1, 3) := by decide +kernel
theorem dX4_readSum_63 : decode cX4_readSum 63 = .ok (.goto (-57), 3) := by decide +kernel
theorem dX4_readSum_66 : decode cX4_readSum 66 = .ok (.return_, 1) := by decide +kernel
theorem dX4_readTerm_0 : decode cX4_readTerm 0 = .ok (.aload_n 0, 1) := by decide +kernel
theorem dX4_readTerm_1 : decode cX4_readTerm 1 = .ok (.invokevirtual 169, 3) := by decide +kernel
theorem dX4_readTerm_4 : decode cX4_readTerm 4 = .ok (.iconst 0, 1) := by decide +kernel
theorem dX4_readTerm_5 : decode cX4_readTerm 5 = .ok (.istore_n 1, 1) := by decide +kernel
theorem dX4_readTerm_6 : decode cX4_readTerm 6 = .ok (.iload_n 1, 1) := by decide +kernel
theorem dX4_readTerm_7 : decode cX4_readTerm 7 = .ok (.sipush 700, 3) := by decide +kernel
theorem dX4_readTerm_10 : decode cX4_readTerm 10 = .ok (.if_icmp .ge 56, 3) := by decide +kernel
theorem dX4_readTerm_13 : decode cX4_readTerm 13 = .ok (.aload_n 0, 1) := by decide +kernel
theorem dX4_readTerm_14 : decode cX4_readTerm 14 = .ok (.getfield 23, 3) := by decide +kernel
theorem dX4_readTerm_17 : decode cX4_readTerm 17 = .ok (.ifCond .ne 49, 3) := by decide +kernel
theorem dX4_readTerm_20 : decode cX4_readTerm 20 = .ok (.aload_n 0, 1) := by decide +kernel
theorem dX4_readTerm_21 : decode cX4_readTerm 21 = .ok (.getfield 43, 3) := by decide +kernel
theorem dX4_readTerm_24 : decode cX4_readTerm 24 = .ok (.bipush 42, 2) := by decide +kernel
theorem dX4_readTerm_26 : decode cX4_readTerm 26 = .ok (.if_icmp .eq 12, 3) := by decide +kernel
theorem dX4_readTerm_29 : decode cX4_readTerm 29 = .ok (.aload_n 0, 1) := by decide +kernel
theorem dX4_readTerm_30 : decode cX4_readTerm 30 = .ok (.getfield 43, 3) := by decide +kernel
theorem dX4_readTerm_33 : decode cX4_readTerm 33 = .ok (.bipush 47, 2) := by decide +kernel
theorem dX4_readTerm_35 : decode cX4_readTerm 35 = .ok (.if_icmp .ne 31, 3) := by decide +kernel
theorem dX4_readTerm_38 : decode cX4_readTerm 38 = .ok (.aload_n 0, 1) := by decide +kernel
theorem dX4_readTerm_39 : decode cX4_readTerm 39 = .ok (.getfield 43, 3) := by decide +kernel
theorem dX4_readTerm_42 : decode cX4_readTerm 42 = .ok (.istore_n 2, 1) := by decide +kernel
theorem dX4_readTerm_43 : decode cX4_readTerm 43 = .ok (.aload_n 0, 1) := by decide +kernel
theorem dX4_readTerm_44 : decode cX4_readTerm 44 = .ok (.invokevirtual 40, 3) := by decide +kernel
theorem dX4_readTerm_47 : decode cX4_readTerm 47 = .ok (.aload_n 0, 1) := by decide +kernel
theorem dX4_readTerm_48 : decode cX4_readTerm 48 = .ok (.invokevirtual 169, 3) := by decide +kernel
theorem dX4_readTerm_51 : decode cX4_readTerm 51 = .ok (.aload_n 0, 1) := by decide +kernel
theorem dX4_readTerm_52 : decode cX4_readTerm 52 = .ok (.getfield 15, 3) := by decide +kernel
theorem dX4_readTerm_55 : decode cX4_readTerm 55 = .ok (.iload_n 2, 1) := by decide +kernel
theorem dX4_readTerm_56 : decode cX4_readTerm 56 = .ok (.iconst 0, 1) := by decide +kernel
theorem dX4_readTerm_57 : decode cX4_readTerm 57 = .ok (.invokevirtual 147, 3) := by decide +kernel
theorem dX4_readTerm_60 : decode cX4_readTerm 60 = .ok (.iinc 1 1, 3) := by decide +kernel
theorem dX4_readTerm_63 : decode cX4_readTerm 63 = .ok (.goto (-57), 3) := by decide +kernel
theorem dX4_readTerm_66 : decode cX4_readTerm 66 = .ok (.return_, 1) := by decide +kernel
theorem dX4_readPart_0 : decode cX4_readPart 0 = .ok (.aload_n 0, 1) := by decide +kernel
theorem dX4_readPart_1 : decode cX4_readPart 1 = .ok (.getfield 23, 3) := by decide +kernel
theorem dX4_readPart_4 : decode cX4_readPart 4 = .ok (.ifCond .eq 4, 3) := by decide +kernel
theorem dX4_readPart_7 : decode cX4_readPart 7 = .ok (.return_, 1) := by decide +kernel
theorem dX4_readPart_8 : decode cX4_readPart 8 = .ok (.aload_n 0, 1) := by decide +kernel
theorem dX4_readPart_9 : decode cX4_readPart 9 = .ok (.getfield 43, 3) := by decide +kernel
theorem dX4_readPart_12 : decode cX4_readPart 12 = .ok (.sipush 258, 3) := by decide +kernel
theorem dX4_readPart_15 : decode cX4_readPart 15 = .ok (.if_icmp .ne 23, 3) := by decide +kernel
theorem dX4_readPart_18 : decode cX4_readPart 18 = .ok (.aload_n 0, 1) := by decide +kernel
theorem dX4_readPart_19 : decode cX4_readPart 19 = .ok (.getfield 15, 3) := by decide +kernel
theorem dX4_readPart_22 : decode cX4_readPart 22 = .ok (.bipush 32, 2) := by decide +kernel
theorem dX4_readPart_24 : decode cX4_readPart 24 = .ok (.aload_n 0, 1) := by decide +kernel
theorem dX4_readPart_25 : decode cX4_readPart 25 = .ok (.iconst 0, 1) := by decide +kernel
theorem dX4_readPart_26 : decode cX4_readPart 26 = .ok (.sipush 9999, 3) := by decide +kernel
theorem dX4_readPart_29 : decode cX4_readPart 29 = .ok (.invokevirtual 117, 3) := by decide +kernel
theorem dX4_readPart_32 : decode cX4_readPart 32 = .ok (.invokevirtual 147, 3) := by decide +kernel
theorem dX4_readPart_35 : decode cX4_readPart 35 = .ok (.goto 151, 3) := by decide +kernel
theorem dX4_readPart_38 : decode cX4_readPart 38 = .ok (.aload_n 0, 1) := by decide +kernel
theorem dX4_readPart_39 : decode cX4_readPart 39 = .ok (.getfield 43, 3) := by decide +kernel
theorem dX4_readPart_42 : decode cX4_readPart 42 = .ok (.bipush 40, 2) := by decide +kernel
theorem dX4_readPart_44 : decode cX4_readPart 44 = .ok (.if_icmp .ne 11, 3) := by decide +kernel
theorem dX4_readPart_47 : decode cX4_readPart 47 = .ok (.aload_n 0, 1) := by decide +kernel
theorem dX4_readPart_48 : decode cX4_readPart 48 = .ok (.iconst (-1), 1) := by decide +kernel
theorem dX4_readPart_49 : decode cX4_readPart 49 = .ok (.invokevirtual 172, 3) := by decide +kernel
theorem dX4_readPart_52 : decode cX4_readPart 52 = .ok (.goto 134, 3) := by decide +kernel
theorem dX4_readPart_55 : decode cX4_readPart 55 = .ok (.aload_n 0, 1) := by decide +kernel
theorem dX4_readPart_56 : decode cX4_readPart 56 = .ok (.getfield 46, 3) := by decide +kernel
theorem dX4_readPart_59 : decode cX4_readPart 59 = .ok (.bipush 29, 2) := by decide +kernel
theorem dX4_readPart_61 : decode cX4_readPart 61 = .ok (.if_icmp .eq 12, 3) := by decide +kernel
theorem dX4_readPart_64 : decode cX4_readPart 64 = .ok (.aload_n 0, 1) := by decide +kernel
theorem dX4_readPart_65 : decode cX4_readPart 65 = .ok (.getfield 46, 3) := by decide +kernel
theorem dX4_readPart_68 : decode cX4_readPart 68 = .ok (.bipush 30, 2) := by decide +kernel
theorem dX4_readPart_70 : decode cX4_readPart 70 = .ok (.if_icmp .ne 20, 3) := by decide +kernel
theorem dX4_readPart_73 : decode cX4_readPart 73 = .ok (.aload_n 0, 1) := by decide +kernel
theorem dX4_readPart_74 : decode cX4_readPart 74 = .ok (.getfield 46, 3) := by decide +kernel
theorem dX4_readPart_77 : decode cX4_readPart 77 = .ok (.istore_n 1, 1) := by decide +kernel
theorem dX4_readPart_78 : decode cX4_readPart 78 = .ok (.aload_n 0, 1) := by decide +kernel
theorem dX4_readPart_79 : decode cX4_readPart 79 = .ok (.invokevirtual 40, 3) := by decide +kernel
theorem dX4_readPart_82 : decode cX4_readPart 82 = .ok (.aload_n 0, 1) := by decide +kernel
theorem dX4_readPart_83 : decode cX4_readPart 83 = .ok (.iload_n 1, 1) := by decide +kernel
theorem dX4_readPart_84 : decode cX4_readPart 84 = .ok (.invokevirtual 172, 3) := by decide +kernel
theorem dX4_readPart_87 : decode cX4_readPart 87 = .ok (.goto 99, 3) := by decide +kernel
theorem dX4_readPart_90 : decode cX4_readPart 90 = .ok (.aload_n 0, 1) := by decide +kernel
theorem dX4_readPart_91 : decode cX4_readPart 91 = .ok (.getfield 46, 3) := by decide +kernel
theorem dX4_readPart_94 : decode cX4_readPart 94 = .ok (.bipush 27, 2) := by decide +kernel
theorem dX4_readPart_96 : decode cX4_readPart 96 = .ok (.if_icmp .ne 24, 3) := by decide +kernel
theorem dX4_readPart_99 : decode cX4_readPart 99 = .ok (.aload_n 0, 1) := by decide +kernel
theorem dX4_readPart_100 : decode cX4_readPart 100 = .ok (.invokevirtual 40, 3) := by decide +kernel
theorem dX4_readPart_103 : decode cX4_readPart 103 = .ok (.aload_n 0, 1) := by decide +kernel
theorem dX4_readPart_104 : decode cX4_readPart 104 = .ok (.getfield 15, 3) := by decide +kernel
theorem dX4_readPart_107 : decode cX4_readPart 107 = .ok (.bipush 27, 2) := by decide +kernel
theorem dX4_readPart_109 : decode cX4_readPart 109 = .ok (.aload_n 0, 1) := by decide +kernel
theorem dX4_readPart_110 : decode cX4_readPart 110 = .ok (.iconst (-1), 1) := by decide +kernel
theorem dX4_readPart_111 : decode cX4_readPart 111 = .ok (.invokevirtual 99, 3) := by decide +kernel
theorem dX4_readPart_114 : decode cX4_readPart 114 = .ok (.invokevirtual 147, 3) := by decide +kernel
theorem dX4_readPart_117 : decode cX4_readPart 117 = .ok (.goto 69, 3) := by decide +kernel
theorem dX4_readPart_120 : decode cX4_readPart 120 = .ok (.aload_n 0, 1) := by decide +kernel
theorem dX4_readPart_121 : decode cX4_readPart 121 = .ok (.getfield 46, 3) := by decide +kernel
theorem dX4_readPart_124 : decode cX4_readPart 124 = .ok (.bipush 28, 2) := by decide +kernel
theorem dX4_readPart_126 : decode cX4_readPart 126 = .ok (.if_icmp .ne 26, 3) := by decide +kernel
theorem dX4_readPart_129 : decode cX4_readPart 129 = .ok (.aload_n 0, 1) := by decide +kernel
theorem dX4_readPart_130 : decode cX4_readPart 130 = .ok (.invokevirtual 40, 3) := by decide +kernel
theorem dX4_readPart_133 : decode cX4_readPart 133 = .ok (.aload_n 0, 1) := by decide +kernel
theorem dX4_readPart_134 : decode cX4_readPart 134 = .ok (.getfield 15, 3) := by decide +kernel
theorem dX4_readPart_137 : decode cX4_readPart 137 = .ok (.bipush 28, 2) := by decide +kernel
theorem dX4_readPart_139 : decode cX4_readPart 139 = .ok (.aload_n 0, 1) := by decide +kernel
theorem dX4_readPart_140 : decode cX4_readPart 140 = .ok (.iconst 0, 1) := by decide +kernel
theorem dX4_readPart_141 : decode cX4_readPart 141 = .ok (.bipush 9, 2) := by decide +kernel
theorem dX4_readPart_143 : decode cX4_readPart 143 = .ok (.invokevirtual 117, 3) := by decide +kernel
theorem dX4_readPart_146 : decode cX4_readPart 146 = .ok (.invokevirtual 147, 3) := by decide +kernel
theorem dX4_readPart_149 : decode cX4_readPart 149 = .ok (.goto 37, 3) := by decide +kernel
theorem dX4_readPart_152 : decode cX4_readPart 152 = .ok (.aload_n 0, 1) := by decide +kernel
theorem dX4_readPart_153 : decode cX4_readPart 153 = .ok (.getfield 46, 3) := by decide +kernel
theorem dX4_readPart_156 : decode cX4_readPart 156 = .ok (.bipush 21, 2) := by decide +kernel
theorem dX4_readPart_158 : decode cX4_readPart 158 = .ok (.if_icmp .lt 19, 3) := by decide +kernel
theorem dX4_readPart_161 : decode cX4_readPart 161 = .ok (.aload_n 0, 1) := by decide +kernel
theorem dX4_readPart_162 : decode cX4_readPart 162 = .ok (.getfield 46, 3) := by decide +kernel
theorem dX4_readPart_165 : decode cX4_readPart 165 = .ok (.bipush 26, 2) := by decide +kernel
theorem dX4_readPart_167 : decode cX4_readPart 167 = .ok (.if_icmp .gt 10, 3) := by decide +kernel
theorem dX4_readPart_170 : decode cX4_readPart 170 = .ok (.aload_n 0, 1) := by decide +kernel
theorem dX4_readPart_171 : decode cX4_readPart 171 = .ok (.invokevirtual 157, 3) := by decide +kernel
theorem dX4_readPart_174 : decode cX4_readPart 174 = .ok (.goto 12, 3) := by decide +kernel
theorem dX4_readPart_177 : decode cX4_readPart 177 = .ok (.aload_n 0, 1) := by decide +kernel
theorem dX4_readPart_178 : decode cX4_readPart 178 = .ok (.iconst 1, 1) := by decide +kernel
theorem dX4_readPart_179 : decode cX4_readPart 179 = .ok (.aload_n 0, 1) := by decide +kernel
theorem dX4_readPart_180 : decode cX4_readPart 180 = .ok (.getfield 71, 3) := by decide +kernel
theorem dX4_readPart_183 : decode cX4_readPart 183 = .ok (.invokevirtual 74, 3) := by decide +kernel
theorem dX4_readPart_186 : decode cX4_readPart 186 = .ok (.return_, 1) := by decide +kernel
theorem dX4_readInParentheses_0 : decode cX4_readInParentheses 0 = .ok (.aload_n 0, 1) := by decide +kernel
theorem dX4_readInParentheses_1 : decode cX4_readInParentheses 1 = .ok (.getfield 43, 3) := by decide +kernel
theorem dX4_readInParentheses_4 : decode cX4_readInParentheses 4 = .ok (.bipush 40, 2) := by decide +kernel
theorem dX4_readInParentheses_6 : decode cX4_readInParentheses 6 = .ok (.if_icmp .eq 12, 3) := by decide +kernel
theorem dX4_readInParentheses_9 : decode cX4_readInParentheses 9 = .ok (.aload_n 0, 1) := by decide +kernel
theorem dX4_readInParentheses_10 : decode cX4_readInParentheses 10 = .ok (.iconst 1, 1) := by decide +kernel
theorem dX4_readInParentheses_11 : decode cX4_readInParentheses 11 = .ok (.aload_n 0, 1) := by decide +kernel
theorem dX4_readInParentheses_12 : decode cX4_readInParentheses 12 = .ok (.getfield 71, 3) := by decide +kernel
theorem dX4_readInParentheses_15 : decode cX4_readInParentheses 15 = .ok (.invokevirtual 74, 3) := by decide +kernel
theorem dX4_readInParentheses_18 : decode cX4_readInParentheses 18 = .ok (.aload_n 0, 1) := by decide +kernel
theorem dX4_readInParentheses_19 : decode cX4_readInParentheses 19 = .ok (.getfield 23, 3) := by decide +kernel
theorem dX4_readInParentheses_22 : decode cX4_readInParentheses 22 = .ok (.ifCond .ne 10, 3) := by decide +kernel
theorem dX4_readInParentheses_25 : decode cX4_readInParentheses 25 = .ok (.aload_n 0, 1) := by decide +kernel
theorem dX4_readInParentheses_26 : decode cX4_readInParentheses 26 = .ok (.invokevirtual 153, 3) := by decide +kernel
theorem dX4_readInParentheses_29 : decode cX4_readInParentheses 29 = .ok (.ifCond .ne 4, 3) := by decide +kernel
theorem dX4_readInParentheses_32 : decode cX4_readInParentheses 32 = .ok (.return_, 1) := by decide +kernel
theorem dX4_readInParentheses_33 : decode cX4_readInParentheses 33 = .ok (.aload_n 0, 1) := by decide +kernel
theorem dX4_readInParentheses_34 : decode cX4_readInParentheses 34 = .ok (.invokevirtual 163, 3) := by decide +kernel
theorem dX4_readInParentheses_37 : decode cX4_readInParentheses 37 = .ok (.iload_n 1, 1) := by decide +kernel
theorem dX4_readInParentheses_38 : decode cX4_readInParentheses 38 = .ok (.iconst (-1), 1) := by decide +kernel
theorem dX4_readInParentheses_39 : decode cX4_readInParentheses 39 = .ok (.if_icmp .eq 22, 3) := by decide +kernel
theorem dX4_readInParentheses_42 : decode cX4_readInParentheses 42 = .ok (.aload_n 0, 1) := by decide +kernel
theorem dX4_readInParentheses_43 : decode cX4_readInParentheses 43 = .ok (.bipush 44, 2) := by decide +kernel
theorem dX4_readInParentheses_45 : decode cX4_readInParentheses 45 = .ok (.invokevirtual 78, 3) := by decide +kernel
theorem dX4_readInParentheses_48 : decode cX4_readInParentheses 48 = .ok (.aload_n 0, 1) := by decide +kernel
theorem dX4_readInParentheses_49 : decode cX4_readInParentheses 49 = .ok (.invokevirtual 163, 3) := by decide +kernel
theorem dX4_readInParentheses_52 : decode cX4_readInParentheses 52 = .ok (.aload_n 0, 1) := by decide +kernel
theorem dX4_readInParentheses_53 : decode cX4_readInParentheses 53 = .ok (.getfield 15, 3) := by decide +kernel
theorem dX4_readInParentheses_56 : decode cX4_readInParentheses 56 = .ok (.iload_n 1, 1) := by decide +kernel
theorem dX4_readInParentheses_57 : decode cX4_readInParentheses 57 = .ok (.iconst 0, 1) := by decide +kernel
theorem dX4_readInParentheses_58 : decode cX4_readInParentheses 58 = .ok (.invokevirtual 147, 3) := by decide +kernel
theorem dX4_readInParentheses_61 : decode cX4_readInParentheses 61 = .ok (.aload_n 0, 1) := by decide +kernel
theorem dX4_readInParentheses_62 : decode cX4_readInParentheses 62 = .ok (.bipush 41, 2) := by decide +kernel
theorem dX4_readInParentheses_64 : decode cX4_readInParentheses 64 = .ok (.invokevirtual 78, 3) := by decide +kernel
theorem dX4_readInParentheses_67 : decode cX4_readInParentheses 67 = .ok (.aload_n 0, 1) := by decide +kernel
theorem dX4_readInParentheses_68 : decode cX4_readInParentheses 68 = .ok (.dup, 1) := by decide +kernel
theorem dX4_readInParentheses_69 : decode cX4_readInParentheses 69 = .ok (.getfield 34, 3) := by decide +kernel
theorem dX4_readInParentheses_72 : decode cX4_readInParentheses 72 = .ok (.iconst 1, 1) := by decide +kernel
theorem dX4_readInParentheses_73 : decode cX4_readInParentheses 73 = .ok (.isub, 1) := by decide +kernel
theorem dX4_readInParentheses_74 : decode cX4_readInParentheses 74 = .ok (.putfield 34, 3) := by decide +kernel
theorem dX4_readInParentheses_77 : decode cX4_readInParentheses 77 = .ok (.return_, 1) := by decide +kernel
theorem dX4_readOfTrial_0 : decode cX4_readOfTrial 0 = .ok (.aload_n 0, 1) := by decide +kernel
theorem dX4_readOfTrial_1 : decode cX4_readOfTrial 1 = .ok (.getfield 46, 3) := by decide +kernel
theorem dX4_readOfTrial_4 : decode cX4_readOfTrial 4 = .ok (.istore_n 1, 1) := by decide +kernel
theorem dX4_readOfTrial_5 : decode cX4_readOfTrial 5 = .ok (.aload_n 0, 1) := by decide +kernel
theorem dX4_readOfTrial_6 : decode cX4_readOfTrial 6 = .ok (.invokevirtual 40, 3) := by decide +kernel
theorem dX4_readOfTrial_9 : decode cX4_readOfTrial 9 = .ok (.aload_n 0, 1) := by decide +kernel
theorem dX4_readOfTrial_10 : decode cX4_readOfTrial 10 = .ok (.getfield 15, 3) := by decide +kernel
theorem dX4_readOfTrial_13 : decode cX4_readOfTrial 13 = .ok (.iload_n 1, 1) := by decide +kernel
theorem dX4_readOfTrial_14 : decode cX4_readOfTrial 14 = .ok (.aload_n 0, 1) := by decide +kernel
theorem dX4_readOfTrial_15 : decode cX4_readOfTrial 15 = .ok (.iconst 0, 1) := by decide +kernel
theorem dX4_readOfTrial_16 : decode cX4_readOfTrial 16 = .ok (.aload_n 0, 1) := by decide +kernel
theorem dX4_readOfTrial_17 : decode cX4_readOfTrial 17 = .ok (.getfield 15, 3) := by decide +kernel
theorem dX4_readOfTrial_20 : decode cX4_readOfTrial 20 = .ok (.getfield 96, 3) := by decide +kernel
theorem dX4_readOfTrial_23 : decode cX4_readOfTrial 23 = .ok (.iconst 1, 1) := by decide +kernel
theorem dX4_readOfTrial_24 : decode cX4_readOfTrial 24 = .ok (.isub, 1) := by decide +kernel
theorem dX4_readOfTrial_25 : decode cX4_readOfTrial 25 = .ok (.invokevirtual 117, 3) := by decide +kernel
theorem dX4_readOfTrial_28 : decode cX4_readOfTrial 28 = .ok (.invokevirtual 147, 3) := by decide +kernel
theorem dX4_readOfTrial_31 : decode cX4_readOfTrial 31 = .ok (.return_, 1) := by decide +kernel
theorem dX4_enter_0 : decode cX4_enter 0 = .ok (.aload_n 0, 1) := by decide +kernel
theorem dX4_enter_1 : decode cX4_enter 1 = .ok (.getfield 34, 3) := by decide +kernel
theorem dX4_enter_4 : decode cX4_enter 4 = .ok (.bipush 6, 2) := by decide +kernel
theorem dX4_enter_6 : decode cX4_enter 6 = .ok (.if_icmp .lt 14, 3) := by decide +kernel
theorem dX4_enter_9 : decode cX4_enter 9 = .ok (.aload_n 0, 1) := by decide +kernel
theorem dX4_enter_10 : decode cX4_enter 10 = .ok (.iconst 4, 1) := by decide +kernel
theorem dX4_enter_11 : decode cX4_enter 11 = .ok (.aload_n 0, 1) := by decide +kernel
theorem dX4_enter_12 : decode cX4_enter 12 = .ok (.getfield 71, 3) := by decide +kernel
theorem dX4_enter_15 : decode cX4_enter 15 = .ok (.invokevirtual 74, 3) := by decide +kernel
theorem dX4_enter_18 : decode cX4_enter 18 = .ok (.iconst 0, 1) := by decide +kernel
theorem dX4_enter_19 : decode cX4_enter 19 = .ok (.ireturn, 1) := by decide +kernel
theorem dX4_enter_20 : decode cX4_enter 20 = .ok (.aload_n 0, 1) := by decide +kernel
theorem dX4_enter_21 : decode cX4_enter 21 = .ok (.dup, 1) := by decide +kernel
theorem dX4_enter_22 : decode cX4_enter 22 = .ok (.getfield 34, 3) := by decide +kernel
theorem dX4_enter_25 : decode cX4_enter 25 = .ok (.iconst 1, 1) := by decide +kernel
theorem dX4_enter_26 : decode cX4_enter 26 = .ok (.iadd, 1) := by decide +kernel
theorem dX4_enter_27 : decode cX4_enter 27 = .ok (.putfield 34, 3) := by decide +kernel
theorem dX4_enter_30 : decode cX4_enter 30 = .ok (.aload_n 0, 1) := by decide +kernel
theorem dX4_enter_31 : decode cX4_enter 31 = .ok (.invokevirtual 40, 3) := by decide +kernel
theorem dX4_enter_34 : decode cX4_enter 34 = .ok (.iconst 1, 1) := by decide +kernel
theorem dX4_enter_35 : decode cX4_enter 35 = .ok (.ireturn, 1) := by decide +kernel
theorem dX4_refuseMore_0 : decode cX4_refuseMore 0 = .ok (.iload_n 1, 1) := by decide +kernel
theorem dX4_refuseMore_1 : decode cX4_refuseMore 1 = .ok (.iload_n 2, 1) := by decide +kernel
theorem dX4_refuseMore_2 : decode cX4_refuseMore 2 = .ok (.if_icmp .lt 12, 3) := by decide +kernel
theorem dX4_refuseMore_5 : decode cX4_refuseMore 5 = .ok (.aload_n 0, 1) := by decide +kernel
theorem dX4_refuseMore_6 : decode cX4_refuseMore 6 = .ok (.iconst 5, 1) := by decide +kernel
theorem dX4_refuseMore_7 : decode cX4_refuseMore 7 = .ok (.aload_n 0, 1) := by decide +kernel
theorem dX4_refuseMore_8 : decode cX4_refuseMore 8 = .ok (.getfield 71, 3) := by decide +kernel
theorem dX4_refuseMore_11 : decode cX4_refuseMore 11 = .ok (.invokevirtual 74, 3) := by decide +kernel
theorem dX4_refuseMore_14 : decode cX4_refuseMore 14 = .ok (.return_, 1) := by decide +kernel
theorem dX4_expectSign_0 : decode cX4_expectSign 0 = .ok (.aload_n 0, 1) := by decide +kernel
theorem dX4_expectSign_1 : decode cX4_expectSign 1 = .ok (.getfield 43, 3) := by decide +kernel
theorem dX4_expectSign_4 : decode cX4_expectSign 4 = .ok (.iload_n 1, 1) := by decide +kernel
theorem dX4_expectSign_5 : decode cX4_expectSign 5 = .ok (.if_icmp .ne 10, 3) := by decide +kernel
theorem dX4_expectSign_8 : decode cX4_expectSign 8 = .ok (.aload_n 0, 1) := by decide +kernel
theorem dX4_expectSign_9 : decode cX4_expectSign 9 = .ok (.invokevirtual 40, 3) := by decide +kernel
theorem dX4_expectSign_12 : decode cX4_expectSign 12 = .ok (.goto 12, 3) := by decide +kernel
theorem dX4_expectSign_15 : decode cX4_expectSign 15 = .ok (.aload_n 0, 1) := by decide +kernel
theorem dX4_expectSign_16 : decode cX4_expectSign 16 = .ok (.iconst 1, 1) := by decide +kernel
theorem dX4_expectSign_17 : decode cX4_expectSign 17 = .ok (.aload_n 0, 1) := by decide +kernel
theorem dX4_expectSign_18 : decode cX4_expectSign 18 = .ok (.getfield 71, 3) := by decide +kernel
theorem dX4_expectSign_21 : decode cX4_expectSign 21 = .ok (.invokevirtual 74, 3) := by decide +kernel
theorem dX4_expectSign_24 : decode cX4_expectSign 24 = .ok (.return_, 1) := by decide +kernel
theorem dX4_expectWord_0 : decode cX4_expectWord 0 = .ok (.aload_n 0, 1) := by decide +kernel
theorem dX4_expectWord_1 : decode cX4_expectWord 1 = .ok (.getfield 46, 3) := by decide +kernel
theorem dX4_expectWord_4 : decode cX4_expectWord 4 = .ok (.iload_n 1, 1) := by decide +kernel
theorem dX4_expectWord_5 : decode cX4_expectWord 5 = .ok (.if_icmp .ne 10, 3) := by decide +kernel
theorem dX4_expectWord_8 : decode cX4_expectWord 8 = .ok (.aload_n 0, 1) := by decide +kernel
theorem dX4_expectWord_9 : decode cX4_expectWord 9 = .ok (.invokevirtual 40, 3) := by decide +kernel
theorem dX4_expectWord_12 : decode cX4_expectWord 12 = .ok (.goto 12, 3) := by decide +kernel
theorem dX4_expectWord_15 : decode cX4_expectWord 15 = .ok (.aload_n 0, 1) := by decide +kernel
theorem dX4_expectWord_16 : decode cX4_expectWord 16 = .ok (.iconst 1, 1) := by decide +kernel
theorem dX4_expectWord_17 : decode cX4_expectWord 17 = .ok (.aload_n 0, 1) := by decide +kernel
theorem dX4_expectWord_18 : decode cX4_expectWord 18 = .ok (.getfield 71, 3) := by decide +kernel
theorem dX4_expectWord_21 : decode cX4_expectWord 21 = .ok (.invokevirtual 74, 3) := by decide +kernel
theorem dX4_expectWord_24 : decode cX4_expectWord 24 = .ok (.return_, 1) := by decide +kernel
theorem dX4_takeNumber_0 : decode cX4_takeNumber 0 = .ok (.aload_n 0, 1) := by decide +kernel
theorem dX4_takeNumber_1 : decode cX4_takeNumber 1 = .ok (.getfield 43, 3) := by decide +kernel
theorem dX4_takeNumber_4 : decode cX4_takeNumber 4 = .ok (.sipush 258, 3) := by decide +kernel
theorem dX4_takeNumber_7 : decode cX4_takeNumber 7 = .ok (.if_icmp .eq 14, 3) := by decide +kernel
theorem dX4_takeNumber_10 : decode cX4_takeNumber 10 = .ok (.aload_n 0, 1) := by decide +kernel
theorem dX4_takeNumber_11 : decode cX4_takeNumber 11 = .ok (.iconst 1, 1) := by decide +kernel
theorem dX4_takeNumber_12 : decode cX4_takeNumber 12 = .ok (.aload_n 0, 1) := by decide +kernel
theorem dX4_takeNumber_13 : decode cX4_takeNumber 13 = .ok (.getfield 71, 3) := by decide +kernel
theorem dX4_takeNumber_16 : decode cX4_takeNumber 16 = .ok (.invokevirtual 74, 3) := by decide +kernel
theorem dX4_takeNumber_19 : decode cX4_takeNumber 19 = .ok (.iconst 0, 1) := by decide +kernel
theorem dX4_takeNumber_20 : decode cX4_takeNumber 20 = .ok (.ireturn, 1) := by decide +kernel
theorem dX4_takeNumber_21 : decode cX4_takeNumber 21 = .ok (.aload_n 0, 1) := by decide +kernel
theorem dX4_takeNumber_22 : decode cX4_takeNumber 22 = .ok (.getfield 37, 3) := by decide +kernel
theorem dX4_takeNumber_25 : decode cX4_takeNumber 25 = .ok (.aload_n 0, 1) := by decide +kernel
theorem dX4_takeNumber_26 : decode cX4_takeNumber 26 = .ok (.getfield 71, 3) := by decide +kernel
theorem dX4_takeNumber_29 : decode cX4_takeNumber 29 = .ok (.isub, 1) := by decide +kernel
theorem dX4_takeNumber_30 : decode cX4_takeNumber 30 = .ok (.iconst 4, 1) := by decide +kernel
theorem dX4_takeNumber_31 : decode cX4_takeNumber 31 = .ok (.if_icmp .le 16, 3) := by decide +kernel
theorem dX4_takeNumber_34 : decode cX4_takeNumber 34 = .ok (.aload_n 0, 1) := by decide +kernel
theorem dX4_takeNumber_35 : decode cX4_takeNumber 35 = .ok (.iconst 1, 1) := by decide +kernel
theorem dX4_takeNumber_36 : decode cX4_takeNumber 36 = .ok (.aload_n 0, 1) := by decide +kernel
theorem dX4_takeNumber_37 : decode cX4_takeNumber 37 = .ok (.getfield 71, 3) := by decide +kernel
theorem dX4_takeNumber_40 : decode cX4_takeNumber 40 = .ok (.iconst 4, 1) := by decide +kernel
theorem dX4_takeNumber_41 : decode cX4_takeNumber 41 = .ok (.iadd, 1) := by decide +kernel
theorem dX4_takeNumber_42 : decode cX4_takeNumber 42 = .ok (.invokevirtual 74, 3) := by decide +kernel
theorem dX4_takeNumber_45 : decode cX4_takeNumber 45 = .ok (.iconst 0, 1) := by decide +kernel
theorem dX4_takeNumber_46 : decode cX4_takeNumber 46 = .ok (.ireturn, 1) := by decide +kernel
theorem dX4_takeNumber_47 : decode cX4_takeNumber 47 = .ok (.iconst 0, 1) := by decide +kernel
theorem dX4_takeNumber_48 : decode cX4_takeNumber 48 = .ok (.istore_n 3, 1) := by decide +kernel
theorem dX4_takeNumber_49 : decode cX4_takeNumber 49 = .ok (.aload_n 0, 1) := by decide +kernel
theorem dX4_takeNumber_50 : decode cX4_takeNumber 50 = .ok (.getfield 71, 3) := by decide +kernel
theorem dX4_takeNumber_53 : decode cX4_takeNumber 53 = .ok (.istore 4, 2) := by decide +kernel
theorem dX4_takeNumber_55 : decode cX4_takeNumber 55 = .ok (.iload 4, 2) := by decide +kernel
theorem dX4_takeNumber_57 : decode cX4_takeNumber 57 = .ok (.aload_n 0, 1) := by decide +kernel
theorem dX4_takeNumber_58 : decode cX4_takeNumber 58 = .ok (.getfield 37, 3) := by decide +kernel
theorem dX4_takeNumber_61 : decode cX4_takeNumber 61 = .ok (.if_icmp .ge 25, 3) := by decide +kernel
theorem dX4_takeNumber_64 : decode cX4_takeNumber 64 = .ok (.iload_n 3, 1) := by decide +kernel
theorem dX4_takeNumber_65 : decode cX4_takeNumber 65 = .ok (.bipush 10, 2) := by decide +kernel
theorem dX4_takeNumber_67 : decode cX4_takeNumber 67 = .ok (.imul, 1) := by decide +kernel
theorem dX4_takeNumber_68 : decode cX4_takeNumber 68 = .ok (.aload_n 0, 1) := by decide +kernel
theorem dX4_takeNumber_69 : decode cX4_takeNumber 69 = .ok (.getfield 9, 3) := by decide +kernel
theorem dX4_takeNumber_72 : decode cX4_takeNumber 72 = .ok (.iload 4, 2) := by decide +kernel
theorem dX4_takeNumber_74 : decode cX4_takeNumber 74 = .ok (.caload, 1) := by decide +kernel
theorem dX4_takeNumber_75 : decode cX4_takeNumber 75 = .ok (.bipush 48, 2) := by decide +kernel
theorem dX4_takeNumber_77 : decode cX4_takeNumber 77 = .ok (.isub, 1) := by decide +kernel
theorem dX4_takeNumber_78 : decode cX4_takeNumber 78 = .ok (.iadd, 1) := by decide +kernel
theorem dX4_takeNumber_79 : decode cX4_takeNumber 79 = .ok (.istore_n 3, 1) := by decide +kernel
theorem dX4_takeNumber_80 : decode cX4_takeNumber 80 = .ok (.iinc 4 1, 3) := by decide +kernel
theorem dX4_takeNumber_83 : decode cX4_takeNumber 83 = .ok (.goto (-28), 3) := by decide +kernel
theorem dX4_takeNumber_86 : decode cX4_takeNumber 86 = .ok (.iload_n 3, 1) := by decide +kernel
theorem dX4_takeNumber_87 : decode cX4_takeNumber 87 = .ok (.iload_n 1, 1) := by decide +kernel
theorem dX4_takeNumber_88 : decode cX4_takeNumber 88 = .ok (.if_icmp .lt 8, 3) := by decide +kernel
theorem dX4_takeNumber_91 : decode cX4_takeNumber 91 = .ok (.iload_n 3, 1) := by decide +kernel
theorem dX4_takeNumber_92 : decode cX4_takeNumber 92 = .ok (.iload_n 2, 1) := by decide +kernel
theorem dX4_takeNumber_93 : decode cX4_takeNumber 93 = .ok (.if_icmp .le 14, 3) := by decide +kernel
theorem dX4_takeNumber_96 : decode cX4_takeNumber 96 = .ok (.aload_n 0, 1) := by decide +kernel
theorem dX4_takeNumber_97 : decode cX4_takeNumber 97 = .ok (.iconst 2, 1) := by decide +kernel
theorem dX4_takeNumber_98 : decode cX4_takeNumber 98 = .ok (.aload_n 0, 1) := by decide +kernel
theorem dX4_takeNumber_99 : decode cX4_takeNumber 99 = .ok (.getfield 71, 3) := by decide +kernel
theorem dX4_takeNumber_102 : decode cX4_takeNumber 102 = .ok (.invokevirtual 74, 3) := by decide +kernel
theorem dX4_takeNumber_105 : decode cX4_takeNumber 105 = .ok (.iconst 0, 1) := by decide +kernel
theorem dX4_takeNumber_106 : decode cX4_takeNumber 106 = .ok (.ireturn, 1) := by decide +kernel
theorem dX4_takeNumber_107 : decode cX4_takeNumber 107 = .ok (.aload_n 0, 1) := by decide +kernel
theorem dX4_takeNumber_108 : decode cX4_takeNumber 108 = .ok (.invokevirtual 40, 3) := by decide +kernel
theorem dX4_takeNumber_111 : decode cX4_takeNumber 111 = .ok (.iload_n 3, 1) := by decide +kernel
theorem dX4_takeNumber_112 : decode cX4_takeNumber 112 = .ok (.ireturn, 1) := by decide +kernel
theorem dX4_takeNewName_0 : decode cX4_takeNewName 0 = .ok (.aload_n 0, 1) := by decide +kernel
theorem dX4_takeNewName_1 : decode cX4_takeNewName 1 = .ok (.getfield 71, 3) := by decide +kernel
theorem dX4_takeNewName_4 : decode cX4_takeNewName 4 = .ok (.istore_n 1, 1) := by decide +kernel
theorem dX4_takeNewName_5 : decode cX4_takeNewName 5 = .ok (.aload_n 0, 1) := by decide +kernel
theorem dX4_takeNewName_6 : decode cX4_takeNewName 6 = .ok (.invokevirtual 175, 3) := by decide +kernel
theorem dX4_takeNewName_9 : decode cX4_takeNewName 9 = .ok (.lstore_n 2, 1) := by decide +kernel
theorem dX4_takeNewName_10 : decode cX4_takeNewName 10 = .ok (.aload_n 0, 1) := by decide +kernel
theorem dX4_takeNewName_11 : decode cX4_takeNewName 11 = .ok (.getfield 15, 3) := by decide +kernel
theorem dX4_takeNewName_14 : decode cX4_takeNewName 14 = .ok (.lload_n 2, 1) := by decide +kernel
theorem dX4_takeNewName_15 : decode cX4_takeNewName 15 = .ok (.invokevirtual 178, 3) := by decide +kernel
theorem dX4_takeNewName_18 : decode cX4_takeNewName 18 = .ok (.ifCond .eq 9, 3) := by decide +kernel
theorem dX4_takeNewName_21 : decode cX4_takeNewName 21 = .ok (.aload_n 0, 1) := by decide +kernel
theorem dX4_takeNewName_22 : decode cX4_takeNewName 22 = .ok (.iconst 3, 1) := by decide +kernel
theorem dX4_takeNewName_23 : decode cX4_takeNewName 23 = .ok (.iload_n 1, 1) := by decide +kernel
theorem dX4_takeNewName_24 : decode cX4_takeNewName 24 = .ok (.invokevirtual 74, 3) := by decide +kernel
theorem dX4_takeNewName_27 : decode cX4_takeNewName 27 = .ok (.lload_n 2, 1) := by decide +kernel
theorem dX4_takeNewName_28 : decode cX4_takeNewName 28 = .ok (.lreturn, 1) := by decide +kernel
theorem dX4_takeProduct_0 : decode cX4_takeProduct 0 = .ok (.aload_n 0, 1) := by decide +kernel
theorem dX4_takeProduct_1 : decode cX4_takeProduct 1 = .ok (.getfield 71, 3) := by decide +kernel
theorem dX4_takeProduct_4 : decode cX4_takeProduct 4 = .ok (.istore_n 2, 1) := by decide +kernel
theorem dX4_takeProduct_5 : decode cX4_takeProduct 5 = .ok (.aload_n 0, 1) := by decide +kernel
theorem dX4_takeProduct_6 : decode cX4_takeProduct 6 = .ok (.getfield 15, 3) := by decide +kernel
theorem dX4_takeProduct_9 : decode cX4_takeProduct 9 = .ok (.aload_n 0, 1) := by decide +kernel
theorem dX4_takeProduct_10 : decode cX4_takeProduct 10 = .ok (.invokevirtual 175, 3) := by decide +kernel
theorem dX4_takeProduct_13 : decode cX4_takeProduct 13 = .ok (.invokevirtual 182, 3) := by decide +kernel
theorem dX4_takeProduct_16 : decode cX4_takeProduct 16 = .ok (.istore_n 3, 1) := by decide +kernel
theorem dX4_takeProduct_17 : decode cX4_takeProduct 17 = .ok (.iload_n 3, 1) := by decide +kernel
theorem dX4_takeProduct_18 : decode cX4_takeProduct 18 = .ok (.iconst (-1), 1) := by decide +kernel
theorem dX4_takeProduct_19 : decode cX4_takeProduct 19 = .ok (.if_icmp .eq 8, 3) := by decide +kernel
theorem dX4_takeProduct_22 : decode cX4_takeProduct 22 = .ok (.iload_n 3, 1) := by decide +kernel
theorem dX4_takeProduct_23 : decode cX4_takeProduct 23 = .ok (.iload_n 1, 1) := by decide +kernel
theorem dX4_takeProduct_24 : decode cX4_takeProduct 24 = .ok (.if_icmp .ne 11, 3) := by decide +kernel
theorem dX4_takeProduct_27 : decode cX4_takeProduct 27 = .ok (.aload_n 0, 1) := by decide +kernel
theorem dX4_takeProduct_28 : decode cX4_takeProduct 28 = .ok (.iconst 3, 1) := by decide +kernel
theorem dX4_takeProduct_29 : decode cX4_takeProduct 29 = .ok (.iload_n 2, 1) := by decide +kernel
theorem dX4_takeProduct_30 : decode cX4_takeProduct 30 = .ok (.invokevirtual 74, 3) := by decide +kernel
theorem dX4_takeProduct_33 : decode cX4_takeProduct 33 = .ok (.iconst 0, 1) := by decide +kernel
theorem dX4_takeProduct_34 : decode cX4_takeProduct 34 = .ok (.ireturn, 1) := by decide +kernel
theorem dX4_takeProduct_35 : decode cX4_takeProduct 35 = .ok (.iload_n 3, 1) := by decide +kernel
theorem dX4_takeProduct_36 : decode cX4_takeProduct 36 = .ok (.ireturn, 1) := by decide +kernel
theorem dX4_takeName_0 : decode cX4_takeName 0 = .ok (.aload_n 0, 1) := by decide +kernel
theorem dX4_takeName_1 : decode cX4_takeName 1 = .ok (.getfield 43, 3) := by decide +kernel
theorem dX4_takeName_4 : decode cX4_takeName 4 = .ok (.sipush 257, 3) := by decide +kernel
theorem dX4_takeName_7 : decode cX4_takeName 7 = .ok (.if_icmp .ne 11, 3) := by decide +kernel
theorem dX4_takeName_10 : decode cX4_takeName 10 = .ok (.aload_n 0, 1) := by decide +kernel
theorem dX4_takeName_11 : decode cX4_takeName 11 = .ok (.getfield 46, 3) := by decide +kernel
theorem dX4_takeName_14 : decode cX4_takeName 14 = .ok (.iconst (-1), 1) := by decide +kernel
theorem dX4_takeName_15 : decode cX4_takeName 15 = .ok (.if_icmp .eq 14, 3) := by decide +kernel
theorem dX4_takeName_18 : decode cX4_takeName 18 = .ok (.aload_n 0, 1) := by decide +kernel
theorem dX4_takeName_19 : decode cX4_takeName 19 = .ok (.iconst 1, 1) := by decide +kernel
theorem dX4_takeName_20 : decode cX4_takeName 20 = .ok (.aload_n 0, 1) := by decide +kernel
theorem dX4_takeName_21 : decode cX4_takeName 21 = .ok (.getfield 71, 3) := by decide +kernel
theorem dX4_takeName_24 : decode cX4_takeName 24 = .ok (.invokevirtual 74, 3) := by decide +kernel
theorem dX4_takeName_27 : decode cX4_takeName 27 = .ok (.lconst 0, 1) := by decide +kernel
theorem dX4_takeName_28 : decode cX4_takeName 28 = .ok (.lreturn, 1) := by decide +kernel
theorem dX4_takeName_29 : decode cX4_takeName 29 = .ok (.aload_n 0, 1) := by decide +kernel
theorem dX4_takeName_30 : decode cX4_takeName 30 = .ok (.getfield 37, 3) := by decide +kernel
theorem dX4_takeName_33 : decode cX4_takeName 33 = .ok (.aload_n 0, 1) := by decide +kernel
theorem dX4_takeName_34 : decode cX4_takeName 34 = .ok (.getfield 71, 3) := by decide +kernel
theorem dX4_takeName_37 : decode cX4_takeName 37 = .ok (.isub, 1) := by decide +kernel
theorem dX4_takeName_38 : decode cX4_takeName 38 = .ok (.bipush 6, 2) := by decide +kernel
theorem dX4_takeName_40 : decode cX4_takeName 40 = .ok (.if_icmp .le 17, 3) := by decide +kernel
theorem dX4_takeName_43 : decode cX4_takeName 43 = .ok (.aload_n 0, 1) := by decide +kernel
theorem dX4_takeName_44 : decode cX4_takeName 44 = .ok (.iconst 1, 1) := by decide +kernel
theorem dX4_takeName_45 : decode cX4_takeName 45 = .ok (.aload_n 0, 1) := by decide +kernel
theorem dX4_takeName_46 : decode cX4_takeName 46 = .ok (.getfield 71, 3) := by decide +kernel
theorem dX4_takeName_49 : decode cX4_takeName 49 = .ok (.bipush 6, 2) := by decide +kernel
theorem dX4_takeName_51 : decode cX4_takeName 51 = .ok (.iadd, 1) := by decide +kernel
theorem dX4_takeName_52 : decode cX4_takeName 52 = .ok (.invokevirtual 74, 3) := by decide +kernel
theorem dX4_takeName_55 : decode cX4_takeName 55 = .ok (.lconst 0, 1) := by decide +kernel
theorem dX4_takeName_56 : decode cX4_takeName 56 = .ok (.lreturn, 1) := by decide +kernel
theorem dX4_takeName_57 : decode cX4_takeName 57 = .ok (.lconst 0, 1) := by decide +kernel
theorem dX4_takeName_58 : decode cX4_takeName 58 = .ok (.lstore_n 1, 1) := by decide +kernel
theorem dX4_takeName_59 : decode cX4_takeName 59 = .ok (.aload_n 0, 1) := by decide +kernel
theorem dX4_takeName_60 : decode cX4_takeName 60 = .ok (.getfield 71, 3) := by decide +kernel
theorem dX4_takeName_63 : decode cX4_takeName 63 = .ok (.istore_n 3, 1) := by decide +kernel
theorem dX4_takeName_64 : decode cX4_takeName 64 = .ok (.iload_n 3, 1) := by decide +kernel
theorem dX4_takeName_65 : decode cX4_takeName 65 = .ok (.aload_n 0, 1) := by decide +kernel
theorem dX4_takeName_66 : decode cX4_takeName 66 = .ok (.getfield 37, 3) := by decide +kernel
theorem dX4_takeName_69 : decode cX4_takeName 69 = .ok (.if_icmp .ge 22, 3) := by decide +kernel
theorem dX4_takeName_72 : decode cX4_takeName 72 = .ok (.lload_n 1, 1) := by decide +kernel
theorem dX4_takeName_73 : decode cX4_takeName 73 = .ok (.bipush 8, 2) := by decide +kernel
theorem dX4_takeName_75 : decode cX4_takeName 75 = .ok (.lshl, 1) := by decide +kernel
theorem dX4_takeName_76 : decode cX4_takeName 76 = .ok (.aload_n 0, 1) := by decide +kernel
theorem dX4_takeName_77 : decode cX4_takeName 77 = .ok (.getfield 9, 3) := by decide +kernel
theorem dX4_takeName_80 : decode cX4_takeName 80 = .ok (.iload_n 3, 1) := by decide +kernel
theorem dX4_takeName_81 : decode cX4_takeName 81 = .ok (.caload, 1) := by decide +kernel
theorem dX4_takeName_82 : decode cX4_takeName 82 = .ok (.i2l, 1) := by decide +kernel
theorem dX4_takeName_83 : decode cX4_takeName 83 = .ok (.lor, 1) := by decide +kernel
theorem dX4_takeName_84 : decode cX4_takeName 84 = .ok (.lstore_n 1, 1) := by decide +kernel
theorem dX4_takeName_85 : decode cX4_takeName 85 = .ok (.iinc 3 1, 3) := by decide +kernel
theorem dX4_takeName_88 : decode cX4_takeName 88 = .ok (.goto (-24), 3) := by decide +kernel
theorem dX4_takeName_91 : decode cX4_takeName 91 = .ok (.aload_n 0, 1) := by decide +kernel
theorem dX4_takeName_92 : decode cX4_takeName 92 = .ok (.invokevirtual 40, 3) := by decide +kernel
theorem dX4_takeName_95 : decode cX4_takeName 95 = .ok (.lload_n 1, 1) := by decide +kernel
theorem dX4_takeName_96 : decode cX4_takeName 96 = .ok (.lreturn, 1) := by decide +kernel
theorem dX4_fail_0 : decode cX4_fail 0 = .ok (.aload_n 0, 1) := by decide +kernel
theorem dX4_fail_1 : decode cX4_fail 1 = .ok (.getfield 23, 3) := by decide +kernel
theorem dX4_fail_4 : decode cX4_fail 4 = .ok (.ifCond .ne 13, 3) := by decide +kernel
theorem dX4_fail_7 : decode cX4_fail 7 = .ok (.aload_n 0, 1) := by decide +kernel
theorem dX4_fail_8 : decode cX4_fail 8 = .ok (.iload_n 1, 1) := by decide +kernel
theorem dX4_fail_9 : decode cX4_fail 9 = .ok (.putfield 23, 3) := by decide +kernel
theorem dX4_fail_12 : decode cX4_fail 12 = .ok (.aload_n 0, 1) := by decide +kernel
theorem dX4_fail_13 : decode cX4_fail 13 = .ok (.iload_n 2, 1) := by decide +kernel
theorem dX4_fail_14 : decode cX4_fail 14 = .ok (.putfield 26, 3) := by decide +kernel
theorem dX4_fail_17 : decode cX4_fail 17 = .ok (.return_, 1) := by decide +kernel
theorem dX4_readToken_0 : decode cX4_readToken 0 = .ok (.aload_n 0, 1) := by decide +kernel
theorem dX4_readToken_1 : decode cX4_readToken 1 = .ok (.getfield 37, 3) := by decide +kernel
theorem dX4_readToken_4 : decode cX4_readToken 4 = .ok (.istore_n 1, 1) := by decide +kernel
theorem dX4_readToken_5 : decode cX4_readToken 5 = .ok (.iload_n 1, 1) := by decide +kernel
theorem dX4_readToken_6 : decode cX4_readToken 6 = .ok (.aload_n 0, 1) := by decide +kernel
theorem dX4_readToken_7 : decode cX4_readToken 7 = .ok (.getfield 19, 3) := by decide +kernel
theorem dX4_readToken_10 : decode cX4_readToken 10 = .ok (.if_icmp .ge 31, 3) := by decide +kernel
theorem dX4_readToken_13 : decode cX4_readToken 13 = .ok (.aload_n 0, 1) := by decide +kernel
theorem dX4_readToken_14 : decode cX4_readToken 14 = .ok (.getfield 9, 3) := by decide +kernel
theorem dX4_readToken_17 : decode cX4_readToken 17 = .ok (.iload_n 1, 1) := by decide +kernel
theorem dX4_readToken_18 : decode cX4_readToken 18 = .ok (.caload, 1) := by decide +kernel
theorem dX4_readToken_19 : decode cX4_readToken 19 = .ok (.bipush 32, 2) := by decide +kernel
theorem dX4_readToken_21 : decode cX4_readToken 21 = .ok (.if_icmp .eq 14, 3) := by decide +kernel
theorem dX4_readToken_24 : decode cX4_readToken 24 = .ok (.aload_n 0, 1) := by decide +kernel
theorem dX4_readToken_25 : decode cX4_readToken 25 = .ok (.getfield 9, 3) := by decide +kernel
theorem dX4_readToken_28 : decode cX4_readToken 28 = .ok (.iload_n 1, 1) := by decide +kernel
theorem dX4_readToken_29 : decode cX4_readToken 29 = .ok (.caload, 1) := by decide +kernel
theorem dX4_readToken_30 : decode cX4_readToken 30 = .ok (.bipush 10, 2) := by decide +kernel
theorem dX4_readToken_32 : decode cX4_readToken 32 = .ok (.if_icmp .ne 9, 3) := by decide +kernel
theorem dX4_readToken_35 : decode cX4_readToken 35 = .ok (.iinc 1 1, 3) := by decide +kernel
theorem dX4_readToken_38 : decode cX4_readToken 38 = .ok (.goto (-33), 3) := by decide +kernel
theorem dX4_readToken_41 : decode cX4_readToken 41 = .ok (.aload_n 0, 1) := by decide +kernel
theorem dX4_readToken_42 : decode cX4_readToken 42 = .ok (.iload_n 1, 1) := by decide +kernel
theorem dX4_readToken_43 : decode cX4_readToken 43 = .ok (.putfield 71, 3) := by decide +kernel
theorem dX4_readToken_46 : decode cX4_readToken 46 = .ok (.aload_n 0, 1) := by decide +kernel
theorem dX4_readToken_47 : decode cX4_readToken 47 = .ok (.iload_n 1, 1) := by decide +kernel
theorem dX4_readToken_48 : decode cX4_readToken 48 = .ok (.aload_n 0, 1) := by decide +kernel
theorem dX4_readToken_49 : decode cX4_readToken 49 = .ok (.getfield 19, 3) := by decide +kernel
theorem dX4_readToken_52 : decode cX4_readToken 52 = .ok (.if_icmp .ge 15, 3) := by decide +kernel
theorem dX4_readToken_55 : decode cX4_readToken 55 = .ok (.aload_n 0, 1) := by decide +kernel
theorem dX4_readToken_56 : decode cX4_readToken 56 = .ok (.getfield 9, 3) := by decide +kernel
theorem dX4_readToken_59 : decode cX4_readToken 59 = .ok (.iload_n 1, 1) := by decide +kernel
theorem dX4_readToken_60 : decode cX4_readToken 60 = .ok (.caload, 1) := by decide +kernel
theorem dX4_readToken_61 : decode cX4_readToken 61 = .ok (.invokestatic 186, 3) := by decide +kernel
theorem dX4_readToken_64 : decode cX4_readToken 64 = .ok (.goto 6, 3) := by decide +kernel
theorem dX4_readToken_67 : decode cX4_readToken 67 = .ok (.sipush 256, 3) := by decide +kernel
theorem dX4_readToken_70 : decode cX4_readToken 70 = .ok (.putfield 43, 3) := by decide +kernel
theorem dX4_readToken_73 : decode cX4_readToken 73 = .ok (.aload_n 0, 1) := by decide +kernel
theorem dX4_readToken_74 : decode cX4_readToken 74 = .ok (.iconst (-1), 1) := by decide +kernel
theorem dX4_readToken_75 : decode cX4_readToken 75 = .ok (.putfield 46, 3) := by decide +kernel
theorem dX4_readToken_78 : decode cX4_readToken 78 = .ok (.aload_n 0, 1) := by decide +kernel
theorem dX4_readToken_79 : decode cX4_readToken 79 = .ok (.getfield 43, 3) := by decide +kernel
theorem dX4_readToken_82 : decode cX4_readToken 82 = .ok (.sipush 257, 3) := by decide +kernel
theorem dX4_readToken_85 : decode cX4_readToken 85 = .ok (.if_icmp .eq 13, 3) := by decide +kernel
theorem dX4_readToken_88 : decode cX4_readToken 88 = .ok (.aload_n 0, 1) := by decide +kernel
theorem dX4_readToken_89 : decode cX4_readToken 89 = .ok (.getfield 43, 3) := by decide +kernel
theorem dX4_readToken_92 : decode cX4_readToken 92 = .ok (.sipush 258, 3) := by decide +kernel
theorem dX4_readToken_95 : decode cX4_readToken 95 = .ok (.if_icmp .ne 7, 3) := by decide +kernel
theorem dX4_readToken_98 : decode cX4_readToken 98 = .ok (.iconst 1, 1) := by decide +kernel
theorem dX4_readToken_99 : decode cX4_readToken 99 = .ok (.goto 4, 3) := by decide +kernel
theorem dX4_readToken_102 : decode cX4_readToken 102 = .ok (.iconst 0, 1) := by decide +kernel
theorem dX4_readToken_103 : decode cX4_readToken 103 = .ok (.istore_n 2, 1) := by decide +kernel
theorem dX4_readToken_104 : decode cX4_readToken 104 = .ok (.iload_n 2, 1) := by decide +kernel
theorem dX4_readToken_105 : decode cX4_readToken 105 = .ok (.ifCond .eq 33, 3) := by decide +kernel
theorem dX4_readToken_108 : decode cX4_readToken 108 = .ok (.iload_n 1, 1) := by decide +kernel
theorem dX4_readToken_109 : decode cX4_readToken 109 = .ok (.aload_n 0, 1) := by decide +kernel
theorem dX4_readToken_110 : decode cX4_readToken 110 = .ok (.getfield 19, 3) := by decide +kernel
theorem dX4_readToken_113 : decode cX4_readToken 113 = .ok (.if_icmp .ge 38, 3) := by decide +kernel
theorem dX4_readToken_116 : decode cX4_readToken 116 = .ok (.aload_n 0, 1) := by decide +kernel
theorem dX4_readToken_117 : decode cX4_readToken 117 = .ok (.getfield 9, 3) := by decide +kernel
theorem dX4_readToken_120 : decode cX4_readToken 120 = .ok (.iload_n 1, 1) := by decide +kernel
theorem dX4_readToken_121 : decode cX4_readToken 121 = .ok (.caload, 1) := by decide +kernel
theorem dX4_readToken_122 : decode cX4_readToken 122 = .ok (.invokestatic 186, 3) := by decide +kernel
theorem dX4_readToken_125 : decode cX4_readToken 125 = .ok (.aload_n 0, 1) := by decide +kernel
theorem dX4_readToken_126 : decode cX4_readToken 126 = .ok (.getfield 43, 3) := by decide +kernel
theorem dX4_readToken_129 : decode cX4_readToken 129 = .ok (.if_icmp .ne 22, 3) := by decide +kernel
theorem dX4_readToken_132 : decode cX4_readToken 132 = .ok (.iinc 1 1, 3) := by decide +kernel
theorem dX4_readToken_135 : decode cX4_readToken 135 = .ok (.goto (-27), 3) := by decide +kernel
theorem dX4_readToken_138 : decode cX4_readToken 138 = .ok (.aload_n 0, 1) := by decide +kernel
theorem dX4_readToken_139 : decode cX4_readToken 139 = .ok (.getfield 43, 3) := by decide +kernel
theorem dX4_readToken_142 : decode cX4_readToken 142 = .ok (.sipush 256, 3) := by decide +kernel
theorem dX4_readToken_145 : decode cX4_readToken 145 = .ok (.if_icmp .eq 6, 3) := by decide +kernel
theorem dX4_readToken_148 : decode cX4_readToken 148 = .ok (.iinc 1 1, 3) := by decide +kernel
theorem dX4_readToken_151 : decode cX4_readToken 151 = .ok (.aload_n 0, 1) := by decide +kernel
theorem dX4_readToken_152 : decode cX4_readToken 152 = .ok (.iload_n 1, 1) := by decide +kernel
theorem dX4_readToken_153 : decode cX4_readToken 153 = .ok (.putfield 37, 3) := by decide +kernel
theorem dX4_readToken_156 : decode cX4_readToken 156 = .ok (.iload_n 2, 1) := by decide +kernel
theorem dX4_readToken_157 : decode cX4_readToken 157 = .ok (.ifCond .eq 40, 3) := by decide +kernel
theorem dX4_readToken_160 : decode cX4_readToken 160 = .ok (.aload_n 0, 1) := by decide +kernel
theorem dX4_readToken_161 : decode cX4_readToken 161 = .ok (.getfield 71, 3) := by decide +kernel
theorem dX4_readToken_164 : decode cX4_readToken 164 = .ok (.ifCond .le 33, 3) := by decide +kernel
theorem dX4_readToken_167 : decode cX4_readToken 167 = .ok (.aload_n 0, 1) := by decide +kernel
theorem dX4_readToken_168 : decode cX4_readToken 168 = .ok (.getfield 9, 3) := by decide +kernel
theorem dX4_readToken_171 : decode cX4_readToken 171 = .ok (.aload_n 0, 1) := by decide +kernel
theorem dX4_readToken_172 : decode cX4_readToken 172 = .ok (.getfield 71, 3) := by decide +kernel
theorem dX4_readToken_175 : decode cX4_readToken 175 = .ok (.iconst 1, 1) := by decide +kernel
theorem dX4_readToken_176 : decode cX4_readToken 176 = .ok (.isub, 1) := by decide +kernel
theorem dX4_readToken_177 : decode cX4_readToken 177 = .ok (.caload, 1) := by decide +kernel
theorem dX4_readToken_178 : decode cX4_readToken 178 = .ok (.invokestatic 186, 3) := by decide +kernel
theorem dX4_readToken_181 : decode cX4_readToken 181 = .ok (.sipush 257, 3) := by decide +kernel
theorem dX4_readToken_184 : decode cX4_readToken 184 = .ok (.if_icmp .lt 13, 3) := by decide +kernel
theorem dX4_readToken_187 : decode cX4_readToken 187 = .ok (.aload_n 0, 1) := by decide +kernel
theorem dX4_readToken_188 : decode cX4_readToken 188 = .ok (.sipush 259, 3) := by decide +kernel
theorem dX4_readToken_191 : decode cX4_readToken 191 = .ok (.putfield 43, 3) := by decide +kernel
theorem dX4_readToken_194 : decode cX4_readToken 194 = .ok (.goto 21, 3) := by decide +kernel
theorem dX4_readToken_197 : decode cX4_readToken 197 = .ok (.aload_n 0, 1) := by decide +kernel
theorem dX4_readToken_198 : decode cX4_readToken 198 = .ok (.getfield 43, 3) := by decide +kernel
theorem dX4_readToken_201 : decode cX4_readToken 201 = .ok (.sipush 257, 3) := by decide +kernel
theorem dX4_readToken_204 : decode cX4_readToken 204 = .ok (.if_icmp .ne 11, 3) := by decide +kernel
theorem dX4_readToken_207 : decode cX4_readToken 207 = .ok (.aload_n 0, 1) := by decide +kernel
theorem dX4_readToken_208 : decode cX4_readToken 208 = .ok (.aload_n 0, 1) := by decide +kernel
theorem dX4_readToken_209 : decode cX4_readToken 209 = .ok (.invokevirtual 190, 3) := by decide +kernel
theorem dX4_readToken_212 : decode cX4_readToken 212 = .ok (.putfield 46, 3) := by decide +kernel
theorem dX4_readToken_215 : decode cX4_readToken 215 = .ok (.return_, 1) := by decide +kernel
theorem dX4_ownWord_0 : decode cX4_ownWord 0 = .ok (.iconst 0, 1) := by decide +kernel
theorem dX4_ownWord_1 : decode cX4_ownWord 1 = .ok (.istore_n 1, 1) := by decide +kernel
theorem dX4_ownWord_2 : decode cX4_ownWord 2 = .ok (.iconst 0, 1) := by decide +kernel
theorem dX4_ownWord_3 : decode cX4_ownWord 3 = .ok (.istore_n 2, 1) := by decide +kernel
theorem dX4_ownWord_4 : decode cX4_ownWord 4 = .ok (.iconst 1, 1) := by decide +kernel
theorem dX4_ownWord_5 : decode cX4_ownWord 5 = .ok (.istore_n 3, 1) := by decide +kernel
theorem dX4_ownWord_6 : decode cX4_ownWord 6 = .ok (.iconst 0, 1) := by decide +kernel
theorem dX4_ownWord_7 : decode cX4_ownWord 7 = .ok (.istore 4, 2) := by decide +kernel
theorem dX4_ownWord_9 : decode cX4_ownWord 9 = .ok (.iload 4, 2) := by decide +kernel
theorem dX4_ownWord_11 : decode cX4_ownWord 11 = .ok (.ldc 193, 2) := by decide +kernel
theorem dX4_ownWord_13 : decode cX4_ownWord 13 = .ok (.invokevirtual 195, 3) := by decide +kernel
theorem dX4_ownWord_16 : decode cX4_ownWord 16 = .ok (.if_icmp .ge 96, 3) := by decide +kernel
theorem dX4_ownWord_19 : decode cX4_ownWord 19 = .ok (.aload_n 0, 1) := by decide +kernel
theorem dX4_ownWord_20 : decode cX4_ownWord 20 = .ok (.getfield 71, 3) := by decide +kernel
theorem dX4_ownWord_23 : decode cX4_ownWord 23 = .ok (.iload 4, 2) := by decide +kernel
theorem dX4_ownWord_25 : decode cX4_ownWord 25 = .ok (.iadd, 1) := by decide +kernel
theorem dX4_ownWord_26 : decode cX4_ownWord 26 = .ok (.iload_n 2, 1) := by decide +kernel
theorem dX4_ownWord_27 : decode cX4_ownWord 27 = .ok (.isub, 1) := by decide +kernel
theorem dX4_ownWord_28 : decode cX4_ownWord 28 = .ok (.istore 5, 2) := by decide +kernel
theorem dX4_ownWord_30 : decode cX4_ownWord 30 = .ok (.ldc 193, 2) := by decide +kernel
theorem dX4_ownWord_32 : decode cX4_ownWord 32 = .ok (.iload 4, 2) := by decide +kernel
theorem dX4_ownWord_34 : decode cX4_ownWord 34 = .ok (.invokevirtual 199, 3) := by decide +kernel
theorem dX4_ownWord_37 : decode cX4_ownWord 37 = .ok (.bipush 32, 2) := by decide +kernel
theorem dX4_ownWord_39 : decode cX4_ownWord 39 = .ok (.if_icmp .eq 42, 3) := by decide +kernel
theorem dX4_ownWord_42 : decode cX4_ownWord 42 = .ok (.iload_n 3, 1) := by decide +kernel
theorem dX4_ownWord_43 : decode cX4_ownWord 43 = .ok (.ifCond .eq 33, 3) := by decide +kernel
theorem dX4_ownWord_46 : decode cX4_ownWord 46 = .ok (.iload 5, 2) := by decide +kernel
theorem dX4_ownWord_48 : decode cX4_ownWord 48 = .ok (.aload_n 0, 1) := by decide +kernel
theorem dX4_ownWord_49 : decode cX4_ownWord 49 = .ok (.getfield 37, 3) := by decide +kernel
theorem dX4_ownWord_52 : decode cX4_ownWord 52 = .ok (.if_icmp .ge 24, 3) := by decide +kernel
theorem dX4_ownWord_55 : decode cX4_ownWord 55 = .ok (.aload_n 0, 1) := by decide +kernel
theorem dX4_ownWord_56 : decode cX4_ownWord 56 = .ok (.getfield 9, 3) := by decide +kernel
theorem dX4_ownWord_59 : decode cX4_ownWord 59 = .ok (.iload 5, 2) := by decide +kernel
theorem dX4_ownWord_61 : decode cX4_ownWord 61 = .ok (.caload, 1) := by decide +kernel
theorem dX4_ownWord_62 : decode cX4_ownWord 62 = .ok (.ldc 193, 2) := by decide +kernel
theorem dX4_ownWord_64 : decode cX4_ownWord 64 = .ok (.iload 4, 2) := by decide +kernel
theorem dX4_ownWord_66 : decode cX4_ownWord 66 = .ok (.invokevirtual 199, 3) := by decide +kernel
theorem dX4_ownWord_69 : decode cX4_ownWord 69 = .ok (.if_icmp .ne 7, 3) := by decide +kernel
theorem dX4_ownWord_72 : decode cX4_ownWord 72 = .ok (.iconst 1, 1) := by decide +kernel
theorem dX4_ownWord_73 : decode cX4_ownWord 73 = .ok (.goto 4, 3) := by decide +kernel
theorem dX4_ownWord_76 : decode cX4_ownWord 76 = .ok (.iconst 0, 1) := by decide +kernel
theorem dX4_ownWord_77 : decode cX4_ownWord 77 = .ok (.istore_n 3, 1) := by decide +kernel
theorem dX4_ownWord_78 : decode cX4_ownWord 78 = .ok (.goto 28, 3) := by decide +kernel
theorem dX4_ownWord_81 : decode cX4_ownWord 81 = .ok (.iload_n 3, 1) := by decide +kernel
theorem dX4_ownWord_82 : decode cX4_ownWord 82 = .ok (.ifCond .eq 14, 3) := by decide +kernel
theorem dX4_ownWord_85 : decode cX4_ownWord 85 = .ok (.iload 5, 2) := by decide +kernel
theorem dX4_ownWord_87 : decode cX4_ownWord 87 = .ok (.aload_n 0, 1) := by decide +kernel
theorem dX4_ownWord_88 : decode cX4_ownWord 88 = .ok (.getfield 37, 3) := by decide +kernel
theorem dX4_ownWord_91 : decode cX4_ownWord 91 = .ok (.if_icmp .ne 5, 3) := by decide +kernel
theorem dX4_ownWord_94 : decode cX4_ownWord 94 = .ok (.iload_n 1, 1) := by decide +kernel
theorem dX4_ownWord_95 : decode cX4_ownWord 95 = .ok (.ireturn, 1) := by decide +kernel
theorem dX4_ownWord_96 : decode cX4_ownWord 96 = .ok (.iinc 1 1, 3) := by decide +kernel
theorem dX4_ownWord_99 : decode cX4_ownWord 99 = .ok (.iload 4, 2) := by decide +kernel
theorem dX4_ownWord_101 : decode cX4_ownWord 101 = .ok (.iconst 1, 1) := by decide +kernel
theorem dX4_ownWord_102 : decode cX4_ownWord 102 = .ok (.iadd, 1) := by decide +kernel
theorem dX4_ownWord_103 : decode cX4_ownWord 103 = .ok (.istore_n 2, 1) := by decide +kernel
theorem dX4_ownWord_104 : decode cX4_ownWord 104 = .ok (.iconst 1, 1) := by decide +kernel
theorem dX4_ownWord_105 : decode cX4_ownWord 105 = .ok (.istore_n 3, 1) := by decide +kernel
theorem dX4_ownWord_106 : decode cX4_ownWord 106 = .ok (.iinc 4 1, 3) := by decide +kernel
theorem dX4_ownWord_109 : decode cX4_ownWord 109 = .ok (.goto (-100), 3) := by decide +kernel
theorem dX4_ownWord_112 : decode cX4_ownWord 112 = .ok (.iconst (-1), 1) := by decide +kernel
theorem dX4_ownWord_113 : decode cX4_ownWord 113 = .ok (.ireturn, 1) := by decide +kernel
theorem dX4_kindOf_0 : decode cX4_kindOf 0 = .ok (.iload_n 0, 1) := by decide +kernel
theorem dX4_kindOf_1 : decode cX4_kindOf 1 = .ok (.bipush 97, 2) := by decide +kernel
theorem dX4_kindOf_3 : decode cX4_kindOf 3 = .ok (.if_icmp .lt 9, 3) := by decide +kernel
theorem dX4_kindOf_6 : decode cX4_kindOf 6 = .ok (.iload_n 0, 1) := by decide +kernel
theorem dX4_kindOf_7 : decode cX4_kindOf 7 = .ok (.bipush 122, 2) := by decide +kernel
theorem dX4_kindOf_9 : decode cX4_kindOf 9 = .ok (.if_icmp .le 15, 3) := by decide +kernel
theorem dX4_kindOf_12 : decode cX4_kindOf 12 = .ok (.iload_n 0, 1) := by decide +kernel
theorem dX4_kindOf_13 : decode cX4_kindOf 13 = .ok (.bipush 65, 2) := by decide +kernel
theorem dX4_kindOf_15 : decode cX4_kindOf 15 = .ok (.if_icmp .lt 13, 3) := by decide +kernel
theorem dX4_kindOf_18 : decode cX4_kindOf 18 = .ok (.iload_n 0, 1) := by decide +kernel
theorem dX4_kindOf_19 : decode cX4_kindOf 19 = .ok (.bipush 90, 2) := by decide +kernel
theorem dX4_kindOf_21 : decode cX4_kindOf 21 = .ok (.if_icmp .gt 7, 3) := by decide +kernel
theorem dX4_kindOf_24 : decode cX4_kindOf 24 = .ok (.sipush 257, 3) := by decide +kernel
theorem dX4_kindOf_27 : decode cX4_kindOf 27 = .ok (.ireturn, 1) := by decide +kernel
theorem dX4_kindOf_28 : decode cX4_kindOf 28 = .ok (.iload_n 0, 1) := by decide +kernel
theorem dX4_kindOf_29 : decode cX4_kindOf 29 = .ok (.bipush 48, 2) := by decide +kernel
theorem dX4_kindOf_31 : decode cX4_kindOf 31 = .ok (.if_icmp .lt 15, 3) := by decide +kernel
theorem dX4_kindOf_34 : decode cX4_kindOf 34 = .ok (.iload_n 0, 1) := by decide +kernel
theorem dX4_kindOf_35 : decode cX4_kindOf 35 = .ok (.bipush 57, 2) := by decide +kernel
theorem dX4_kindOf_37 : decode cX4_kindOf 37 = .ok (.if_icmp .gt 9, 3) := by decide +kernel
theorem dX4_kindOf_40 : decode cX4_kindOf 40 = .ok (.sipush 258, 3) := by decide +kernel
theorem dX4_kindOf_43 : decode cX4_kindOf 43 = .ok (.goto 4, 3) := by decide +kernel
theorem dX4_kindOf_46 : decode cX4_kindOf 46 = .ok (.iload_n 0, 1) := by decide +kernel
theorem dX4_kindOf_47 : decode cX4_kindOf 47 = .ok (.ireturn, 1) := by decide +kernel
theorem dX5_init_0 : decode cX5_init 0 = .ok (.aload_n 0, 1) := by decide +kernel
theorem dX5_init_1 : decode cX5_init 1 = .ok (.invokespecial 3, 3) := by decide +kernel
theorem dX5_init_4 : decode cX5_init 4 = .ok (.aload_n 0, 1) := by decide +kernel
theorem dX5_init_5 : decode cX5_init 5 = .ok (.sipush 1800, 3) := by decide +kernel
theorem dX5_init_8 : decode cX5_init 8 = .ok (.newarray .int, 2) := by decide +kernel
theorem dX5_init_10 : decode cX5_init 10 = .ok (.putfield 9, 3) := by decide +kernel
theorem dX5_init_13 : decode cX5_init 13 = .ok (.aload_n 0, 1) := by decide +kernel
theorem dX5_init_14 : decode cX5_init 14 = .ok (.bipush 30, 2) := by decide +kernel
theorem dX5_init_16 : decode cX5_init 16 = .ok (.newarray .int, 2) := by decide +kernel
theorem dX5_init_18 : decode cX5_init 18 = .ok (.putfield 15, 3) := by decide +kernel
theorem dX5_init_21 : decode cX5_init 21 = .ok (.aload_n 0, 1) := by decide +kernel
theorem dX5_init_22 : decode cX5_init 22 = .ok (.bipush 30, 2) := by decide +kernel
theorem dX5_init_24 : decode cX5_init 24 = .ok (.newarray .int, 2) := by decide +kernel
theorem dX5_init_26 : decode cX5_init 26 = .ok (.putfield 18, 3) := by decide +kernel
theorem dX5_init_29 : decode cX5_init 29 = .ok (.aload_n 0, 1) := by decide +kernel
theorem dX5_init_30 : decode cX5_init 30 = .ok (.bipush 10, 2) := by decide +kernel
theorem dX5_init_32 : decode cX5_init 32 = .ok (.newarray .int, 2) := by decide +kernel
theorem dX5_init_34 : decode cX5_init 34 = .ok (.putfield 21, 3) := by decide +kernel
theorem dX5_init_37 : decode cX5_init 37 = .ok (.aload_n 0, 1) := by decide +kernel
theorem dX5_init_38 : decode cX5_init 38 = .ok (.aload_n 1, 1) := by decide +kernel
theorem dX5_init_39 : decode cX5_init 39 = .ok (.putfield 24, 3) := by decide +kernel
theorem dX5_init_42 : decode cX5_init 42 = .ok (.return_, 1) := by decide +kernel
theorem dX5_fill_0 : decode cX5_fill 0 = .ok (.aload_n 0, 1) := by decide +kernel
theorem dX5_fill_1 : decode cX5_fill 1 = .ok (.aload_n 1, 1) := by decide +kernel
theorem dX5_fill_2 : decode cX5_fill 2 = .ok (.getfield 28, 3) := by decide +kernel
theorem dX5_fill_5 : decode cX5_fill 5 = .ok (.putfield 34, 3) := by decide +kernel
theorem dX5_fill_8 : decode cX5_fill 8 = .ok (.aload_n 0, 1) := by decide +kernel
theorem dX5_fill_9 : decode cX5_fill 9 = .ok (.getfield 9, 3) := by decide +kernel
theorem dX5_fill_12 : decode cX5_fill 12 = .ok (.iconst (-1), 1) := by decide +kernel
theorem dX5_fill_13 : decode cX5_fill 13 = .ok (.invokestatic 35, 3) := by decide +kernel
theorem dX5_fill_16 : decode cX5_fill 16 = .ok (.aload_n 0, 1) := by decide +kernel
theorem dX5_fill_17 : decode cX5_fill 17 = .ok (.getfield 15, 3) := by decide +kernel
theorem dX5_fill_20 : decode cX5_fill 20 = .ok (.bipush 100, 2) := by decide +kernel
theorem dX5_fill_22 : decode cX5_fill 22 = .ok (.invokestatic 35, 3) := by decide +kernel
theorem dX5_fill_25 : decode cX5_fill 25 = .ok (.aload_n 0, 1) := by decide +kernel
theorem dX5_fill_26 : decode cX5_fill 26 = .ok (.getfield 18, 3) := by decide +kernel
theorem dX5_fill_29 : decode cX5_fill 29 = .ok (.iconst 0, 1) := by decide +kernel
theorem dX5_fill_30 : decode cX5_fill 30 = .ok (.invokestatic 35, 3) := by decide +kernel
theorem dX5_fill_33 : decode cX5_fill 33 = .ok (.iconst 1, 1) := by decide +kernel
theorem dX5_fill_34 : decode cX5_fill 34 = .ok (.istore_n 3, 1) := by decide +kernel
theorem dX5_fill_35 : decode cX5_fill 35 = .ok (.iload_n 3, 1) := by decide +kernel
theorem dX5_fill_36 : decode cX5_fill 36 = .ok (.iload_n 2, 1) := by decide +kernel
theorem dX5_fill_37 : decode cX5_fill 37 = .ok (.if_icmp .gt 74, 3) := by decide +kernel
theorem dX5_fill_40 : decode cX5_fill 40 = .ok (.aload_n 0, 1) := by decide +kernel
theorem dX5_fill_41 : decode cX5_fill 41 = .ok (.getfield 24, 3) := by decide +kernel
theorem dX5_fill_44 : decode cX5_fill 44 = .ok (.iload_n 3, 1) := by decide +kernel
theorem dX5_fill_45 : decode cX5_fill 45 = .ok (.iconst 2, 1) := by decide +kernel
theorem dX5_fill_46 : decode cX5_fill 46 = .ok (.iload_n 2, 1) := by decide +kernel
theorem dX5_fill_47 : decode cX5_fill 47 = .ok (.invokevirtual 43, 3) := by decide +kernel
theorem dX5_fill_50 : decode cX5_fill 50 = .ok (.ifCond .eq 55, 3) := by decide +kernel
theorem dX5_fill_53 : decode cX5_fill 53 = .ok (.aload_n 0, 1) := by decide +kernel
theorem dX5_fill_54 : decode cX5_fill 54 = .ok (.aload_n 0, 1) := by decide +kernel
theorem dX5_fill_55 : decode cX5_fill 55 = .ok (.getfield 24, 3) := by decide +kernel
theorem dX5_fill_58 : decode cX5_fill 58 = .ok (.getfield 47, 3) := by decide +kernel
theorem dX5_fill_61 : decode cX5_fill 61 = .ok (.iload_n 3, 1) := by decide +kernel
theorem dX5_fill_62 : decode cX5_fill 62 = .ok (.iaload, 1) := by decide +kernel
theorem dX5_fill_63 : decode cX5_fill 63 = .ok (.aload_n 0, 1) := by decide +kernel
theorem dX5_fill_64 : decode cX5_fill 64 = .ok (.getfield 24, 3) := by decide +kernel
theorem dX5_fill_67 : decode cX5_fill 67 = .ok (.getfield 50, 3) := by decide +kernel
theorem dX5_fill_70 : decode cX5_fill 70 = .ok (.iload_n 3, 1) := by decide +kernel
theorem dX5_fill_71 : decode cX5_fill 71 = .ok (.iaload, 1) := by decide +kernel
theorem dX5_fill_72 : decode cX5_fill 72 = .ok (.aload_n 0, 1) := by decide +kernel
theorem dX5_fill_73 : decode cX5_fill 73 = .ok (.getfield 24, 3) := by decide +kernel
theorem dX5_fill_76 : decode cX5_fill 76 = .ok (.getfield 53, 3) := by decide +kernel
theorem dX5_fill_79 : decode cX5_fill 79 = .ok (.iload_n 3, 1) := by decide +kernel
theorem dX5_fill_80 : decode cX5_fill 80 = .ok (.iaload, 1) := by decide +kernel
theorem dX5_fill_81 : decode cX5_fill 81 = .ok (.invokestatic 56, 3) := by decide +kernel
theorem dX5_fill_84 : decode cX5_fill 84 = .ok (.aload_n 0, 1) := by decide +kernel
theorem dX5_fill_85 : decode cX5_fill 85 = .ok (.getfield 24, 3) := by decide +kernel
theorem dX5_fill_88 : decode cX5_fill 88 = .ok (.getfield 47, 3) := by decide +kernel
theorem dX5_fill_91 : decode cX5_fill 91 = .ok (.iload_n 3, 1) := by decide +kernel
theorem dX5_fill_92 : decode cX5_fill 92 = .ok (.iaload, 1) := by decide +kernel
theorem dX5_fill_93 : decode cX5_fill 93 = .ok (.aload_n 0, 1) := by decide +kernel
theorem dX5_fill_94 : decode cX5_fill 94 = .ok (.getfield 24, 3) := by decide +kernel
theorem dX5_fill_97 : decode cX5_fill 97 = .ok (.getfield 60, 3) := by decide +kernel
theorem dX5_fill_100 : decode cX5_fill 100 = .ok (.iload_n 3, 1) := by decide +kernel
theorem dX5_fill_101 : decode cX5_fill 101 = .ok (.iaload, 1) := by decide +kernel
theorem dX5_fill_102 : decode cX5_fill 102 = .ok (.invokevirtual 63, 3) := by decide +kernel
theorem dX5_fill_105 : decode cX5_fill 105 = .ok (.iinc 3 1, 3) := by decide +kernel
theorem dX5_fill_108 : decode cX5_fill 108 = .ok (.goto (-73), 3) := by decide +kernel
theorem dX5_fill_111 : decode cX5_fill 111 = .ok (.aload_n 0, 1) := by decide +kernel
theorem dX5_fill_112 : decode cX5_fill 112 = .ok (.aload_n 1, 1) := by decide +kernel
theorem dX5_fill_113 : decode cX5_fill 113 = .ok (.getfield 67, 3) := by decide +kernel
theorem dX5_fill_116 : decode cX5_fill 116 = .ok (.invokevirtual 71, 3) := by decide +kernel
theorem dX5_fill_119 : decode cX5_fill 119 = .ok (.return_, 1) := by decide +kernel
theorem dX5_write_0 : decode cX5_write 0 = .ok (.aload_n 0, 1) := by decide +kernel
theorem dX5_write_1 : decode cX5_write 1 = .ok (.getfield 9, 3) := by decide +kernel
theorem dX5_write_4 : decode cX5_write 4 = .ok (.iload_n 1, 1) := by decide +kernel
theorem dX5_write_5 : decode cX5_write 5 = .ok (.iaload, 1) := by decide +kernel
theorem dX5_write_6 : decode cX5_write 6 = .ok (.iconst (-1), 1) := by decide +kernel
theorem dX5_write_7 : decode cX5_write 7 = .ok (.if_icmp .ne 42, 3) := by decide +kernel
theorem dX5_write_10 : decode cX5_write 10 = .ok (.aload_n 0, 1) := by decide +kernel
theorem dX5_write_11 : decode cX5_write 11 = .ok (.getfield 9, 3) := by decide +kernel
theorem dX5_write_14 : decode cX5_write 14 = .ok (.iload_n 1, 1) := by decide +kernel
theorem dX5_write_15 : decode cX5_write 15 = .ok (.iload_n 3, 1) := by decide +kernel
theorem dX5_write_16 : decode cX5_write 16 = .ok (.iastore, 1) := by decide +kernel
theorem dX5_write_17 : decode cX5_write 17 = .ok (.aload_n 0, 1) := by decide +kernel
theorem dX5_write_18 : decode cX5_write 18 = .ok (.getfield 15, 3) := by decide +kernel
