theorem dX9_codesOf_113 : decode cX9_codesOf 113 = .ok (.aload_n 0, 1) := by decide +kernel
theorem dX9_codesOf_114 : decode cX9_codesOf 114 = .ok (.getfield 182, 3) := by decide +kernel
theorem dX9_codesOf_117 : decode cX9_codesOf 117 = .ok (.bipush 90, 2) := by decide +kernel
theorem dX9_codesOf_119 : decode cX9_codesOf 119 = .ok (.iload_n 1, 1) := by decide +kernel
theorem dX9_codesOf_120 : decode cX9_codesOf 120 = .ok (.imul, 1) := by decide +kernel
theorem dX9_codesOf_121 : decode cX9_codesOf 121 = .ok (.iload 4, 2) := by decide +kernel
theorem dX9_codesOf_123 : decode cX9_codesOf 123 = .ok (.iadd, 1) := by decide +kernel
theorem dX9_codesOf_124 : decode cX9_codesOf 124 = .ok (.iload 5, 2) := by decide +kernel
theorem dX9_codesOf_126 : decode cX9_codesOf 126 = .ok (.iastore, 1) := by decide +kernel
theorem dX9_codesOf_127 : decode cX9_codesOf 127 = .ok (.iinc 4 1, 3) := by decide +kernel
theorem dX9_codesOf_130 : decode cX9_codesOf 130 = .ok (.goto (-99), 3) := by decide +kernel
theorem dX9_codesOf_133 : decode cX9_codesOf 133 = .ok (.return_, 1) := by decide +kernel
theorem dX9_isTrial_0 : decode cX9_isTrial 0 = .ok (.iload_n 1, 1) := by decide +kernel
theorem dX9_isTrial_1 : decode cX9_isTrial 1 = .ok (.i2l, 1) := by decide +kernel
theorem dX9_isTrial_2 : decode cX9_isTrial 2 = .ok (.lconst 0, 1) := by decide +kernel
theorem dX9_isTrial_3 : decode cX9_isTrial 3 = .ok (.aload_n 0, 1) := by decide +kernel
theorem dX9_isTrial_4 : decode cX9_isTrial 4 = .ok (.getfield 436, 3) := by decide +kernel
theorem dX9_isTrial_7 : decode cX9_isTrial 7 = .ok (.iconst 1, 1) := by decide +kernel
theorem dX9_isTrial_8 : decode cX9_isTrial 8 = .ok (.isub, 1) := by decide +kernel
theorem dX9_isTrial_9 : decode cX9_isTrial 9 = .ok (.i2l, 1) := by decide +kernel
theorem dX9_isTrial_10 : decode cX9_isTrial 10 = .ok (.invokestatic 285, 3) := by decide +kernel
theorem dX9_isTrial_13 : decode cX9_isTrial 13 = .ok (.ireturn, 1) := by decide +kernel
theorem dX9_isTaster_0 : decode cX9_isTaster 0 = .ok (.iload_n 0, 1) := by decide +kernel
theorem dX9_isTaster_1 : decode cX9_isTaster 1 = .ok (.i2l, 1) := by decide +kernel
theorem dX9_isTaster_2 : decode cX9_isTaster 2 = .ok (.lconst 0, 1) := by decide +kernel
theorem dX9_isTaster_3 : decode cX9_isTaster 3 = .ok (.ldc2_w 468, 3) := by decide +kernel
theorem dX9_isTaster_6 : decode cX9_isTaster 6 = .ok (.invokestatic 285, 3) := by decide +kernel
theorem dX9_isTaster_9 : decode cX9_isTaster 9 = .ok (.ireturn, 1) := by decide +kernel
theorem dX9_code_0 : decode cX9_code 0 = .ok (.aload_n 0, 1) := by decide +kernel
theorem dX9_code_1 : decode cX9_code 1 = .ok (.iload_n 1, 1) := by decide +kernel
theorem dX9_code_2 : decode cX9_code 2 = .ok (.invokevirtual 470, 3) := by decide +kernel
theorem dX9_code_5 : decode cX9_code 5 = .ok (.ifCond .eq 49, 3) := by decide +kernel
theorem dX9_code_8 : decode cX9_code 8 = .ok (.iload_n 2, 1) := by decide +kernel
theorem dX9_code_9 : decode cX9_code 9 = .ok (.invokestatic 473, 3) := by decide +kernel
theorem dX9_code_12 : decode cX9_code 12 = .ok (.ifCond .eq 42, 3) := by decide +kernel
theorem dX9_code_15 : decode cX9_code 15 = .ok (.iload_n 3, 1) := by decide +kernel
theorem dX9_code_16 : decode cX9_code 16 = .ok (.i2l, 1) := by decide +kernel
theorem dX9_code_17 : decode cX9_code 17 = .ok (.lconst 0, 1) := by decide +kernel
theorem dX9_code_18 : decode cX9_code 18 = .ok (.aload_n 0, 1) := by decide +kernel
theorem dX9_code_19 : decode cX9_code 19 = .ok (.iload_n 1, 1) := by decide +kernel
theorem dX9_code_20 : decode cX9_code 20 = .ok (.invokevirtual 454, 3) := by decide +kernel
theorem dX9_code_23 : decode cX9_code 23 = .ok (.iconst 1, 1) := by decide +kernel
theorem dX9_code_24 : decode cX9_code 24 = .ok (.isub, 1) := by decide +kernel
theorem dX9_code_25 : decode cX9_code 25 = .ok (.i2l, 1) := by decide +kernel
theorem dX9_code_26 : decode cX9_code 26 = .ok (.invokestatic 285, 3) := by decide +kernel
theorem dX9_code_29 : decode cX9_code 29 = .ok (.ifCond .eq 25, 3) := by decide +kernel
theorem dX9_code_32 : decode cX9_code 32 = .ok (.aload_n 0, 1) := by decide +kernel
theorem dX9_code_33 : decode cX9_code 33 = .ok (.getfield 182, 3) := by decide +kernel
theorem dX9_code_36 : decode cX9_code 36 = .ok (.bipush 90, 2) := by decide +kernel
theorem dX9_code_38 : decode cX9_code 38 = .ok (.iload_n 1, 1) := by decide +kernel
theorem dX9_code_39 : decode cX9_code 39 = .ok (.imul, 1) := by decide +kernel
theorem dX9_code_40 : decode cX9_code 40 = .ok (.aload_n 0, 1) := by decide +kernel
theorem dX9_code_41 : decode cX9_code 41 = .ok (.iload_n 1, 1) := by decide +kernel
theorem dX9_code_42 : decode cX9_code 42 = .ok (.invokevirtual 454, 3) := by decide +kernel
theorem dX9_code_45 : decode cX9_code 45 = .ok (.iload_n 2, 1) := by decide +kernel
theorem dX9_code_46 : decode cX9_code 46 = .ok (.imul, 1) := by decide +kernel
theorem dX9_code_47 : decode cX9_code 47 = .ok (.iadd, 1) := by decide +kernel
theorem dX9_code_48 : decode cX9_code 48 = .ok (.iload_n 3, 1) := by decide +kernel
theorem dX9_code_49 : decode cX9_code 49 = .ok (.iadd, 1) := by decide +kernel
theorem dX9_code_50 : decode cX9_code 50 = .ok (.iaload, 1) := by decide +kernel
theorem dX9_code_51 : decode cX9_code 51 = .ok (.goto 4, 3) := by decide +kernel
theorem dX9_code_54 : decode cX9_code 54 = .ok (.iconst (-1), 1) := by decide +kernel
theorem dX9_code_55 : decode cX9_code 55 = .ok (.ireturn, 1) := by decide +kernel
theorem dX9_cupOf_0 : decode cX9_cupOf 0 = .ok (.iconst 0, 1) := by decide +kernel
theorem dX9_cupOf_1 : decode cX9_cupOf 1 = .ok (.istore_n 3, 1) := by decide +kernel
theorem dX9_cupOf_2 : decode cX9_cupOf 2 = .ok (.iload_n 3, 1) := by decide +kernel
theorem dX9_cupOf_3 : decode cX9_cupOf 3 = .ok (.bipush 30, 2) := by decide +kernel
theorem dX9_cupOf_5 : decode cX9_cupOf 5 = .ok (.aload_n 0, 1) := by decide +kernel
theorem dX9_cupOf_6 : decode cX9_cupOf 6 = .ok (.iload_n 1, 1) := by decide +kernel
theorem dX9_cupOf_7 : decode cX9_cupOf 7 = .ok (.invokevirtual 454, 3) := by decide +kernel
theorem dX9_cupOf_10 : decode cX9_cupOf 10 = .ok (.imul, 1) := by decide +kernel
theorem dX9_cupOf_11 : decode cX9_cupOf 11 = .ok (.if_icmp .ge 26, 3) := by decide +kernel
theorem dX9_cupOf_14 : decode cX9_cupOf 14 = .ok (.aload_n 0, 1) := by decide +kernel
theorem dX9_cupOf_15 : decode cX9_cupOf 15 = .ok (.getfield 182, 3) := by decide +kernel
theorem dX9_cupOf_18 : decode cX9_cupOf 18 = .ok (.bipush 90, 2) := by decide +kernel
theorem dX9_cupOf_20 : decode cX9_cupOf 20 = .ok (.iload_n 1, 1) := by decide +kernel
theorem dX9_cupOf_21 : decode cX9_cupOf 21 = .ok (.imul, 1) := by decide +kernel
theorem dX9_cupOf_22 : decode cX9_cupOf 22 = .ok (.iload_n 3, 1) := by decide +kernel
theorem dX9_cupOf_23 : decode cX9_cupOf 23 = .ok (.iadd, 1) := by decide +kernel
theorem dX9_cupOf_24 : decode cX9_cupOf 24 = .ok (.iaload, 1) := by decide +kernel
theorem dX9_cupOf_25 : decode cX9_cupOf 25 = .ok (.iload_n 2, 1) := by decide +kernel
theorem dX9_cupOf_26 : decode cX9_cupOf 26 = .ok (.if_icmp .ne 5, 3) := by decide +kernel
theorem dX9_cupOf_29 : decode cX9_cupOf 29 = .ok (.iload_n 3, 1) := by decide +kernel
theorem dX9_cupOf_30 : decode cX9_cupOf 30 = .ok (.ireturn, 1) := by decide +kernel
theorem dX9_cupOf_31 : decode cX9_cupOf 31 = .ok (.iinc 3 1, 3) := by decide +kernel
theorem dX9_cupOf_34 : decode cX9_cupOf 34 = .ok (.goto (-32), 3) := by decide +kernel
theorem dX9_cupOf_37 : decode cX9_cupOf 37 = .ok (.iconst (-1), 1) := by decide +kernel
theorem dX9_cupOf_38 : decode cX9_cupOf 38 = .ok (.ireturn, 1) := by decide +kernel
theorem dX9_act_0 : decode cX9_act 0 = .ok (.aload_n 0, 1) := by decide +kernel
theorem dX9_act_1 : decode cX9_act 1 = .ok (.dup, 1) := by decide +kernel
theorem dX9_act_2 : decode cX9_act 2 = .ok (.getfield 445, 3) := by decide +kernel
theorem dX9_act_5 : decode cX9_act 5 = .ok (.iconst 1, 1) := by decide +kernel
theorem dX9_act_6 : decode cX9_act 6 = .ok (.iadd, 1) := by decide +kernel
theorem dX9_act_7 : decode cX9_act 7 = .ok (.putfield 445, 3) := by decide +kernel
theorem dX9_act_10 : decode cX9_act 10 = .ok (.aload_n 0, 1) := by decide +kernel
theorem dX9_act_11 : decode cX9_act 11 = .ok (.getfield 188, 3) := by decide +kernel
theorem dX9_act_14 : decode cX9_act 14 = .ok (.aload_n 0, 1) := by decide +kernel
theorem dX9_act_15 : decode cX9_act 15 = .ok (.getfield 445, 3) := by decide +kernel
theorem dX9_act_18 : decode cX9_act 18 = .ok (.iload_n 1, 1) := by decide +kernel
theorem dX9_act_19 : decode cX9_act 19 = .ok (.iastore, 1) := by decide +kernel
theorem dX9_act_20 : decode cX9_act 20 = .ok (.aload_n 0, 1) := by decide +kernel
theorem dX9_act_21 : decode cX9_act 21 = .ok (.getfield 191, 3) := by decide +kernel
theorem dX9_act_24 : decode cX9_act 24 = .ok (.aload_n 0, 1) := by decide +kernel
theorem dX9_act_25 : decode cX9_act 25 = .ok (.getfield 445, 3) := by decide +kernel
theorem dX9_act_28 : decode cX9_act 28 = .ok (.iload_n 2, 1) := by decide +kernel
theorem dX9_act_29 : decode cX9_act 29 = .ok (.iastore, 1) := by decide +kernel
theorem dX9_act_30 : decode cX9_act 30 = .ok (.aload_n 0, 1) := by decide +kernel
theorem dX9_act_31 : decode cX9_act 31 = .ok (.getfield 194, 3) := by decide +kernel
theorem dX9_act_34 : decode cX9_act 34 = .ok (.aload_n 0, 1) := by decide +kernel
theorem dX9_act_35 : decode cX9_act 35 = .ok (.getfield 445, 3) := by decide +kernel
theorem dX9_act_38 : decode cX9_act 38 = .ok (.iload_n 3, 1) := by decide +kernel
theorem dX9_act_39 : decode cX9_act 39 = .ok (.iastore, 1) := by decide +kernel
theorem dX9_act_40 : decode cX9_act 40 = .ok (.aload_n 0, 1) := by decide +kernel
theorem dX9_act_41 : decode cX9_act 41 = .ok (.getfield 197, 3) := by decide +kernel
theorem dX9_act_44 : decode cX9_act 44 = .ok (.aload_n 0, 1) := by decide +kernel
theorem dX9_act_45 : decode cX9_act 45 = .ok (.getfield 445, 3) := by decide +kernel
theorem dX9_act_48 : decode cX9_act 48 = .ok (.iload 4, 2) := by decide +kernel
theorem dX9_act_50 : decode cX9_act 50 = .ok (.iastore, 1) := by decide +kernel
theorem dX9_act_51 : decode cX9_act 51 = .ok (.aload_n 0, 1) := by decide +kernel
theorem dX9_act_52 : decode cX9_act 52 = .ok (.getfield 200, 3) := by decide +kernel
theorem dX9_act_55 : decode cX9_act 55 = .ok (.aload_n 0, 1) := by decide +kernel
theorem dX9_act_56 : decode cX9_act 56 = .ok (.getfield 445, 3) := by decide +kernel
theorem dX9_act_59 : decode cX9_act 59 = .ok (.iload 5, 2) := by decide +kernel
theorem dX9_act_61 : decode cX9_act 61 = .ok (.iastore, 1) := by decide +kernel
theorem dX9_act_62 : decode cX9_act 62 = .ok (.aload_n 0, 1) := by decide +kernel
theorem dX9_act_63 : decode cX9_act 63 = .ok (.getfield 203, 3) := by decide +kernel
theorem dX9_act_66 : decode cX9_act 66 = .ok (.aload_n 0, 1) := by decide +kernel
theorem dX9_act_67 : decode cX9_act 67 = .ok (.getfield 445, 3) := by decide +kernel
theorem dX9_act_70 : decode cX9_act 70 = .ok (.iconst 0, 1) := by decide +kernel
theorem dX9_act_71 : decode cX9_act 71 = .ok (.iastore, 1) := by decide +kernel
theorem dX9_act_72 : decode cX9_act 72 = .ok (.aload_n 0, 1) := by decide +kernel
theorem dX9_act_73 : decode cX9_act 73 = .ok (.getfield 445, 3) := by decide +kernel
theorem dX9_act_76 : decode cX9_act 76 = .ok (.ireturn, 1) := by decide +kernel
theorem dX9_answer_0 : decode cX9_answer 0 = .ok (.aload_n 0, 1) := by decide +kernel
theorem dX9_answer_1 : decode cX9_answer 1 = .ok (.iload_n 1, 1) := by decide +kernel
theorem dX9_answer_2 : decode cX9_answer 2 = .ok (.invokevirtual 470, 3) := by decide +kernel
theorem dX9_answer_5 : decode cX9_answer 5 = .ok (.ifCond .eq 27, 3) := by decide +kernel
theorem dX9_answer_8 : decode cX9_answer 8 = .ok (.iload_n 2, 1) := by decide +kernel
theorem dX9_answer_9 : decode cX9_answer 9 = .ok (.invokestatic 473, 3) := by decide +kernel
theorem dX9_answer_12 : decode cX9_answer 12 = .ok (.ifCond .eq 20, 3) := by decide +kernel
theorem dX9_answer_15 : decode cX9_answer 15 = .ok (.aload_n 0, 1) := by decide +kernel
theorem dX9_answer_16 : decode cX9_answer 16 = .ok (.getfield 448, 3) := by decide +kernel
theorem dX9_answer_19 : decode cX9_answer 19 = .ok (.ifCond .ne 13, 3) := by decide +kernel
theorem dX9_answer_22 : decode cX9_answer 22 = .ok (.aload_n 0, 1) := by decide +kernel
theorem dX9_answer_23 : decode cX9_answer 23 = .ok (.getfield 445, 3) := by decide +kernel
theorem dX9_answer_26 : decode cX9_answer 26 = .ok (.sipush 250, 3) := by decide +kernel
theorem dX9_answer_29 : decode cX9_answer 29 = .ok (.if_icmp .ne 5, 3) := by decide +kernel
theorem dX9_answer_32 : decode cX9_answer 32 = .ok (.iconst (-1), 1) := by decide +kernel
theorem dX9_answer_33 : decode cX9_answer 33 = .ok (.ireturn, 1) := by decide +kernel
theorem dX9_answer_34 : decode cX9_answer 34 = .ok (.iload_n 3, 1) := by decide +kernel
theorem dX9_answer_35 : decode cX9_answer 35 = .ok (.ifCond .ne 26, 3) := by decide +kernel
theorem dX9_answer_38 : decode cX9_answer 38 = .ok (.aload_n 0, 1) := by decide +kernel
theorem dX9_answer_39 : decode cX9_answer 39 = .ok (.getfield 152, 3) := by decide +kernel
theorem dX9_answer_42 : decode cX9_answer 42 = .ok (.iload_n 1, 1) := by decide +kernel
theorem dX9_answer_43 : decode cX9_answer 43 = .ok (.baload, 1) := by decide +kernel
theorem dX9_answer_44 : decode cX9_answer 44 = .ok (.ifCond .eq 7, 3) := by decide +kernel
theorem dX9_answer_47 : decode cX9_answer 47 = .ok (.iconst (-1), 1) := by decide +kernel
theorem dX9_answer_48 : decode cX9_answer 48 = .ok (.goto 12, 3) := by decide +kernel
theorem dX9_answer_51 : decode cX9_answer 51 = .ok (.aload_n 0, 1) := by decide +kernel
theorem dX9_answer_52 : decode cX9_answer 52 = .ok (.iconst 1, 1) := by decide +kernel
theorem dX9_answer_53 : decode cX9_answer 53 = .ok (.iload_n 1, 1) := by decide +kernel
theorem dX9_answer_54 : decode cX9_answer 54 = .ok (.iload_n 2, 1) := by decide +kernel
theorem dX9_answer_55 : decode cX9_answer 55 = .ok (.iconst (-1), 1) := by decide +kernel
theorem dX9_answer_56 : decode cX9_answer 56 = .ok (.iconst 0, 1) := by decide +kernel
theorem dX9_answer_57 : decode cX9_answer 57 = .ok (.invokevirtual 476, 3) := by decide +kernel
theorem dX9_answer_60 : decode cX9_answer 60 = .ok (.ireturn, 1) := by decide +kernel
theorem dX9_answer_61 : decode cX9_answer 61 = .ok (.aload_n 0, 1) := by decide +kernel
theorem dX9_answer_62 : decode cX9_answer 62 = .ok (.iload_n 1, 1) := by decide +kernel
theorem dX9_answer_63 : decode cX9_answer 63 = .ok (.iload_n 3, 1) := by decide +kernel
theorem dX9_answer_64 : decode cX9_answer 64 = .ok (.invokevirtual 480, 3) := by decide +kernel
theorem dX9_answer_67 : decode cX9_answer 67 = .ok (.istore 4, 2) := by decide +kernel
theorem dX9_answer_69 : decode cX9_answer 69 = .ok (.iload 4, 2) := by decide +kernel
theorem dX9_answer_71 : decode cX9_answer 71 = .ok (.iconst (-1), 1) := by decide +kernel
theorem dX9_answer_72 : decode cX9_answer 72 = .ok (.if_icmp .eq 28, 3) := by decide +kernel
theorem dX9_answer_75 : decode cX9_answer 75 = .ok (.iload 4, 2) := by decide +kernel
theorem dX9_answer_77 : decode cX9_answer 77 = .ok (.aload_n 0, 1) := by decide +kernel
theorem dX9_answer_78 : decode cX9_answer 78 = .ok (.iload_n 1, 1) := by decide +kernel
theorem dX9_answer_79 : decode cX9_answer 79 = .ok (.invokevirtual 454, 3) := by decide +kernel
theorem dX9_answer_82 : decode cX9_answer 82 = .ok (.idiv, 1) := by decide +kernel
theorem dX9_answer_83 : decode cX9_answer 83 = .ok (.iload_n 2, 1) := by decide +kernel
theorem dX9_answer_84 : decode cX9_answer 84 = .ok (.if_icmp .ne 16, 3) := by decide +kernel
theorem dX9_answer_87 : decode cX9_answer 87 = .ok (.aload_n 0, 1) := by decide +kernel
theorem dX9_answer_88 : decode cX9_answer 88 = .ok (.iconst 1, 1) := by decide +kernel
theorem dX9_answer_89 : decode cX9_answer 89 = .ok (.iload_n 1, 1) := by decide +kernel
theorem dX9_answer_90 : decode cX9_answer 90 = .ok (.iload_n 2, 1) := by decide +kernel
theorem dX9_answer_91 : decode cX9_answer 91 = .ok (.iload 4, 2) := by decide +kernel
theorem dX9_answer_93 : decode cX9_answer 93 = .ok (.iconst 0, 1) := by decide +kernel
theorem dX9_answer_94 : decode cX9_answer 94 = .ok (.invokevirtual 476, 3) := by decide +kernel
theorem dX9_answer_97 : decode cX9_answer 97 = .ok (.goto 4, 3) := by decide +kernel
theorem dX9_answer_100 : decode cX9_answer 100 = .ok (.iconst (-1), 1) := by decide +kernel
theorem dX9_answer_101 : decode cX9_answer 101 = .ok (.ireturn, 1) := by decide +kernel
theorem dX9_score_0 : decode cX9_score 0 = .ok (.iload_n 1, 1) := by decide +kernel
theorem dX9_score_1 : decode cX9_score 1 = .ok (.invokestatic 473, 3) := by decide +kernel
theorem dX9_score_4 : decode cX9_score 4 = .ok (.ifCond .eq 61, 3) := by decide +kernel
theorem dX9_score_7 : decode cX9_score 7 = .ok (.iload_n 2, 1) := by decide +kernel
theorem dX9_score_8 : decode cX9_score 8 = .ok (.i2l, 1) := by decide +kernel
theorem dX9_score_9 : decode cX9_score 9 = .ok (.lconst 0, 1) := by decide +kernel
theorem dX9_score_10 : decode cX9_score 10 = .ok (.ldc2_w 483, 3) := by decide +kernel
theorem dX9_score_13 : decode cX9_score 13 = .ok (.invokestatic 285, 3) := by decide +kernel
theorem dX9_score_16 : decode cX9_score 16 = .ok (.ifCond .eq 49, 3) := by decide +kernel
theorem dX9_score_19 : decode cX9_score 19 = .ok (.iload_n 3, 1) := by decide +kernel
theorem dX9_score_20 : decode cX9_score 20 = .ok (.i2l, 1) := by decide +kernel
theorem dX9_score_21 : decode cX9_score 21 = .ok (.lconst 0, 1) := by decide +kernel
theorem dX9_score_22 : decode cX9_score 22 = .ok (.aload_n 0, 1) := by decide +kernel
theorem dX9_score_23 : decode cX9_score 23 = .ok (.getfield 433, 3) := by decide +kernel
theorem dX9_score_26 : decode cX9_score 26 = .ok (.iconst 1, 1) := by decide +kernel
theorem dX9_score_27 : decode cX9_score 27 = .ok (.isub, 1) := by decide +kernel
theorem dX9_score_28 : decode cX9_score 28 = .ok (.i2l, 1) := by decide +kernel
theorem dX9_score_29 : decode cX9_score 29 = .ok (.invokestatic 285, 3) := by decide +kernel
theorem dX9_score_32 : decode cX9_score 32 = .ok (.ifCond .eq 33, 3) := by decide +kernel
theorem dX9_score_35 : decode cX9_score 35 = .ok (.iload 4, 2) := by decide +kernel
theorem dX9_score_37 : decode cX9_score 37 = .ok (.i2l, 1) := by decide +kernel
theorem dX9_score_38 : decode cX9_score 38 = .ok (.lconst 0, 1) := by decide +kernel
theorem dX9_score_39 : decode cX9_score 39 = .ok (.ldc2_w 485, 3) := by decide +kernel
theorem dX9_score_42 : decode cX9_score 42 = .ok (.invokestatic 285, 3) := by decide +kernel
theorem dX9_score_45 : decode cX9_score 45 = .ok (.ifCond .eq 20, 3) := by decide +kernel
theorem dX9_score_48 : decode cX9_score 48 = .ok (.aload_n 0, 1) := by decide +kernel
theorem dX9_score_49 : decode cX9_score 49 = .ok (.getfield 448, 3) := by decide +kernel
theorem dX9_score_52 : decode cX9_score 52 = .ok (.ifCond .ne 13, 3) := by decide +kernel
theorem dX9_score_55 : decode cX9_score 55 = .ok (.aload_n 0, 1) := by decide +kernel
theorem dX9_score_56 : decode cX9_score 56 = .ok (.getfield 445, 3) := by decide +kernel
theorem dX9_score_59 : decode cX9_score 59 = .ok (.sipush 250, 3) := by decide +kernel
theorem dX9_score_62 : decode cX9_score 62 = .ok (.if_icmp .ne 5, 3) := by decide +kernel
theorem dX9_score_65 : decode cX9_score 65 = .ok (.iconst (-1), 1) := by decide +kernel
theorem dX9_score_66 : decode cX9_score 66 = .ok (.ireturn, 1) := by decide +kernel
theorem dX9_score_67 : decode cX9_score 67 = .ok (.aload_n 0, 1) := by decide +kernel
theorem dX9_score_68 : decode cX9_score 68 = .ok (.iconst 2, 1) := by decide +kernel
theorem dX9_score_69 : decode cX9_score 69 = .ok (.iload_n 2, 1) := by decide +kernel
theorem dX9_score_70 : decode cX9_score 70 = .ok (.iload_n 1, 1) := by decide +kernel
theorem dX9_score_71 : decode cX9_score 71 = .ok (.iload 4, 2) := by decide +kernel
theorem dX9_score_73 : decode cX9_score 73 = .ok (.iload_n 3, 1) := by decide +kernel
theorem dX9_score_74 : decode cX9_score 74 = .ok (.invokevirtual 476, 3) := by decide +kernel
theorem dX9_score_77 : decode cX9_score 77 = .ok (.ireturn, 1) := by decide +kernel
theorem dX9_swap_0 : decode cX9_swap 0 = .ok (.aload_n 0, 1) := by decide +kernel
theorem dX9_swap_1 : decode cX9_swap 1 = .ok (.iload_n 1, 1) := by decide +kernel
theorem dX9_swap_2 : decode cX9_swap 2 = .ok (.invokevirtual 470, 3) := by decide +kernel
theorem dX9_swap_5 : decode cX9_swap 5 = .ok (.ifCond .eq 18, 3) := by decide +kernel
theorem dX9_swap_8 : decode cX9_swap 8 = .ok (.iload_n 2, 1) := by decide +kernel
theorem dX9_swap_9 : decode cX9_swap 9 = .ok (.iload_n 3, 1) := by decide +kernel
theorem dX9_swap_10 : decode cX9_swap 10 = .ok (.if_icmp .eq 13, 3) := by decide +kernel
theorem dX9_swap_13 : decode cX9_swap 13 = .ok (.aload_n 0, 1) := by decide +kernel
theorem dX9_swap_14 : decode cX9_swap 14 = .ok (.getfield 445, 3) := by decide +kernel
theorem dX9_swap_17 : decode cX9_swap 17 = .ok (.sipush 250, 3) := by decide +kernel
theorem dX9_swap_20 : decode cX9_swap 20 = .ok (.if_icmp .ne 5, 3) := by decide +kernel
theorem dX9_swap_23 : decode cX9_swap 23 = .ok (.iconst (-1), 1) := by decide +kernel
theorem dX9_swap_24 : decode cX9_swap 24 = .ok (.ireturn, 1) := by decide +kernel
theorem dX9_swap_25 : decode cX9_swap 25 = .ok (.aload_n 0, 1) := by decide +kernel
theorem dX9_swap_26 : decode cX9_swap 26 = .ok (.iload_n 1, 1) := by decide +kernel
theorem dX9_swap_27 : decode cX9_swap 27 = .ok (.iload_n 2, 1) := by decide +kernel
theorem dX9_swap_28 : decode cX9_swap 28 = .ok (.invokevirtual 480, 3) := by decide +kernel
theorem dX9_swap_31 : decode cX9_swap 31 = .ok (.istore 4, 2) := by decide +kernel
theorem dX9_swap_33 : decode cX9_swap 33 = .ok (.aload_n 0, 1) := by decide +kernel
theorem dX9_swap_34 : decode cX9_swap 34 = .ok (.iload_n 1, 1) := by decide +kernel
theorem dX9_swap_35 : decode cX9_swap 35 = .ok (.iload_n 3, 1) := by decide +kernel
theorem dX9_swap_36 : decode cX9_swap 36 = .ok (.invokevirtual 480, 3) := by decide +kernel
theorem dX9_swap_39 : decode cX9_swap 39 = .ok (.istore 5, 2) := by decide +kernel
theorem dX9_swap_41 : decode cX9_swap 41 = .ok (.iload 4, 2) := by decide +kernel
theorem dX9_swap_43 : decode cX9_swap 43 = .ok (.iconst (-1), 1) := by decide +kernel
theorem dX9_swap_44 : decode cX9_swap 44 = .ok (.if_icmp .eq 9, 3) := by decide +kernel
theorem dX9_swap_47 : decode cX9_swap 47 = .ok (.iload 5, 2) := by decide +kernel
theorem dX9_swap_49 : decode cX9_swap 49 = .ok (.iconst (-1), 1) := by decide +kernel
theorem dX9_swap_50 : decode cX9_swap 50 = .ok (.if_icmp .ne 7, 3) := by decide +kernel
theorem dX9_swap_53 : decode cX9_swap 53 = .ok (.iconst (-1), 1) := by decide +kernel
theorem dX9_swap_54 : decode cX9_swap 54 = .ok (.goto 14, 3) := by decide +kernel
theorem dX9_swap_57 : decode cX9_swap 57 = .ok (.aload_n 0, 1) := by decide +kernel
theorem dX9_swap_58 : decode cX9_swap 58 = .ok (.iconst 3, 1) := by decide +kernel
theorem dX9_swap_59 : decode cX9_swap 59 = .ok (.iload_n 1, 1) := by decide +kernel
theorem dX9_swap_60 : decode cX9_swap 60 = .ok (.iconst 0, 1) := by decide +kernel
theorem dX9_swap_61 : decode cX9_swap 61 = .ok (.iload 4, 2) := by decide +kernel
theorem dX9_swap_63 : decode cX9_swap 63 = .ok (.iload 5, 2) := by decide +kernel
theorem dX9_swap_65 : decode cX9_swap 65 = .ok (.invokevirtual 476, 3) := by decide +kernel
theorem dX9_swap_68 : decode cX9_swap 68 = .ok (.ireturn, 1) := by decide +kernel
theorem dX9_annul_0 : decode cX9_annul 0 = .ok (.iload_n 1, 1) := by decide +kernel
theorem dX9_annul_1 : decode cX9_annul 1 = .ok (.i2l, 1) := by decide +kernel
theorem dX9_annul_2 : decode cX9_annul 2 = .ok (.lconst 1, 1) := by decide +kernel
theorem dX9_annul_3 : decode cX9_annul 3 = .ok (.aload_n 0, 1) := by decide +kernel
theorem dX9_annul_4 : decode cX9_annul 4 = .ok (.getfield 445, 3) := by decide +kernel
theorem dX9_annul_7 : decode cX9_annul 7 = .ok (.i2l, 1) := by decide +kernel
theorem dX9_annul_8 : decode cX9_annul 8 = .ok (.invokestatic 285, 3) := by decide +kernel
theorem dX9_annul_11 : decode cX9_annul 11 = .ok (.ifCond .eq 32, 3) := by decide +kernel
theorem dX9_annul_14 : decode cX9_annul 14 = .ok (.aload_n 0, 1) := by decide +kernel
theorem dX9_annul_15 : decode cX9_annul 15 = .ok (.getfield 203, 3) := by decide +kernel
theorem dX9_annul_18 : decode cX9_annul 18 = .ok (.iload_n 1, 1) := by decide +kernel
theorem dX9_annul_19 : decode cX9_annul 19 = .ok (.iaload, 1) := by decide +kernel
theorem dX9_annul_20 : decode cX9_annul 20 = .ok (.ifCond .ne 23, 3) := by decide +kernel
theorem dX9_annul_23 : decode cX9_annul 23 = .ok (.aload_n 0, 1) := by decide +kernel
theorem dX9_annul_24 : decode cX9_annul 24 = .ok (.getfield 188, 3) := by decide +kernel
theorem dX9_annul_27 : decode cX9_annul 27 = .ok (.iload_n 1, 1) := by decide +kernel
theorem dX9_annul_28 : decode cX9_annul 28 = .ok (.iaload, 1) := by decide +kernel
theorem dX9_annul_29 : decode cX9_annul 29 = .ok (.iconst 4, 1) := by decide +kernel
theorem dX9_annul_30 : decode cX9_annul 30 = .ok (.if_icmp .eq 13, 3) := by decide +kernel
theorem dX9_annul_33 : decode cX9_annul 33 = .ok (.aload_n 0, 1) := by decide +kernel
theorem dX9_annul_34 : decode cX9_annul 34 = .ok (.getfield 445, 3) := by decide +kernel
theorem dX9_annul_37 : decode cX9_annul 37 = .ok (.sipush 250, 3) := by decide +kernel
theorem dX9_annul_40 : decode cX9_annul 40 = .ok (.if_icmp .ne 5, 3) := by decide +kernel
theorem dX9_annul_43 : decode cX9_annul 43 = .ok (.iconst (-1), 1) := by decide +kernel
theorem dX9_annul_44 : decode cX9_annul 44 = .ok (.ireturn, 1) := by decide +kernel
theorem dX9_annul_45 : decode cX9_annul 45 = .ok (.aload_n 0, 1) := by decide +kernel
theorem dX9_annul_46 : decode cX9_annul 46 = .ok (.getfield 203, 3) := by decide +kernel
theorem dX9_annul_49 : decode cX9_annul 49 = .ok (.iload_n 1, 1) := by decide +kernel
theorem dX9_annul_50 : decode cX9_annul 50 = .ok (.aload_n 0, 1) := by decide +kernel
theorem dX9_annul_51 : decode cX9_annul 51 = .ok (.getfield 445, 3) := by decide +kernel
theorem dX9_annul_54 : decode cX9_annul 54 = .ok (.iconst 1, 1) := by decide +kernel
theorem dX9_annul_55 : decode cX9_annul 55 = .ok (.iadd, 1) := by decide +kernel
theorem dX9_annul_56 : decode cX9_annul 56 = .ok (.iastore, 1) := by decide +kernel
theorem dX9_annul_57 : decode cX9_annul 57 = .ok (.aload_n 0, 1) := by decide +kernel
theorem dX9_annul_58 : decode cX9_annul 58 = .ok (.iconst 4, 1) := by decide +kernel
theorem dX9_annul_59 : decode cX9_annul 59 = .ok (.iconst 0, 1) := by decide +kernel
theorem dX9_annul_60 : decode cX9_annul 60 = .ok (.iconst 0, 1) := by decide +kernel
theorem dX9_annul_61 : decode cX9_annul 61 = .ok (.iload_n 1, 1) := by decide +kernel
theorem dX9_annul_62 : decode cX9_annul 62 = .ok (.iconst 0, 1) := by decide +kernel
theorem dX9_annul_63 : decode cX9_annul 63 = .ok (.invokevirtual 476, 3) := by decide +kernel
theorem dX9_annul_66 : decode cX9_annul 66 = .ok (.ireturn, 1) := by decide +kernel
theorem dX9_as_0 : decode cX9_as 0 = .ok (.iload_n 1, 1) := by decide +kernel
theorem dX9_as_1 : decode cX9_as 1 = .ok (.i2l, 1) := by decide +kernel
theorem dX9_as_2 : decode cX9_as 2 = .ok (.ldc2_w 487, 3) := by decide +kernel
theorem dX9_as_5 : decode cX9_as 5 = .ok (.aload_n 0, 1) := by decide +kernel
theorem dX9_as_6 : decode cX9_as 6 = .ok (.getfield 445, 3) := by decide +kernel
theorem dX9_as_9 : decode cX9_as 9 = .ok (.i2l, 1) := by decide +kernel
theorem dX9_as_10 : decode cX9_as 10 = .ok (.invokestatic 285, 3) := by decide +kernel
theorem dX9_as_13 : decode cX9_as 13 = .ok (.ifCond .ne 5, 3) := by decide +kernel
theorem dX9_as_16 : decode cX9_as 16 = .ok (.iconst 0, 1) := by decide +kernel
theorem dX9_as_17 : decode cX9_as 17 = .ok (.ireturn, 1) := by decide +kernel
theorem dX9_as_18 : decode cX9_as 18 = .ok (.aload_n 0, 1) := by decide +kernel
theorem dX9_as_19 : decode cX9_as 19 = .ok (.iload_n 1, 1) := by decide +kernel
theorem dX9_as_20 : decode cX9_as 20 = .ok (.putfield 206, 3) := by decide +kernel
theorem dX9_as_23 : decode cX9_as 23 = .ok (.iconst 1, 1) := by decide +kernel
theorem dX9_as_24 : decode cX9_as 24 = .ok (.ireturn, 1) := by decide +kernel
theorem dX9_open_0 : decode cX9_open 0 = .ok (.aload_n 0, 1) := by decide +kernel
theorem dX9_open_1 : decode cX9_open 1 = .ok (.getfield 448, 3) := by decide +kernel
theorem dX9_open_4 : decode cX9_open 4 = .ok (.ifCond .ne 10, 3) := by decide +kernel
theorem dX9_open_7 : decode cX9_open 7 = .ok (.aload_n 0, 1) := by decide +kernel
theorem dX9_open_8 : decode cX9_open 8 = .ok (.getfield 430, 3) := by decide +kernel
theorem dX9_open_11 : decode cX9_open 11 = .ok (.ifCond .ne 5, 3) := by decide +kernel
theorem dX9_open_14 : decode cX9_open 14 = .ok (.iconst 0, 1) := by decide +kernel
theorem dX9_open_15 : decode cX9_open 15 = .ok (.ireturn, 1) := by decide +kernel
theorem dX9_open_16 : decode cX9_open 16 = .ok (.aload_n 0, 1) := by decide +kernel
theorem dX9_open_17 : decode cX9_open 17 = .ok (.iconst 1, 1) := by decide +kernel
theorem dX9_open_18 : decode cX9_open 18 = .ok (.putfield 448, 3) := by decide +kernel
theorem dX9_open_21 : decode cX9_open 21 = .ok (.iconst 1, 1) := by decide +kernel
theorem dX9_open_22 : decode cX9_open 22 = .ok (.ireturn, 1) := by decide +kernel
theorem dX9_now_0 : decode cX9_now 0 = .ok (.aload_n 0, 1) := by decide +kernel
theorem dX9_now_1 : decode cX9_now 1 = .ok (.getfield 206, 3) := by decide +kernel
theorem dX9_now_4 : decode cX9_now 4 = .ok (.iconst (-1), 1) := by decide +kernel
theorem dX9_now_5 : decode cX9_now 5 = .ok (.if_icmp .ne 10, 3) := by decide +kernel
theorem dX9_now_8 : decode cX9_now 8 = .ok (.aload_n 0, 1) := by decide +kernel
theorem dX9_now_9 : decode cX9_now 9 = .ok (.getfield 445, 3) := by decide +kernel
theorem dX9_now_12 : decode cX9_now 12 = .ok (.goto 7, 3) := by decide +kernel
theorem dX9_now_15 : decode cX9_now 15 = .ok (.aload_n 0, 1) := by decide +kernel
theorem dX9_now_16 : decode cX9_now 16 = .ok (.getfield 206, 3) := by decide +kernel
theorem dX9_now_19 : decode cX9_now 19 = .ok (.ireturn, 1) := by decide +kernel
theorem dX9_isKnown_0 : decode cX9_isKnown 0 = .ok (.iload_n 1, 1) := by decide +kernel
theorem dX9_isKnown_1 : decode cX9_isKnown 1 = .ok (.aload_n 0, 1) := by decide +kernel
theorem dX9_isKnown_2 : decode cX9_isKnown 2 = .ok (.invokevirtual 489, 3) := by decide +kernel
theorem dX9_isKnown_5 : decode cX9_isKnown 5 = .ok (.if_icmp .gt 29, 3) := by decide +kernel
theorem dX9_isKnown_8 : decode cX9_isKnown 8 = .ok (.aload_n 0, 1) := by decide +kernel
theorem dX9_isKnown_9 : decode cX9_isKnown 9 = .ok (.getfield 203, 3) := by decide +kernel
theorem dX9_isKnown_12 : decode cX9_isKnown 12 = .ok (.iload_n 1, 1) := by decide +kernel
theorem dX9_isKnown_13 : decode cX9_isKnown 13 = .ok (.iaload, 1) := by decide +kernel
theorem dX9_isKnown_14 : decode cX9_isKnown 14 = .ok (.ifCond .eq 16, 3) := by decide +kernel
theorem dX9_isKnown_17 : decode cX9_isKnown 17 = .ok (.aload_n 0, 1) := by decide +kernel
theorem dX9_isKnown_18 : decode cX9_isKnown 18 = .ok (.getfield 203, 3) := by decide +kernel
theorem dX9_isKnown_21 : decode cX9_isKnown 21 = .ok (.iload_n 1, 1) := by decide +kernel
theorem dX9_isKnown_22 : decode cX9_isKnown 22 = .ok (.iaload, 1) := by decide +kernel
theorem dX9_isKnown_23 : decode cX9_isKnown 23 = .ok (.aload_n 0, 1) := by decide +kernel
theorem dX9_isKnown_24 : decode cX9_isKnown 24 = .ok (.invokevirtual 489, 3) := by decide +kernel
theorem dX9_isKnown_27 : decode cX9_isKnown 27 = .ok (.if_icmp .le 7, 3) := by decide +kernel
theorem dX9_isKnown_30 : decode cX9_isKnown 30 = .ok (.iconst 1, 1) := by decide +kernel
theorem dX9_isKnown_31 : decode cX9_isKnown 31 = .ok (.goto 4, 3) := by decide +kernel
theorem dX9_isKnown_34 : decode cX9_isKnown 34 = .ok (.iconst 0, 1) := by decide +kernel
theorem dX9_isKnown_35 : decode cX9_isKnown 35 = .ok (.ireturn, 1) := by decide +kernel
theorem dX9_orderOf_0 : decode cX9_orderOf 0 = .ok (.iload_n 0, 1) := by decide +kernel
theorem dX9_orderOf_1 : decode cX9_orderOf 1 = .ok (.ifCond .ne 11, 3) := by decide +kernel
theorem dX9_orderOf_4 : decode cX9_orderOf 4 = .ok (.iload_n 1, 1) := by decide +kernel
theorem dX9_orderOf_5 : decode cX9_orderOf 5 = .ok (.iload_n 2, 1) := by decide +kernel
theorem dX9_orderOf_6 : decode cX9_orderOf 6 = .ok (.iadd, 1) := by decide +kernel
theorem dX9_orderOf_7 : decode cX9_orderOf 7 = .ok (.iconst 2, 1) := by decide +kernel
theorem dX9_orderOf_8 : decode cX9_orderOf 8 = .ok (.irem, 1) := by decide +kernel
theorem dX9_orderOf_9 : decode cX9_orderOf 9 = .ok (.iconst 1, 1) := by decide +kernel
theorem dX9_orderOf_10 : decode cX9_orderOf 10 = .ok (.iadd, 1) := by decide +kernel
theorem dX9_orderOf_11 : decode cX9_orderOf 11 = .ok (.ireturn, 1) := by decide +kernel
theorem dX9_orderOf_12 : decode cX9_orderOf 12 = .ok (.iload_n 1, 1) := by decide +kernel
theorem dX9_orderOf_13 : decode cX9_orderOf 13 = .ok (.bipush 6, 2) := by decide +kernel
theorem dX9_orderOf_15 : decode cX9_orderOf 15 = .ok (.irem, 1) := by decide +kernel
theorem dX9_orderOf_16 : decode cX9_orderOf 16 = .ok (.istore_n 3, 1) := by decide +kernel
theorem dX9_orderOf_17 : decode cX9_orderOf 17 = .ok (.iload_n 3, 1) := by decide +kernel
theorem dX9_orderOf_18 : decode cX9_orderOf 18 = .ok (.ifCond .eq 8, 3) := by decide +kernel
theorem dX9_orderOf_21 : decode cX9_orderOf 21 = .ok (.iload_n 3, 1) := by decide +kernel
theorem dX9_orderOf_22 : decode cX9_orderOf 22 = .ok (.iconst 5, 1) := by decide +kernel
theorem dX9_orderOf_23 : decode cX9_orderOf 23 = .ok (.if_icmp .ne 15, 3) := by decide +kernel
theorem dX9_orderOf_26 : decode cX9_orderOf 26 = .ok (.iload_n 3, 1) := by decide +kernel
theorem dX9_orderOf_27 : decode cX9_orderOf 27 = .ok (.ifCond .ne 7, 3) := by decide +kernel
theorem dX9_orderOf_30 : decode cX9_orderOf 30 = .ok (.iconst 2, 1) := by decide +kernel
theorem dX9_orderOf_31 : decode cX9_orderOf 31 = .ok (.goto 31, 3) := by decide +kernel
theorem dX9_orderOf_34 : decode cX9_orderOf 34 = .ok (.iconst 0, 1) := by decide +kernel
theorem dX9_orderOf_35 : decode cX9_orderOf 35 = .ok (.goto 27, 3) := by decide +kernel
theorem dX9_orderOf_38 : decode cX9_orderOf 38 = .ok (.iload_n 3, 1) := by decide +kernel
theorem dX9_orderOf_39 : decode cX9_orderOf 39 = .ok (.iconst 1, 1) := by decide +kernel
theorem dX9_orderOf_40 : decode cX9_orderOf 40 = .ok (.if_icmp .eq 8, 3) := by decide +kernel
theorem dX9_orderOf_43 : decode cX9_orderOf 43 = .ok (.iload_n 3, 1) := by decide +kernel
theorem dX9_orderOf_44 : decode cX9_orderOf 44 = .ok (.iconst 4, 1) := by decide +kernel
theorem dX9_orderOf_45 : decode cX9_orderOf 45 = .ok (.if_icmp .ne 7, 3) := by decide +kernel
theorem dX9_orderOf_48 : decode cX9_orderOf 48 = .ok (.iconst 1, 1) := by decide +kernel
theorem dX9_orderOf_49 : decode cX9_orderOf 49 = .ok (.goto 13, 3) := by decide +kernel
theorem dX9_orderOf_52 : decode cX9_orderOf 52 = .ok (.iload_n 3, 1) := by decide +kernel
theorem dX9_orderOf_53 : decode cX9_orderOf 53 = .ok (.iconst 2, 1) := by decide +kernel
theorem dX9_orderOf_54 : decode cX9_orderOf 54 = .ok (.if_icmp .ne 7, 3) := by decide +kernel
theorem dX9_orderOf_57 : decode cX9_orderOf 57 = .ok (.iconst 0, 1) := by decide +kernel
theorem dX9_orderOf_58 : decode cX9_orderOf 58 = .ok (.goto 4, 3) := by decide +kernel
theorem dX9_orderOf_61 : decode cX9_orderOf 61 = .ok (.iconst 2, 1) := by decide +kernel
theorem dX9_orderOf_62 : decode cX9_orderOf 62 = .ok (.istore 4, 2) := by decide +kernel
theorem dX9_orderOf_64 : decode cX9_orderOf 64 = .ok (.iload_n 3, 1) := by decide +kernel
theorem dX9_orderOf_65 : decode cX9_orderOf 65 = .ok (.iconst 3, 1) := by decide +kernel
theorem dX9_orderOf_66 : decode cX9_orderOf 66 = .ok (.if_icmp .ge 7, 3) := by decide +kernel
theorem dX9_orderOf_69 : decode cX9_orderOf 69 = .ok (.iconst 2, 1) := by decide +kernel
theorem dX9_orderOf_70 : decode cX9_orderOf 70 = .ok (.goto 4, 3) := by decide +kernel
theorem dX9_orderOf_73 : decode cX9_orderOf 73 = .ok (.iconst 1, 1) := by decide +kernel
theorem dX9_orderOf_74 : decode cX9_orderOf 74 = .ok (.istore 5, 2) := by decide +kernel
theorem dX9_orderOf_76 : decode cX9_orderOf 76 = .ok (.iload_n 2, 1) := by decide +kernel
theorem dX9_orderOf_77 : decode cX9_orderOf 77 = .ok (.iload 4, 2) := by decide +kernel
theorem dX9_orderOf_79 : decode cX9_orderOf 79 = .ok (.if_icmp .ne 8, 3) := by decide +kernel
theorem dX9_orderOf_82 : decode cX9_orderOf 82 = .ok (.iload 5, 2) := by decide +kernel
theorem dX9_orderOf_84 : decode cX9_orderOf 84 = .ok (.goto 7, 3) := by decide +kernel
theorem dX9_orderOf_87 : decode cX9_orderOf 87 = .ok (.iconst 3, 1) := by decide +kernel
theorem dX9_orderOf_88 : decode cX9_orderOf 88 = .ok (.iload 5, 2) := by decide +kernel
theorem dX9_orderOf_90 : decode cX9_orderOf 90 = .ok (.isub, 1) := by decide +kernel
theorem dX9_orderOf_91 : decode cX9_orderOf 91 = .ok (.ireturn, 1) := by decide +kernel
theorem dX9_fills_0 : decode cX9_fills 0 = .ok (.iconst 0, 1) := by decide +kernel
theorem dX9_fills_1 : decode cX9_fills 1 = .ok (.istore_n 2, 1) := by decide +kernel
theorem dX9_fills_2 : decode cX9_fills 2 = .ok (.iload_n 2, 1) := by decide +kernel
theorem dX9_fills_3 : decode cX9_fills 3 = .ok (.bipush 30, 2) := by decide +kernel
theorem dX9_fills_5 : decode cX9_fills 5 = .ok (.aload_n 0, 1) := by decide +kernel
theorem dX9_fills_6 : decode cX9_fills 6 = .ok (.iload_n 1, 1) := by decide +kernel
theorem dX9_fills_7 : decode cX9_fills 7 = .ok (.invokevirtual 454, 3) := by decide +kernel
theorem dX9_fills_10 : decode cX9_fills 10 = .ok (.imul, 1) := by decide +kernel
theorem dX9_fills_11 : decode cX9_fills 11 = .ok (.if_icmp .ge 38, 3) := by decide +kernel
theorem dX9_fills_14 : decode cX9_fills 14 = .ok (.aload_n 0, 1) := by decide +kernel
theorem dX9_fills_15 : decode cX9_fills 15 = .ok (.getfield 209, 3) := by decide +kernel
theorem dX9_fills_18 : decode cX9_fills 18 = .ok (.iload_n 2, 1) := by decide +kernel
theorem dX9_fills_19 : decode cX9_fills 19 = .ok (.aload_n 0, 1) := by decide +kernel
theorem dX9_fills_20 : decode cX9_fills 20 = .ok (.getfield 152, 3) := by decide +kernel
theorem dX9_fills_23 : decode cX9_fills 23 = .ok (.iload_n 1, 1) := by decide +kernel
theorem dX9_fills_24 : decode cX9_fills 24 = .ok (.baload, 1) := by decide +kernel
theorem dX9_fills_25 : decode cX9_fills 25 = .ok (.iload_n 2, 1) := by decide +kernel
theorem dX9_fills_26 : decode cX9_fills 26 = .ok (.aload_n 0, 1) := by decide +kernel
theorem dX9_fills_27 : decode cX9_fills 27 = .ok (.iload_n 1, 1) := by decide +kernel
theorem dX9_fills_28 : decode cX9_fills 28 = .ok (.invokevirtual 454, 3) := by decide +kernel
theorem dX9_fills_31 : decode cX9_fills 31 = .ok (.idiv, 1) := by decide +kernel
theorem dX9_fills_32 : decode cX9_fills 32 = .ok (.iload_n 2, 1) := by decide +kernel
theorem dX9_fills_33 : decode cX9_fills 33 = .ok (.aload_n 0, 1) := by decide +kernel
theorem dX9_fills_34 : decode cX9_fills 34 = .ok (.iload_n 1, 1) := by decide +kernel
theorem dX9_fills_35 : decode cX9_fills 35 = .ok (.invokevirtual 454, 3) := by decide +kernel
theorem dX9_fills_38 : decode cX9_fills 38 = .ok (.irem, 1) := by decide +kernel
theorem dX9_fills_39 : decode cX9_fills 39 = .ok (.invokestatic 492, 3) := by decide +kernel
theorem dX9_fills_42 : decode cX9_fills 42 = .ok (.iastore, 1) := by decide +kernel
theorem dX9_fills_43 : decode cX9_fills 43 = .ok (.iinc 2 1, 3) := by decide +kernel
theorem dX9_fills_46 : decode cX9_fills 46 = .ok (.goto (-44), 3) := by decide +kernel
theorem dX9_fills_49 : decode cX9_fills 49 = .ok (.iconst 1, 1) := by decide +kernel
theorem dX9_fills_50 : decode cX9_fills 50 = .ok (.istore_n 2, 1) := by decide +kernel
theorem dX9_fills_51 : decode cX9_fills 51 = .ok (.iload_n 2, 1) := by decide +kernel
theorem dX9_fills_52 : decode cX9_fills 52 = .ok (.aload_n 0, 1) := by decide +kernel
theorem dX9_fills_53 : decode cX9_fills 53 = .ok (.getfield 445, 3) := by decide +kernel
theorem dX9_fills_56 : decode cX9_fills 56 = .ok (.if_icmp .gt 86, 3) := by decide +kernel
theorem dX9_fills_59 : decode cX9_fills 59 = .ok (.aload_n 0, 1) := by decide +kernel
theorem dX9_fills_60 : decode cX9_fills 60 = .ok (.getfield 188, 3) := by decide +kernel
theorem dX9_fills_63 : decode cX9_fills 63 = .ok (.iload_n 2, 1) := by decide +kernel
theorem dX9_fills_64 : decode cX9_fills 64 = .ok (.iaload, 1) := by decide +kernel
theorem dX9_fills_65 : decode cX9_fills 65 = .ok (.iconst 3, 1) := by decide +kernel
theorem dX9_fills_66 : decode cX9_fills 66 = .ok (.if_icmp .ne 70, 3) := by decide +kernel
theorem dX9_fills_69 : decode cX9_fills 69 = .ok (.aload_n 0, 1) := by decide +kernel
theorem dX9_fills_70 : decode cX9_fills 70 = .ok (.getfield 191, 3) := by decide +kernel
theorem dX9_fills_73 : decode cX9_fills 73 = .ok (.iload_n 2, 1) := by decide +kernel
theorem dX9_fills_74 : decode cX9_fills 74 = .ok (.iaload, 1) := by decide +kernel
theorem dX9_fills_75 : decode cX9_fills 75 = .ok (.iload_n 1, 1) := by decide +kernel
theorem dX9_fills_76 : decode cX9_fills 76 = .ok (.if_icmp .ne 60, 3) := by decide +kernel
theorem dX9_fills_79 : decode cX9_fills 79 = .ok (.aload_n 0, 1) := by decide +kernel
theorem dX9_fills_80 : decode cX9_fills 80 = .ok (.iload_n 2, 1) := by decide +kernel
theorem dX9_fills_81 : decode cX9_fills 81 = .ok (.invokevirtual 496, 3) := by decide +kernel
theorem dX9_fills_84 : decode cX9_fills 84 = .ok (.ifCond .ne 6, 3) := by decide +kernel
theorem dX9_fills_87 : decode cX9_fills 87 = .ok (.goto 49, 3) := by decide +kernel
theorem dX9_fills_90 : decode cX9_fills 90 = .ok (.aload_n 0, 1) := by decide +kernel
theorem dX9_fills_91 : decode cX9_fills 91 = .ok (.getfield 209, 3) := by decide +kernel
theorem dX9_fills_94 : decode cX9_fills 94 = .ok (.aload_n 0, 1) := by decide +kernel
theorem dX9_fills_95 : decode cX9_fills 95 = .ok (.getfield 197, 3) := by decide +kernel
theorem dX9_fills_98 : decode cX9_fills 98 = .ok (.iload_n 2, 1) := by decide +kernel
theorem dX9_fills_99 : decode cX9_fills 99 = .ok (.iaload, 1) := by decide +kernel
theorem dX9_fills_100 : decode cX9_fills 100 = .ok (.iaload, 1) := by decide +kernel
theorem dX9_fills_101 : decode cX9_fills 101 = .ok (.istore_n 3, 1) := by decide +kernel
theorem dX9_fills_102 : decode cX9_fills 102 = .ok (.aload_n 0, 1) := by decide +kernel
theorem dX9_fills_103 : decode cX9_fills 103 = .ok (.getfield 209, 3) := by decide +kernel
theorem dX9_fills_106 : decode cX9_fills 106 = .ok (.aload_n 0, 1) := by decide +kernel
theorem dX9_fills_107 : decode cX9_fills 107 = .ok (.getfield 197, 3) := by decide +kernel
theorem dX9_fills_110 : decode cX9_fills 110 = .ok (.iload_n 2, 1) := by decide +kernel
theorem dX9_fills_111 : decode cX9_fills 111 = .ok (.iaload, 1) := by decide +kernel
theorem dX9_fills_112 : decode cX9_fills 112 = .ok (.aload_n 0, 1) := by decide +kernel
theorem dX9_fills_113 : decode cX9_fills 113 = .ok (.getfield 209, 3) := by decide +kernel
theorem dX9_fills_116 : decode cX9_fills 116 = .ok (.aload_n 0, 1) := by decide +kernel
theorem dX9_fills_117 : decode cX9_fills 117 = .ok (.getfield 200, 3) := by decide +kernel
theorem dX9_fills_120 : decode cX9_fills 120 = .ok (.iload_n 2, 1) := by decide +kernel
theorem dX9_fills_121 : decode cX9_fills 121 = .ok (.iaload, 1) := by decide +kernel
theorem dX9_fills_122 : decode cX9_fills 122 = .ok (.iaload, 1) := by decide +kernel
theorem dX9_fills_123 : decode cX9_fills 123 = .ok (.iastore, 1) := by decide +kernel
theorem dX9_fills_124 : decode cX9_fills 124 = .ok (.aload_n 0, 1) := by decide +kernel
theorem dX9_fills_125 : decode cX9_fills 125 = .ok (.getfield 209, 3) := by decide +kernel
theorem dX9_fills_128 : decode cX9_fills 128 = .ok (.aload_n 0, 1) := by decide +kernel
theorem dX9_fills_129 : decode cX9_fills 129 = .ok (.getfield 200, 3) := by decide +kernel
theorem dX9_fills_132 : decode cX9_fills 132 = .ok (.iload_n 2, 1) := by decide +kernel
theorem dX9_fills_133 : decode cX9_fills 133 = .ok (.iaload, 1) := by decide +kernel
theorem dX9_fills_134 : decode cX9_fills 134 = .ok (.iload_n 3, 1) := by decide +kernel
theorem dX9_fills_135 : decode cX9_fills 135 = .ok (.iastore, 1) := by decide +kernel
theorem dX9_fills_136 : decode cX9_fills 136 = .ok (.iinc 2 1, 3) := by decide +kernel
theorem dX9_fills_139 : decode cX9_fills 139 = .ok (.goto (-88), 3) := by decide +kernel
theorem dX9_fills_142 : decode cX9_fills 142 = .ok (.return_, 1) := by decide +kernel
theorem dX9_inside_0 : decode cX9_inside 0 = .ok (.aload_n 0, 1) := by decide +kernel
theorem dX9_inside_1 : decode cX9_inside 1 = .ok (.iload_n 1, 1) := by decide +kernel
theorem dX9_inside_2 : decode cX9_inside 2 = .ok (.invokevirtual 470, 3) := by decide +kernel
theorem dX9_inside_5 : decode cX9_inside 5 = .ok (.ifCond .eq 10, 3) := by decide +kernel
theorem dX9_inside_8 : decode cX9_inside 8 = .ok (.aload_n 0, 1) := by decide +kernel
theorem dX9_inside_9 : decode cX9_inside 9 = .ok (.getfield 448, 3) := by decide +kernel
theorem dX9_inside_12 : decode cX9_inside 12 = .ok (.ifCond .ne 5, 3) := by decide +kernel
theorem dX9_inside_15 : decode cX9_inside 15 = .ok (.iconst (-1), 1) := by decide +kernel
theorem dX9_inside_16 : decode cX9_inside 16 = .ok (.ireturn, 1) := by decide +kernel
theorem dX9_inside_17 : decode cX9_inside 17 = .ok (.aload_n 0, 1) := by decide +kernel
theorem dX9_inside_18 : decode cX9_inside 18 = .ok (.iload_n 1, 1) := by decide +kernel
theorem dX9_inside_19 : decode cX9_inside 19 = .ok (.iload_n 2, 1) := by decide +kernel
theorem dX9_inside_20 : decode cX9_inside 20 = .ok (.invokevirtual 480, 3) := by decide +kernel
theorem dX9_inside_23 : decode cX9_inside 23 = .ok (.istore_n 3, 1) := by decide +kernel
theorem dX9_inside_24 : decode cX9_inside 24 = .ok (.iload_n 3, 1) := by decide +kernel
theorem dX9_inside_25 : decode cX9_inside 25 = .ok (.iconst (-1), 1) := by decide +kernel
theorem dX9_inside_26 : decode cX9_inside 26 = .ok (.if_icmp .ne 5, 3) := by decide +kernel
theorem dX9_inside_29 : decode cX9_inside 29 = .ok (.iconst (-1), 1) := by decide +kernel
theorem dX9_inside_30 : decode cX9_inside 30 = .ok (.ireturn, 1) := by decide +kernel
theorem dX9_inside_31 : decode cX9_inside 31 = .ok (.aload_n 0, 1) := by decide +kernel
theorem dX9_inside_32 : decode cX9_inside 32 = .ok (.iload_n 1, 1) := by decide +kernel
theorem dX9_inside_33 : decode cX9_inside 33 = .ok (.invokevirtual 499, 3) := by decide +kernel
theorem dX9_inside_36 : decode cX9_inside 36 = .ok (.aload_n 0, 1) := by decide +kernel
theorem dX9_inside_37 : decode cX9_inside 37 = .ok (.getfield 209, 3) := by decide +kernel
theorem dX9_inside_40 : decode cX9_inside 40 = .ok (.iload_n 3, 1) := by decide +kernel
theorem dX9_inside_41 : decode cX9_inside 41 = .ok (.iaload, 1) := by decide +kernel
theorem dX9_inside_42 : decode cX9_inside 42 = .ok (.ireturn, 1) := by decide +kernel
theorem dX9_dueCup_0 : decode cX9_dueCup 0 = .ok (.aload_n 0, 1) := by decide +kernel
theorem dX9_dueCup_1 : decode cX9_dueCup 1 = .ok (.iload_n 1, 1) := by decide +kernel
theorem dX9_dueCup_2 : decode cX9_dueCup 2 = .ok (.invokevirtual 454, 3) := by decide +kernel
theorem dX9_dueCup_5 : decode cX9_dueCup 5 = .ok (.istore_n 3, 1) := by decide +kernel
theorem dX9_dueCup_6 : decode cX9_dueCup 6 = .ok (.iconst 0, 1) := by decide +kernel
theorem dX9_dueCup_7 : decode cX9_dueCup 7 = .ok (.istore 4, 2) := by decide +kernel
theorem dX9_dueCup_9 : decode cX9_dueCup 9 = .ok (.iconst 0, 1) := by decide +kernel
theorem dX9_dueCup_10 : decode cX9_dueCup 10 = .ok (.istore 5, 2) := by decide +kernel
theorem dX9_dueCup_12 : decode cX9_dueCup 12 = .ok (.iload 5, 2) := by decide +kernel
theorem dX9_dueCup_14 : decode cX9_dueCup 14 = .ok (.iload_n 3, 1) := by decide +kernel
theorem dX9_dueCup_15 : decode cX9_dueCup 15 = .ok (.if_icmp .ge 27, 3) := by decide +kernel
theorem dX9_dueCup_18 : decode cX9_dueCup 18 = .ok (.aload_n 0, 1) := by decide +kernel
theorem dX9_dueCup_19 : decode cX9_dueCup 19 = .ok (.getfield 209, 3) := by decide +kernel
theorem dX9_dueCup_22 : decode cX9_dueCup 22 = .ok (.iload_n 3, 1) := by decide +kernel
theorem dX9_dueCup_23 : decode cX9_dueCup 23 = .ok (.iload_n 2, 1) := by decide +kernel
theorem dX9_dueCup_24 : decode cX9_dueCup 24 = .ok (.imul, 1) := by decide +kernel
theorem dX9_dueCup_25 : decode cX9_dueCup 25 = .ok (.iload 5, 2) := by decide +kernel
theorem dX9_dueCup_27 : decode cX9_dueCup 27 = .ok (.iadd, 1) := by decide +kernel
theorem dX9_dueCup_28 : decode cX9_dueCup 28 = .ok (.iaload, 1) := by decide +kernel
theorem dX9_dueCup_29 : decode cX9_dueCup 29 = .ok (.iconst 1, 1) := by decide +kernel
theorem dX9_dueCup_30 : decode cX9_dueCup 30 = .ok (.if_icmp .ne 6, 3) := by decide +kernel
theorem dX9_dueCup_33 : decode cX9_dueCup 33 = .ok (.iinc 4 1, 3) := by decide +kernel
theorem dX9_dueCup_36 : decode cX9_dueCup 36 = .ok (.iinc 5 1, 3) := by decide +kernel
theorem dX9_dueCup_39 : decode cX9_dueCup 39 = .ok (.goto (-27), 3) := by decide +kernel
theorem dX9_dueCup_42 : decode cX9_dueCup 42 = .ok (.iload 4, 2) := by decide +kernel
theorem dX9_dueCup_44 : decode cX9_dueCup 44 = .ok (.ifCond .eq 9, 3) := by decide +kernel
theorem dX9_dueCup_47 : decode cX9_dueCup 47 = .ok (.iload 4, 2) := by decide +kernel
theorem dX9_dueCup_49 : decode cX9_dueCup 49 = .ok (.iload_n 3, 1) := by decide +kernel
theorem dX9_dueCup_50 : decode cX9_dueCup 50 = .ok (.if_icmp .ne 5, 3) := by decide +kernel
theorem dX9_dueCup_53 : decode cX9_dueCup 53 = .ok (.iconst (-1), 1) := by decide +kernel
theorem dX9_dueCup_54 : decode cX9_dueCup 54 = .ok (.ireturn, 1) := by decide +kernel
theorem dX9_dueCup_55 : decode cX9_dueCup 55 = .ok (.iload_n 3, 1) := by decide +kernel
theorem dX9_dueCup_56 : decode cX9_dueCup 56 = .ok (.iconst 2, 1) := by decide +kernel
theorem dX9_dueCup_57 : decode cX9_dueCup 57 = .ok (.if_icmp .eq 9, 3) := by decide +kernel
theorem dX9_dueCup_60 : decode cX9_dueCup 60 = .ok (.iload 4, 2) := by decide +kernel
theorem dX9_dueCup_62 : decode cX9_dueCup 62 = .ok (.iconst 1, 1) := by decide +kernel
theorem dX9_dueCup_63 : decode cX9_dueCup 63 = .ok (.if_icmp .ne 7, 3) := by decide +kernel
theorem dX9_dueCup_66 : decode cX9_dueCup 66 = .ok (.iconst 1, 1) := by decide +kernel
theorem dX9_dueCup_67 : decode cX9_dueCup 67 = .ok (.goto 4, 3) := by decide +kernel
theorem dX9_dueCup_70 : decode cX9_dueCup 70 = .ok (.iconst 2, 1) := by decide +kernel
theorem dX9_dueCup_71 : decode cX9_dueCup 71 = .ok (.istore 5, 2) := by decide +kernel
theorem dX9_dueCup_73 : decode cX9_dueCup 73 = .ok (.iconst 0, 1) := by decide +kernel
theorem dX9_dueCup_74 : decode cX9_dueCup 74 = .ok (.istore 6, 2) := by decide +kernel
theorem dX9_dueCup_76 : decode cX9_dueCup 76 = .ok (.iload 6, 2) := by decide +kernel
theorem dX9_dueCup_78 : decode cX9_dueCup 78 = .ok (.iload_n 3, 1) := by decide +kernel
theorem dX9_dueCup_79 : decode cX9_dueCup 79 = .ok (.if_icmp .ge 32, 3) := by decide +kernel
theorem dX9_dueCup_82 : decode cX9_dueCup 82 = .ok (.aload_n 0, 1) := by decide +kernel
theorem dX9_dueCup_83 : decode cX9_dueCup 83 = .ok (.getfield 209, 3) := by decide +kernel
theorem dX9_dueCup_86 : decode cX9_dueCup 86 = .ok (.iload_n 3, 1) := by decide +kernel
theorem dX9_dueCup_87 : decode cX9_dueCup 87 = .ok (.iload_n 2, 1) := by decide +kernel
theorem dX9_dueCup_88 : decode cX9_dueCup 88 = .ok (.imul, 1) := by decide +kernel
theorem dX9_dueCup_89 : decode cX9_dueCup 89 = .ok (.iload 6, 2) := by decide +kernel
theorem dX9_dueCup_91 : decode cX9_dueCup 91 = .ok (.iadd, 1) := by decide +kernel
theorem dX9_dueCup_92 : decode cX9_dueCup 92 = .ok (.iaload, 1) := by decide +kernel
theorem dX9_dueCup_93 : decode cX9_dueCup 93 = .ok (.iload 5, 2) := by decide +kernel
theorem dX9_dueCup_95 : decode cX9_dueCup 95 = .ok (.if_icmp .ne 10, 3) := by decide +kernel
theorem dX9_dueCup_98 : decode cX9_dueCup 98 = .ok (.iload_n 3, 1) := by decide +kernel
theorem dX9_dueCup_99 : decode cX9_dueCup 99 = .ok (.iload_n 2, 1) := by decide +kernel
theorem dX9_dueCup_100 : decode cX9_dueCup 100 = .ok (.imul, 1) := by decide +kernel
theorem dX9_dueCup_101 : decode cX9_dueCup 101 = .ok (.iload 6, 2) := by decide +kernel
theorem dX9_dueCup_103 : decode cX9_dueCup 103 = .ok (.iadd, 1) := by decide +kernel
theorem dX9_dueCup_104 : decode cX9_dueCup 104 = .ok (.ireturn, 1) := by decide +kernel
theorem dX9_dueCup_105 : decode cX9_dueCup 105 = .ok (.iinc 6 1, 3) := by decide +kernel
theorem dX9_dueCup_108 : decode cX9_dueCup 108 = .ok (.goto (-32), 3) := by decide +kernel
theorem dX9_dueCup_111 : decode cX9_dueCup 111 = .ok (.iconst (-1), 1) := by decide +kernel
theorem dX9_dueCup_112 : decode cX9_dueCup 112 = .ok (.ireturn, 1) := by decide +kernel
theorem dX9_ofN_0 : decode cX9_ofN 0 = .ok (.aload_n 0, 1) := by decide +kernel
theorem dX9_ofN_1 : decode cX9_ofN 1 = .ok (.getfield 502, 3) := by decide +kernel
theorem dX9_ofN_4 : decode cX9_ofN 4 = .ok (.aload_n 0, 1) := by decide +kernel
theorem dX9_ofN_5 : decode cX9_ofN 5 = .ok (.getfield 505, 3) := by decide +kernel
theorem dX9_ofN_8 : decode cX9_ofN 8 = .ok (.iadd, 1) := by decide +kernel
theorem dX9_ofN_9 : decode cX9_ofN 9 = .ok (.aload_n 0, 1) := by decide +kernel
theorem dX9_ofN_10 : decode cX9_ofN 10 = .ok (.getfield 173, 3) := by decide +kernel
theorem dX9_ofN_13 : decode cX9_ofN 13 = .ok (.iconst 1, 1) := by decide +kernel
theorem dX9_ofN_14 : decode cX9_ofN 14 = .ok (.if_icmp .ne 7, 3) := by decide +kernel
theorem dX9_ofN_17 : decode cX9_ofN 17 = .ok (.iconst 0, 1) := by decide +kernel
theorem dX9_ofN_18 : decode cX9_ofN 18 = .ok (.goto 7, 3) := by decide +kernel
theorem dX9_ofN_21 : decode cX9_ofN 21 = .ok (.aload_n 0, 1) := by decide +kernel
theorem dX9_ofN_22 : decode cX9_ofN 22 = .ok (.getfield 508, 3) := by decide +kernel
theorem dX9_ofN_25 : decode cX9_ofN 25 = .ok (.iadd, 1) := by decide +kernel
theorem dX9_ofN_26 : decode cX9_ofN 26 = .ok (.ireturn, 1) := by decide +kernel
theorem dX9_ofK_0 : decode cX9_ofK 0 = .ok (.aload_n 0, 1) := by decide +kernel
theorem dX9_ofK_1 : decode cX9_ofK 1 = .ok (.getfield 502, 3) := by decide +kernel
theorem dX9_ofK_4 : decode cX9_ofK 4 = .ok (.aload_n 0, 1) := by decide +kernel
theorem dX9_ofK_5 : decode cX9_ofK 5 = .ok (.getfield 173, 3) := by decide +kernel
theorem dX9_ofK_8 : decode cX9_ofK 8 = .ok (.ifCond .ne 21, 3) := by decide +kernel
theorem dX9_ofK_11 : decode cX9_ofK 11 = .ok (.aload_n 0, 1) := by decide +kernel
theorem dX9_ofK_12 : decode cX9_ofK 12 = .ok (.getfield 152, 3) := by decide +kernel
theorem dX9_ofK_15 : decode cX9_ofK 15 = .ok (.iload_n 1, 1) := by decide +kernel
theorem dX9_ofK_16 : decode cX9_ofK 16 = .ok (.baload, 1) := by decide +kernel
theorem dX9_ofK_17 : decode cX9_ofK 17 = .ok (.ifCond .ne 12, 3) := by decide +kernel
theorem dX9_ofK_20 : decode cX9_ofK 20 = .ok (.aload_n 0, 1) := by decide +kernel
theorem dX9_ofK_21 : decode cX9_ofK 21 = .ok (.getfield 508, 3) := by decide +kernel
theorem dX9_ofK_24 : decode cX9_ofK 24 = .ok (.iconst 2, 1) := by decide +kernel
theorem dX9_ofK_25 : decode cX9_ofK 25 = .ok (.idiv, 1) := by decide +kernel
theorem dX9_ofK_26 : decode cX9_ofK 26 = .ok (.goto 4, 3) := by decide +kernel
theorem dX9_ofK_29 : decode cX9_ofK 29 = .ok (.iconst 0, 1) := by decide +kernel
theorem dX9_ofK_30 : decode cX9_ofK 30 = .ok (.iadd, 1) := by decide +kernel
theorem dX9_ofK_31 : decode cX9_ofK 31 = .ok (.ireturn, 1) := by decide +kernel
theorem dX9_counts_0 : decode cX9_counts 0 = .ok (.aload_n 0, 1) := by decide +kernel
theorem dX9_counts_1 : decode cX9_counts 1 = .ok (.iload_n 1, 1) := by decide +kernel
theorem dX9_counts_2 : decode cX9_counts 2 = .ok (.invokevirtual 499, 3) := by decide +kernel
theorem dX9_counts_5 : decode cX9_counts 5 = .ok (.aload_n 0, 1) := by decide +kernel
theorem dX9_counts_6 : decode cX9_counts 6 = .ok (.iconst 0, 1) := by decide +kernel
theorem dX9_counts_7 : decode cX9_counts 7 = .ok (.putfield 502, 3) := by decide +kernel
theorem dX9_counts_10 : decode cX9_counts 10 = .ok (.aload_n 0, 1) := by decide +kernel
theorem dX9_counts_11 : decode cX9_counts 11 = .ok (.iconst 0, 1) := by decide +kernel
theorem dX9_counts_12 : decode cX9_counts 12 = .ok (.putfield 505, 3) := by decide +kernel
theorem dX9_counts_15 : decode cX9_counts 15 = .ok (.aload_n 0, 1) := by decide +kernel
theorem dX9_counts_16 : decode cX9_counts 16 = .ok (.iconst 0, 1) := by decide +kernel
theorem dX9_counts_17 : decode cX9_counts 17 = .ok (.putfield 508, 3) := by decide +kernel
theorem dX9_counts_20 : decode cX9_counts 20 = .ok (.aload_n 0, 1) := by decide +kernel
theorem dX9_counts_21 : decode cX9_counts 21 = .ok (.iconst 0, 1) := by decide +kernel
theorem dX9_counts_22 : decode cX9_counts 22 = .ok (.putfield 511, 3) := by decide +kernel
theorem dX9_counts_25 : decode cX9_counts 25 = .ok (.aload_n 0, 1) := by decide +kernel
theorem dX9_counts_26 : decode cX9_counts 26 = .ok (.iconst 0, 1) := by decide +kernel
theorem dX9_counts_27 : decode cX9_counts 27 = .ok (.putfield 514, 3) := by decide +kernel
theorem dX9_counts_30 : decode cX9_counts 30 = .ok (.iconst 0, 1) := by decide +kernel
theorem dX9_counts_31 : decode cX9_counts 31 = .ok (.istore_n 3, 1) := by decide +kernel
theorem dX9_counts_32 : decode cX9_counts 32 = .ok (.iload_n 3, 1) := by decide +kernel
theorem dX9_counts_33 : decode cX9_counts 33 = .ok (.bipush 30, 2) := by decide +kernel
theorem dX9_counts_35 : decode cX9_counts 35 = .ok (.if_icmp .ge 16, 3) := by decide +kernel
theorem dX9_counts_38 : decode cX9_counts 38 = .ok (.aload_n 0, 1) := by decide +kernel
theorem dX9_counts_39 : decode cX9_counts 39 = .ok (.getfield 212, 3) := by decide +kernel
theorem dX9_counts_42 : decode cX9_counts 42 = .ok (.iload_n 3, 1) := by decide +kernel
theorem dX9_counts_43 : decode cX9_counts 43 = .ok (.iconst 0, 1) := by decide +kernel
theorem dX9_counts_44 : decode cX9_counts 44 = .ok (.bastore, 1) := by decide +kernel
theorem dX9_counts_45 : decode cX9_counts 45 = .ok (.iinc 3 1, 3) := by decide +kernel
theorem dX9_counts_48 : decode cX9_counts 48 = .ok (.goto (-16), 3) := by decide +kernel
theorem dX9_counts_51 : decode cX9_counts 51 = .ok (.iconst 0, 1) := by decide +kernel
theorem dX9_counts_52 : decode cX9_counts 52 = .ok (.istore_n 3, 1) := by decide +kernel
theorem dX9_counts_53 : decode cX9_counts 53 = .ok (.iconst 1, 1) := by decide +kernel
theorem dX9_counts_54 : decode cX9_counts 54 = .ok (.istore 4, 2) := by decide +kernel
theorem dX9_counts_56 : decode cX9_counts 56 = .ok (.iload 4, 2) := by decide +kernel
theorem dX9_counts_58 : decode cX9_counts 58 = .ok (.aload_n 0, 1) := by decide +kernel
theorem dX9_counts_59 : decode cX9_counts 59 = .ok (.getfield 445, 3) := by decide +kernel
theorem dX9_counts_62 : decode cX9_counts 62 = .ok (.if_icmp .gt 261, 3) := by decide +kernel
theorem dX9_counts_65 : decode cX9_counts 65 = .ok (.aload_n 0, 1) := by decide +kernel
theorem dX9_counts_66 : decode cX9_counts 66 = .ok (.getfield 511, 3) := by decide +kernel
theorem dX9_counts_69 : decode cX9_counts 69 = .ok (.ifCond .eq 7, 3) := by decide +kernel
theorem dX9_counts_72 : decode cX9_counts 72 = .ok (.iload_n 2, 1) := by decide +kernel
theorem dX9_counts_73 : decode cX9_counts 73 = .ok (.ifCond .ne 250, 3) := by decide +kernel
theorem dX9_counts_76 : decode cX9_counts 76 = .ok (.aload_n 0, 1) := by decide +kernel
theorem dX9_counts_77 : decode cX9_counts 77 = .ok (.getfield 188, 3) := by decide +kernel
theorem dX9_counts_80 : decode cX9_counts 80 = .ok (.iload 4, 2) := by decide +kernel
theorem dX9_counts_82 : decode cX9_counts 82 = .ok (.iaload, 1) := by decide +kernel
theorem dX9_counts_83 : decode cX9_counts 83 = .ok (.iconst 1, 1) := by decide +kernel
theorem dX9_counts_84 : decode cX9_counts 84 = .ok (.if_icmp .ne 233, 3) := by decide +kernel
theorem dX9_counts_87 : decode cX9_counts 87 = .ok (.aload_n 0, 1) := by decide +kernel
theorem dX9_counts_88 : decode cX9_counts 88 = .ok (.getfield 191, 3) := by decide +kernel
theorem dX9_counts_91 : decode cX9_counts 91 = .ok (.iload 4, 2) := by decide +kernel
theorem dX9_counts_93 : decode cX9_counts 93 = .ok (.iaload, 1) := by decide +kernel
theorem dX9_counts_94 : decode cX9_counts 94 = .ok (.iload_n 1, 1) := by decide +kernel
theorem dX9_counts_95 : decode cX9_counts 95 = .ok (.if_icmp .ne 222, 3) := by decide +kernel
theorem dX9_counts_98 : decode cX9_counts 98 = .ok (.aload_n 0, 1) := by decide +kernel
theorem dX9_counts_99 : decode cX9_counts 99 = .ok (.iload 4, 2) := by decide +kernel
theorem dX9_counts_101 : decode cX9_counts 101 = .ok (.invokevirtual 496, 3) := by decide +kernel
theorem dX9_counts_104 : decode cX9_counts 104 = .ok (.ifCond .eq 213, 3) := by decide +kernel
theorem dX9_counts_107 : decode cX9_counts 107 = .ok (.aload_n 0, 1) := by decide +kernel
theorem dX9_counts_108 : decode cX9_counts 108 = .ok (.getfield 212, 3) := by decide +kernel
theorem dX9_counts_111 : decode cX9_counts 111 = .ok (.aload_n 0, 1) := by decide +kernel
theorem dX9_counts_112 : decode cX9_counts 112 = .ok (.getfield 194, 3) := by decide +kernel
theorem dX9_counts_115 : decode cX9_counts 115 = .ok (.iload 4, 2) := by decide +kernel
theorem dX9_counts_117 : decode cX9_counts 117 = .ok (.iaload, 1) := by decide +kernel
theorem dX9_counts_118 : decode cX9_counts 118 = .ok (.baload, 1) := by decide +kernel
theorem dX9_counts_119 : decode cX9_counts 119 = .ok (.ifCond .eq 6, 3) := by decide +kernel
theorem dX9_counts_122 : decode cX9_counts 122 = .ok (.goto 195, 3) := by decide +kernel
theorem dX9_counts_125 : decode cX9_counts 125 = .ok (.aload_n 0, 1) := by decide +kernel
theorem dX9_counts_126 : decode cX9_counts 126 = .ok (.getfield 212, 3) := by decide +kernel
theorem dX9_counts_129 : decode cX9_counts 129 = .ok (.aload_n 0, 1) := by decide +kernel
theorem dX9_counts_130 : decode cX9_counts 130 = .ok (.getfield 194, 3) := by decide +kernel
theorem dX9_counts_133 : decode cX9_counts 133 = .ok (.iload 4, 2) := by decide +kernel
theorem dX9_counts_135 : decode cX9_counts 135 = .ok (.iaload, 1) := by decide +kernel
theorem dX9_counts_136 : decode cX9_counts 136 = .ok (.iconst 1, 1) := by decide +kernel
theorem dX9_counts_137 : decode cX9_counts 137 = .ok (.bastore, 1) := by decide +kernel
theorem dX9_counts_138 : decode cX9_counts 138 = .ok (.aload_n 0, 1) := by decide +kernel
theorem dX9_counts_139 : decode cX9_counts 139 = .ok (.iload_n 1, 1) := by decide +kernel
theorem dX9_counts_140 : decode cX9_counts 140 = .ok (.aload_n 0, 1) := by decide +kernel
theorem dX9_counts_141 : decode cX9_counts 141 = .ok (.getfield 194, 3) := by decide +kernel
theorem dX9_counts_144 : decode cX9_counts 144 = .ok (.iload 4, 2) := by decide +kernel
theorem dX9_counts_146 : decode cX9_counts 146 = .ok (.iaload, 1) := by decide +kernel
theorem dX9_counts_147 : decode cX9_counts 147 = .ok (.invokevirtual 517, 3) := by decide +kernel
theorem dX9_counts_150 : decode cX9_counts 150 = .ok (.istore 5, 2) := by decide +kernel
theorem dX9_counts_152 : decode cX9_counts 152 = .ok (.iload 5, 2) := by decide +kernel
theorem dX9_counts_154 : decode cX9_counts 154 = .ok (.iconst (-1), 1) := by decide +kernel
theorem dX9_counts_155 : decode cX9_counts 155 = .ok (.if_icmp .ne 16, 3) := by decide +kernel
theorem dX9_counts_158 : decode cX9_counts 158 = .ok (.aload_n 0, 1) := by decide +kernel
theorem dX9_counts_159 : decode cX9_counts 159 = .ok (.dup, 1) := by decide +kernel
theorem dX9_counts_160 : decode cX9_counts 160 = .ok (.getfield 514, 3) := by decide +kernel
theorem dX9_counts_163 : decode cX9_counts 163 = .ok (.iconst 1, 1) := by decide +kernel
theorem dX9_counts_164 : decode cX9_counts 164 = .ok (.iadd, 1) := by decide +kernel
theorem dX9_counts_165 : decode cX9_counts 165 = .ok (.putfield 514, 3) := by decide +kernel
theorem dX9_counts_168 : decode cX9_counts 168 = .ok (.goto 149, 3) := by decide +kernel
theorem dX9_counts_171 : decode cX9_counts 171 = .ok (.aload_n 0, 1) := by decide +kernel
theorem dX9_counts_172 : decode cX9_counts 172 = .ok (.getfield 197, 3) := by decide +kernel
theorem dX9_counts_175 : decode cX9_counts 175 = .ok (.iload 4, 2) := by decide +kernel
theorem dX9_counts_177 : decode cX9_counts 177 = .ok (.iaload, 1) := by decide +kernel
theorem dX9_counts_178 : decode cX9_counts 178 = .ok (.iconst (-1), 1) := by decide +kernel
theorem dX9_counts_179 : decode cX9_counts 179 = .ok (.if_icmp .ne 16, 3) := by decide +kernel
theorem dX9_counts_182 : decode cX9_counts 182 = .ok (.aload_n 0, 1) := by decide +kernel
theorem dX9_counts_183 : decode cX9_counts 183 = .ok (.dup, 1) := by decide +kernel
theorem dX9_counts_184 : decode cX9_counts 184 = .ok (.getfield 508, 3) := by decide +kernel
theorem dX9_counts_187 : decode cX9_counts 187 = .ok (.iconst 1, 1) := by decide +kernel
theorem dX9_counts_188 : decode cX9_counts 188 = .ok (.iadd, 1) := by decide +kernel
theorem dX9_counts_189 : decode cX9_counts 189 = .ok (.putfield 508, 3) := by decide +kernel
theorem dX9_counts_192 : decode cX9_counts 192 = .ok (.goto 38, 3) := by decide +kernel
theorem dX9_counts_195 : decode cX9_counts 195 = .ok (.aload_n 0, 1) := by decide +kernel
theorem dX9_counts_196 : decode cX9_counts 196 = .ok (.getfield 197, 3) := by decide +kernel
theorem dX9_counts_199 : decode cX9_counts 199 = .ok (.iload 4, 2) := by decide +kernel
theorem dX9_counts_201 : decode cX9_counts 201 = .ok (.iaload, 1) := by decide +kernel
theorem dX9_counts_202 : decode cX9_counts 202 = .ok (.iload 5, 2) := by decide +kernel
theorem dX9_counts_204 : decode cX9_counts 204 = .ok (.if_icmp .ne 16, 3) := by decide +kernel
theorem dX9_counts_207 : decode cX9_counts 207 = .ok (.aload_n 0, 1) := by decide +kernel
theorem dX9_counts_208 : decode cX9_counts 208 = .ok (.dup, 1) := by decide +kernel
theorem dX9_counts_209 : decode cX9_counts 209 = .ok (.getfield 502, 3) := by decide +kernel
theorem dX9_counts_212 : decode cX9_counts 212 = .ok (.iconst 1, 1) := by decide +kernel
theorem dX9_counts_213 : decode cX9_counts 213 = .ok (.iadd, 1) := by decide +kernel
theorem dX9_counts_214 : decode cX9_counts 214 = .ok (.putfield 502, 3) := by decide +kernel
theorem dX9_counts_217 : decode cX9_counts 217 = .ok (.goto 13, 3) := by decide +kernel
theorem dX9_counts_220 : decode cX9_counts 220 = .ok (.aload_n 0, 1) := by decide +kernel
theorem dX9_counts_221 : decode cX9_counts 221 = .ok (.dup, 1) := by decide +kernel
theorem dX9_counts_222 : decode cX9_counts 222 = .ok (.getfield 505, 3) := by decide +kernel
theorem dX9_counts_225 : decode cX9_counts 225 = .ok (.iconst 1, 1) := by decide +kernel
theorem dX9_counts_226 : decode cX9_counts 226 = .ok (.iadd, 1) := by decide +kernel
theorem dX9_counts_227 : decode cX9_counts 227 = .ok (.putfield 505, 3) := by decide +kernel
theorem dX9_counts_230 : decode cX9_counts 230 = .ok (.iload_n 2, 1) := by decide +kernel
theorem dX9_counts_231 : decode cX9_counts 231 = .ok (.ifCond .eq 86, 3) := by decide +kernel
theorem dX9_counts_234 : decode cX9_counts 234 = .ok (.iload_n 3, 1) := by decide +kernel
theorem dX9_counts_235 : decode cX9_counts 235 = .ok (.aload_n 0, 1) := by decide +kernel
theorem dX9_counts_236 : decode cX9_counts 236 = .ok (.getfield 161, 3) := by decide +kernel
theorem dX9_counts_239 : decode cX9_counts 239 = .ok (.iload_n 1, 1) := by decide +kernel
theorem dX9_counts_240 : decode cX9_counts 240 = .ok (.iaload, 1) := by decide +kernel
theorem dX9_counts_241 : decode cX9_counts 241 = .ok (.if_icmp .eq 76, 3) := by decide +kernel
theorem dX9_counts_244 : decode cX9_counts 244 = .ok (.aload_n 0, 1) := by decide +kernel
theorem dX9_counts_245 : decode cX9_counts 245 = .ok (.getfield 164, 3) := by decide +kernel
theorem dX9_counts_248 : decode cX9_counts 248 = .ok (.iconst 5, 1) := by decide +kernel
theorem dX9_counts_249 : decode cX9_counts 249 = .ok (.iload_n 1, 1) := by decide +kernel
theorem dX9_counts_250 : decode cX9_counts 250 = .ok (.imul, 1) := by decide +kernel
theorem dX9_counts_251 : decode cX9_counts 251 = .ok (.iload_n 3, 1) := by decide +kernel
theorem dX9_counts_252 : decode cX9_counts 252 = .ok (.iadd, 1) := by decide +kernel
theorem dX9_counts_253 : decode cX9_counts 253 = .ok (.iaload, 1) := by decide +kernel
theorem dX9_counts_254 : decode cX9_counts 254 = .ok (.aload_n 0, 1) := by decide +kernel
theorem dX9_counts_255 : decode cX9_counts 255 = .ok (.invokevirtual 520, 3) := by decide +kernel
theorem dX9_counts_258 : decode cX9_counts 258 = .ok (.if_icmp .eq 6, 3) := by decide +kernel
theorem dX9_counts_261 : decode cX9_counts 261 = .ok (.goto 56, 3) := by decide +kernel
theorem dX9_counts_264 : decode cX9_counts 264 = .ok (.aload_n 0, 1) := by decide +kernel
theorem dX9_counts_265 : decode cX9_counts 265 = .ok (.getfield 152, 3) := by decide +kernel
theorem dX9_counts_268 : decode cX9_counts 268 = .ok (.iload_n 1, 1) := by decide +kernel
theorem dX9_counts_269 : decode cX9_counts 269 = .ok (.baload, 1) := by decide +kernel
theorem dX9_counts_270 : decode cX9_counts 270 = .ok (.aload_n 0, 1) := by decide +kernel
theorem dX9_counts_271 : decode cX9_counts 271 = .ok (.iload_n 1, 1) := by decide +kernel
theorem dX9_counts_272 : decode cX9_counts 272 = .ok (.invokevirtual 523, 3) := by decide +kernel
theorem dX9_counts_275 : decode cX9_counts 275 = .ok (.aload_n 0, 1) := by decide +kernel
theorem dX9_counts_276 : decode cX9_counts 276 = .ok (.invokevirtual 520, 3) := by decide +kernel
theorem dX9_counts_279 : decode cX9_counts 279 = .ok (.aload_n 0, 1) := by decide +kernel
theorem dX9_counts_280 : decode cX9_counts 280 = .ok (.getfield 167, 3) := by decide +kernel
theorem dX9_counts_283 : decode cX9_counts 283 = .ok (.iconst 5, 1) := by decide +kernel
theorem dX9_counts_284 : decode cX9_counts 284 = .ok (.iload_n 1, 1) := by decide +kernel
theorem dX9_counts_285 : decode cX9_counts 285 = .ok (.imul, 1) := by decide +kernel
theorem dX9_counts_286 : decode cX9_counts 286 = .ok (.iload_n 3, 1) := by decide +kernel
theorem dX9_counts_287 : decode cX9_counts 287 = .ok (.iadd, 1) := by decide +kernel
theorem dX9_counts_288 : decode cX9_counts 288 = .ok (.iaload, 1) := by decide +kernel
theorem dX9_counts_289 : decode cX9_counts 289 = .ok (.i2l, 1) := by decide +kernel
theorem dX9_counts_290 : decode cX9_counts 290 = .ok (.aload_n 0, 1) := by decide +kernel
theorem dX9_counts_291 : decode cX9_counts 291 = .ok (.getfield 170, 3) := by decide +kernel
theorem dX9_counts_294 : decode cX9_counts 294 = .ok (.iconst 5, 1) := by decide +kernel
theorem dX9_counts_295 : decode cX9_counts 295 = .ok (.iload_n 1, 1) := by decide +kernel
theorem dX9_counts_296 : decode cX9_counts 296 = .ok (.imul, 1) := by decide +kernel
theorem dX9_counts_297 : decode cX9_counts 297 = .ok (.iload_n 3, 1) := by decide +kernel
theorem dX9_counts_298 : decode cX9_counts 298 = .ok (.iadd, 1) := by decide +kernel
theorem dX9_counts_299 : decode cX9_counts 299 = .ok (.iaload, 1) := by decide +kernel
theorem dX9_counts_300 : decode cX9_counts 300 = .ok (.i2l, 1) := by decide +kernel
theorem dX9_counts_301 : decode cX9_counts 301 = .ok (.invokestatic 526, 3) := by decide +kernel
theorem dX9_counts_304 : decode cX9_counts 304 = .ok (.ifCond .eq 10, 3) := by decide +kernel
theorem dX9_counts_307 : decode cX9_counts 307 = .ok (.aload_n 0, 1) := by decide +kernel
theorem dX9_counts_308 : decode cX9_counts 308 = .ok (.iload_n 3, 1) := by decide +kernel
theorem dX9_counts_309 : decode cX9_counts 309 = .ok (.iconst 1, 1) := by decide +kernel
theorem dX9_counts_310 : decode cX9_counts 310 = .ok (.iadd, 1) := by decide +kernel
theorem dX9_counts_311 : decode cX9_counts 311 = .ok (.putfield 511, 3) := by decide +kernel
theorem dX9_counts_314 : decode cX9_counts 314 = .ok (.iinc 3 1, 3) := by decide +kernel
theorem dX9_counts_317 : decode cX9_counts 317 = .ok (.iinc 4 1, 3) := by decide +kernel
theorem dX9_counts_320 : decode cX9_counts 320 = .ok (.goto (-264), 3) := by decide +kernel
theorem dX9_counts_323 : decode cX9_counts 323 = .ok (.return_, 1) := by decide +kernel
theorem dX9_answers_0 : decode cX9_answers 0 = .ok (.aload_n 0, 1) := by decide +kernel
theorem dX9_answers_1 : decode cX9_answers 1 = .ok (.iload_n 1, 1) := by decide +kernel
theorem dX9_answers_2 : decode cX9_answers 2 = .ok (.invokevirtual 470, 3) := by decide +kernel
theorem dX9_answers_5 : decode cX9_answers 5 = .ok (.ifCond .ne 5, 3) := by decide +kernel
theorem dX9_answers_8 : decode cX9_answers 8 = .ok (.iconst (-1), 1) := by decide +kernel
theorem dX9_answers_9 : decode cX9_answers 9 = .ok (.ireturn, 1) := by decide +kernel
theorem dX9_answers_10 : decode cX9_answers 10 = .ok (.aload_n 0, 1) := by decide +kernel
theorem dX9_answers_11 : decode cX9_answers 11 = .ok (.iload_n 1, 1) := by decide +kernel
theorem dX9_answers_12 : decode cX9_answers 12 = .ok (.iconst 0, 1) := by decide +kernel
theorem dX9_answers_13 : decode cX9_answers 13 = .ok (.invokevirtual 530, 3) := by decide +kernel
theorem dX9_answers_16 : decode cX9_answers 16 = .ok (.aload_n 0, 1) := by decide +kernel
theorem dX9_answers_17 : decode cX9_answers 17 = .ok (.invokevirtual 520, 3) := by decide +kernel
theorem dX9_answers_20 : decode cX9_answers 20 = .ok (.ireturn, 1) := by decide +kernel
theorem dX9_over_0 : decode cX9_over 0 = .ok (.lconst 1, 1) := by decide +kernel
theorem dX9_over_1 : decode cX9_over 1 = .ok (.lstore_n 2, 1) := by decide +kernel
theorem dX9_over_2 : decode cX9_over 2 = .ok (.iconst 1, 1) := by decide +kernel
theorem dX9_over_3 : decode cX9_over 3 = .ok (.istore 4, 2) := by decide +kernel
theorem dX9_over_5 : decode cX9_over 5 = .ok (.iload 4, 2) := by decide +kernel
theorem dX9_over_7 : decode cX9_over 7 = .ok (.iload_n 1, 1) := by decide +kernel
theorem dX9_over_8 : decode cX9_over 8 = .ok (.if_icmp .gt 23, 3) := by decide +kernel
theorem dX9_over_11 : decode cX9_over 11 = .ok (.lload_n 2, 1) := by decide +kernel
theorem dX9_over_12 : decode cX9_over 12 = .ok (.iload_n 0, 1) := by decide +kernel
theorem dX9_over_13 : decode cX9_over 13 = .ok (.iconst 1, 1) := by decide +kernel
theorem dX9_over_14 : decode cX9_over 14 = .ok (.iadd, 1) := by decide +kernel
theorem dX9_over_15 : decode cX9_over 15 = .ok (.iload 4, 2) := by decide +kernel
theorem dX9_over_17 : decode cX9_over 17 = .ok (.isub, 1) := by decide +kernel
theorem dX9_over_18 : decode cX9_over 18 = .ok (.i2l, 1) := by decide +kernel
theorem dX9_over_19 : decode cX9_over 19 = .ok (.lmul, 1) := by decide +kernel
theorem dX9_over_20 : decode cX9_over 20 = .ok (.iload 4, 2) := by decide +kernel
theorem dX9_over_22 : decode cX9_over 22 = .ok (.i2l, 1) := by decide +kernel
theorem dX9_over_23 : decode cX9_over 23 = .ok (.ldiv, 1) := by decide +kernel
theorem dX9_over_24 : decode cX9_over 24 = .ok (.lstore_n 2, 1) := by decide +kernel
theorem dX9_over_25 : decode cX9_over 25 = .ok (.iinc 4 1, 3) := by decide +kernel
theorem dX9_over_28 : decode cX9_over 28 = .ok (.goto (-23), 3) := by decide +kernel
theorem dX9_over_31 : decode cX9_over 31 = .ok (.lload_n 2, 1) := by decide +kernel
theorem dX9_over_32 : decode cX9_over 32 = .ok (.lreturn, 1) := by decide +kernel
theorem dX9_power_0 : decode cX9_power 0 = .ok (.lconst 1, 1) := by decide +kernel
theorem dX9_power_1 : decode cX9_power 1 = .ok (.lstore_n 3, 1) := by decide +kernel
theorem dX9_power_2 : decode cX9_power 2 = .ok (.iconst 0, 1) := by decide +kernel
theorem dX9_power_3 : decode cX9_power 3 = .ok (.istore 5, 2) := by decide +kernel
theorem dX9_power_5 : decode cX9_power 5 = .ok (.iload 5, 2) := by decide +kernel
theorem dX9_power_7 : decode cX9_power 7 = .ok (.iload_n 2, 1) := by decide +kernel
theorem dX9_power_8 : decode cX9_power 8 = .ok (.if_icmp .ge 13, 3) := by decide +kernel
theorem dX9_power_11 : decode cX9_power 11 = .ok (.lload_n 3, 1) := by decide +kernel
theorem dX9_power_12 : decode cX9_power 12 = .ok (.lload_n 0, 1) := by decide +kernel
theorem dX9_power_13 : decode cX9_power 13 = .ok (.lmul, 1) := by decide +kernel
theorem dX9_power_14 : decode cX9_power 14 = .ok (.lstore_n 3, 1) := by decide +kernel
theorem dX9_power_15 : decode cX9_power 15 = .ok (.iinc 5 1, 3) := by decide +kernel
theorem dX9_power_18 : decode cX9_power 18 = .ok (.goto (-13), 3) := by decide +kernel
theorem dX9_power_21 : decode cX9_power 21 = .ok (.lload_n 3, 1) := by decide +kernel
theorem dX9_power_22 : decode cX9_power 22 = .ok (.lreturn, 1) := by decide +kernel
theorem dX9_guessed_0 : decode cX9_guessed 0 = .ok (.lconst 0, 1) := by decide +kernel
theorem dX9_guessed_1 : decode cX9_guessed 1 = .ok (.lstore_n 3, 1) := by decide +kernel
theorem dX9_guessed_2 : decode cX9_guessed 2 = .ok (.iload_n 1, 1) := by decide +kernel
theorem dX9_guessed_3 : decode cX9_guessed 3 = .ok (.istore 5, 2) := by decide +kernel
theorem dX9_guessed_5 : decode cX9_guessed 5 = .ok (.iload 5, 2) := by decide +kernel
theorem dX9_guessed_7 : decode cX9_guessed 7 = .ok (.iload_n 2, 1) := by decide +kernel
theorem dX9_guessed_8 : decode cX9_guessed 8 = .ok (.if_icmp .gt 37, 3) := by decide +kernel
theorem dX9_guessed_11 : decode cX9_guessed 11 = .ok (.lload_n 3, 1) := by decide +kernel
theorem dX9_guessed_12 : decode cX9_guessed 12 = .ok (.iload_n 2, 1) := by decide +kernel
theorem dX9_guessed_13 : decode cX9_guessed 13 = .ok (.iload 5, 2) := by decide +kernel
theorem dX9_guessed_15 : decode cX9_guessed 15 = .ok (.invokestatic 534, 3) := by decide +kernel
theorem dX9_guessed_18 : decode cX9_guessed 18 = .ok (.iload_n 0, 1) := by decide +kernel
theorem dX9_guessed_19 : decode cX9_guessed 19 = .ok (.ifCond .eq 16, 3) := by decide +kernel
theorem dX9_guessed_22 : decode cX9_guessed 22 = .ok (.ldc2_w 538, 3) := by decide +kernel
theorem dX9_guessed_25 : decode cX9_guessed 25 = .ok (.iload_n 2, 1) := by decide +kernel
theorem dX9_guessed_26 : decode cX9_guessed 26 = .ok (.iload 5, 2) := by decide +kernel
theorem dX9_guessed_28 : decode cX9_guessed 28 = .ok (.isub, 1) := by decide +kernel
theorem dX9_guessed_29 : decode cX9_guessed 29 = .ok (.invokestatic 540, 3) := by decide +kernel
theorem dX9_guessed_32 : decode cX9_guessed 32 = .ok (.goto 4, 3) := by decide +kernel
theorem dX9_guessed_35 : decode cX9_guessed 35 = .ok (.lconst 1, 1) := by decide +kernel
theorem dX9_guessed_36 : decode cX9_guessed 36 = .ok (.lmul, 1) := by decide +kernel
theorem dX9_guessed_37 : decode cX9_guessed 37 = .ok (.ladd, 1) := by decide +kernel
theorem dX9_guessed_38 : decode cX9_guessed 38 = .ok (.lstore_n 3, 1) := by decide +kernel
theorem dX9_guessed_39 : decode cX9_guessed 39 = .ok (.iinc 5 1, 3) := by decide +kernel
theorem dX9_guessed_42 : decode cX9_guessed 42 = .ok (.goto (-37), 3) := by decide +kernel
theorem dX9_guessed_45 : decode cX9_guessed 45 = .ok (.lload_n 3, 1) := by decide +kernel
theorem dX9_guessed_46 : decode cX9_guessed 46 = .ok (.lreturn, 1) := by decide +kernel
theorem dX9_isBelow_0 : decode cX9_isBelow 0 = .ok (.iload_n 0, 1) := by decide +kernel
theorem dX9_isBelow_1 : decode cX9_isBelow 1 = .ok (.iload_n 1, 1) := by decide +kernel
theorem dX9_isBelow_2 : decode cX9_isBelow 2 = .ok (.iload_n 2, 1) := by decide +kernel
theorem dX9_isBelow_3 : decode cX9_isBelow 3 = .ok (.invokestatic 544, 3) := by decide +kernel
theorem dX9_isBelow_6 : decode cX9_isBelow 6 = .ok (.lload 5, 2) := by decide +kernel
theorem dX9_isBelow_8 : decode cX9_isBelow 8 = .ok (.lmul, 1) := by decide +kernel
theorem dX9_isBelow_9 : decode cX9_isBelow 9 = .ok (.iload_n 0, 1) := by decide +kernel
theorem dX9_isBelow_10 : decode cX9_isBelow 10 = .ok (.ifCond .eq 9, 3) := by decide +kernel
theorem dX9_isBelow_13 : decode cX9_isBelow 13 = .ok (.ldc2_w 548, 3) := by decide +kernel
theorem dX9_isBelow_16 : decode cX9_isBelow 16 = .ok (.goto 6, 3) := by decide +kernel
theorem dX9_isBelow_19 : decode cX9_isBelow 19 = .ok (.ldc2_w 538, 3) := by decide +kernel
theorem dX9_isBelow_22 : decode cX9_isBelow 22 = .ok (.iload_n 2, 1) := by decide +kernel
theorem dX9_isBelow_23 : decode cX9_isBelow 23 = .ok (.invokestatic 540, 3) := by decide +kernel
theorem dX9_isBelow_26 : decode cX9_isBelow 26 = .ok (.lload_n 3, 1) := by decide +kernel
theorem dX9_isBelow_27 : decode cX9_isBelow 27 = .ok (.lmul, 1) := by decide +kernel
theorem dX9_isBelow_28 : decode cX9_isBelow 28 = .ok (.lcmp, 1) := by decide +kernel
theorem dX9_isBelow_29 : decode cX9_isBelow 29 = .ok (.ifCond .ge 7, 3) := by decide +kernel
theorem dX9_isBelow_32 : decode cX9_isBelow 32 = .ok (.iconst 1, 1) := by decide +kernel
theorem dX9_isBelow_33 : decode cX9_isBelow 33 = .ok (.goto 4, 3) := by decide +kernel
theorem dX9_isBelow_36 : decode cX9_isBelow 36 = .ok (.iconst 0, 1) := by decide +kernel
theorem dX9_isBelow_37 : decode cX9_isBelow 37 = .ok (.ireturn, 1) := by decide +kernel
theorem dX9_guess_0 : decode cX9_guess 0 = .ok (.iload_n 3, 1) := by decide +kernel
theorem dX9_guess_1 : decode cX9_guess 1 = .ok (.i2l, 1) := by decide +kernel
theorem dX9_guess_2 : decode cX9_guess 2 = .ok (.lconst 0, 1) := by decide +kernel
theorem dX9_guess_3 : decode cX9_guess 3 = .ok (.ldc2_w 550, 3) := by decide +kernel
theorem dX9_guess_6 : decode cX9_guess 6 = .ok (.invokestatic 285, 3) := by decide +kernel
theorem dX9_guess_9 : decode cX9_guess 9 = .ok (.ifCond .eq 23, 3) := by decide +kernel
theorem dX9_guess_12 : decode cX9_guess 12 = .ok (.iload_n 2, 1) := by decide +kernel
theorem dX9_guess_13 : decode cX9_guess 13 = .ok (.i2l, 1) := by decide +kernel
theorem dX9_guess_14 : decode cX9_guess 14 = .ok (.lconst 0, 1) := by decide +kernel
theorem dX9_guess_15 : decode cX9_guess 15 = .ok (.iload_n 3, 1) := by decide +kernel
theorem dX9_guess_16 : decode cX9_guess 16 = .ok (.i2l, 1) := by decide +kernel
theorem dX9_guess_17 : decode cX9_guess 17 = .ok (.invokestatic 285, 3) := by decide +kernel
theorem dX9_guess_20 : decode cX9_guess 20 = .ok (.ifCond .eq 12, 3) := by decide +kernel
theorem dX9_guess_23 : decode cX9_guess 23 = .ok (.iload_n 1, 1) := by decide +kernel
theorem dX9_guess_24 : decode cX9_guess 24 = .ok (.iload_n 2, 1) := by decide +kernel
theorem dX9_guess_25 : decode cX9_guess 25 = .ok (.iload_n 3, 1) := by decide +kernel
theorem dX9_guess_26 : decode cX9_guess 26 = .ok (.invokestatic 544, 3) := by decide +kernel
theorem dX9_guess_29 : decode cX9_guess 29 = .ok (.goto 6, 3) := by decide +kernel
theorem dX9_guess_32 : decode cX9_guess 32 = .ok (.ldc2_w 487, 3) := by decide +kernel
theorem dX9_guess_35 : decode cX9_guess 35 = .ok (.lreturn, 1) := by decide +kernel
theorem dX9_tables_0 : decode cX9_tables 0 = .ok (.iload_n 1, 1) := by decide +kernel
theorem dX9_tables_1 : decode cX9_tables 1 = .ok (.ifCond .eq 16, 3) := by decide +kernel
theorem dX9_tables_4 : decode cX9_tables 4 = .ok (.ldc2_w 552, 3) := by decide +kernel
theorem dX9_tables_7 : decode cX9_tables 7 = .ok (.ldc2_w 538, 3) := by decide +kernel
theorem dX9_tables_10 : decode cX9_tables 10 = .ok (.iload_n 2, 1) := by decide +kernel
theorem dX9_tables_11 : decode cX9_tables 11 = .ok (.i2l, 1) := by decide +kernel
theorem dX9_tables_12 : decode cX9_tables 12 = .ok (.lmul, 1) := by decide +kernel
theorem dX9_tables_13 : decode cX9_tables 13 = .ok (.ladd, 1) := by decide +kernel
theorem dX9_tables_14 : decode cX9_tables 14 = .ok (.goto 9, 3) := by decide +kernel
theorem dX9_tables_17 : decode cX9_tables 17 = .ok (.ldc2_w 552, 3) := by decide +kernel
theorem dX9_tables_20 : decode cX9_tables 20 = .ok (.iload_n 2, 1) := by decide +kernel
theorem dX9_tables_21 : decode cX9_tables 21 = .ok (.i2l, 1) := by decide +kernel
theorem dX9_tables_22 : decode cX9_tables 22 = .ok (.ladd, 1) := by decide +kernel
theorem dX9_tables_23 : decode cX9_tables 23 = .ok (.lstore 4, 2) := by decide +kernel
theorem dX9_tables_25 : decode cX9_tables 25 = .ok (.iload_n 1, 1) := by decide +kernel
theorem dX9_tables_26 : decode cX9_tables 26 = .ok (.ifCond .eq 9, 3) := by decide +kernel
theorem dX9_tables_29 : decode cX9_tables 29 = .ok (.ldc2_w 554, 3) := by decide +kernel
theorem dX9_tables_32 : decode cX9_tables 32 = .ok (.goto 6, 3) := by decide +kernel
theorem dX9_tables_35 : decode cX9_tables 35 = .ok (.ldc2_w 556, 3) := by decide +kernel
theorem dX9_tables_38 : decode cX9_tables 38 = .ok (.lstore 6, 2) := by decide +kernel
theorem dX9_tables_40 : decode cX9_tables 40 = .ok (.iconst 0, 1) := by decide +kernel
theorem dX9_tables_41 : decode cX9_tables 41 = .ok (.istore 8, 2) := by decide +kernel
theorem dX9_tables_43 : decode cX9_tables 43 = .ok (.iload 8, 2) := by decide +kernel
theorem dX9_tables_45 : decode cX9_tables 45 = .ok (.bipush 32, 2) := by decide +kernel
theorem dX9_tables_47 : decode cX9_tables 47 = .ok (.if_icmp .ge 28, 3) := by decide +kernel
theorem dX9_tables_50 : decode cX9_tables 50 = .ok (.aload_n 0, 1) := by decide +kernel
theorem dX9_tables_51 : decode cX9_tables 51 = .ok (.getfield 215, 3) := by decide +kernel
theorem dX9_tables_54 : decode cX9_tables 54 = .ok (.iload 8, 2) := by decide +kernel
theorem dX9_tables_56 : decode cX9_tables 56 = .ok (.iload 8, 2) := by decide +kernel
theorem dX9_tables_58 : decode cX9_tables 58 = .ok (.ifCond .ne 9, 3) := by decide +kernel
theorem dX9_tables_61 : decode cX9_tables 61 = .ok (.ldc2_w 558, 3) := by decide +kernel
theorem dX9_tables_64 : decode cX9_tables 64 = .ok (.goto 4, 3) := by decide +kernel
theorem dX9_tables_67 : decode cX9_tables 67 = .ok (.lconst 0, 1) := by decide +kernel
theorem dX9_tables_68 : decode cX9_tables 68 = .ok (.lastore, 1) := by decide +kernel
theorem dX9_tables_69 : decode cX9_tables 69 = .ok (.iinc 8 1, 3) := by decide +kernel
theorem dX9_tables_72 : decode cX9_tables 72 = .ok (.goto (-29), 3) := by decide +kernel
theorem dX9_tables_75 : decode cX9_tables 75 = .ok (.iconst 1, 1) := by decide +kernel
theorem dX9_tables_76 : decode cX9_tables 76 = .ok (.istore 8, 2) := by decide +kernel
theorem dX9_tables_78 : decode cX9_tables 78 = .ok (.iload 8, 2) := by decide +kernel
theorem dX9_tables_80 : decode cX9_tables 80 = .ok (.iload_n 3, 1) := by decide +kernel
theorem dX9_tables_81 : decode cX9_tables 81 = .ok (.if_icmp .gt 76, 3) := by decide +kernel
theorem dX9_tables_84 : decode cX9_tables 84 = .ok (.iload 8, 2) := by decide +kernel
theorem dX9_tables_86 : decode cX9_tables 86 = .ok (.istore 9, 2) := by decide +kernel
theorem dX9_tables_88 : decode cX9_tables 88 = .ok (.iload 9, 2) := by decide +kernel
theorem dX9_tables_90 : decode cX9_tables 90 = .ok (.ifCond .lt 61, 3) := by decide +kernel
theorem dX9_tables_93 : decode cX9_tables 93 = .ok (.aload_n 0, 1) := by decide +kernel
theorem dX9_tables_94 : decode cX9_tables 94 = .ok (.getfield 215, 3) := by decide +kernel
theorem dX9_tables_97 : decode cX9_tables 97 = .ok (.iload 9, 2) := by decide +kernel
theorem dX9_tables_99 : decode cX9_tables 99 = .ok (.laload, 1) := by decide +kernel
theorem dX9_tables_100 : decode cX9_tables 100 = .ok (.lload 6, 2) := by decide +kernel
theorem dX9_tables_102 : decode cX9_tables 102 = .ok (.lload 4, 2) := by decide +kernel
theorem dX9_tables_104 : decode cX9_tables 104 = .ok (.lsub, 1) := by decide +kernel
theorem dX9_tables_105 : decode cX9_tables 105 = .ok (.lmul, 1) := by decide +kernel
theorem dX9_tables_106 : decode cX9_tables 106 = .ok (.lload 6, 2) := by decide +kernel
theorem dX9_tables_108 : decode cX9_tables 108 = .ok (.ldiv, 1) := by decide +kernel
theorem dX9_tables_109 : decode cX9_tables 109 = .ok (.lstore 10, 2) := by decide +kernel
theorem dX9_tables_111 : decode cX9_tables 111 = .ok (.iload 9, 2) := by decide +kernel
theorem dX9_tables_113 : decode cX9_tables 113 = .ok (.ifCond .le 23, 3) := by decide +kernel
theorem dX9_tables_116 : decode cX9_tables 116 = .ok (.lload 10, 2) := by decide +kernel
theorem dX9_tables_118 : decode cX9_tables 118 = .ok (.aload_n 0, 1) := by decide +kernel
theorem dX9_tables_119 : decode cX9_tables 119 = .ok (.getfield 215, 3) := by decide +kernel
theorem dX9_tables_122 : decode cX9_tables 122 = .ok (.iload 9, 2) := by decide +kernel
theorem dX9_tables_124 : decode cX9_tables 124 = .ok (.iconst 1, 1) := by decide +kernel
theorem dX9_tables_125 : decode cX9_tables 125 = .ok (.isub, 1) := by decide +kernel
theorem dX9_tables_126 : decode cX9_tables 126 = .ok (.laload, 1) := by decide +kernel
theorem dX9_tables_127 : decode cX9_tables 127 = .ok (.lload 4, 2) := by decide +kernel
theorem dX9_tables_129 : decode cX9_tables 129 = .ok (.lmul, 1) := by decide +kernel
theorem dX9_tables_130 : decode cX9_tables 130 = .ok (.lload 6, 2) := by decide +kernel
theorem dX9_tables_132 : decode cX9_tables 132 = .ok (.ldiv, 1) := by decide +kernel
theorem dX9_tables_133 : decode cX9_tables 133 = .ok (.ladd, 1) := by decide +kernel
theorem dX9_tables_134 : decode cX9_tables 134 = .ok (.lstore 10, 2) := by decide +kernel
theorem dX9_tables_136 : decode cX9_tables 136 = .ok (.aload_n 0, 1) := by decide +kernel
theorem dX9_tables_137 : decode cX9_tables 137 = .ok (.getfield 215, 3) := by decide +kernel
theorem dX9_tables_140 : decode cX9_tables 140 = .ok (.iload 9, 2) := by decide +kernel
theorem dX9_tables_142 : decode cX9_tables 142 = .ok (.lload 10, 2) := by decide +kernel
theorem dX9_tables_144 : decode cX9_tables 144 = .ok (.lastore, 1) := by decide +kernel
theorem dX9_tables_145 : decode cX9_tables 145 = .ok (.iinc 9 (-1), 3) := by decide +kernel
theorem dX9_tables_148 : decode cX9_tables 148 = .ok (.goto (-60), 3) := by decide +kernel
theorem dX9_tables_151 : decode cX9_tables 151 = .ok (.iinc 8 1, 3) := by decide +kernel
theorem dX9_tables_154 : decode cX9_tables 154 = .ok (.goto (-76), 3) := by decide +kernel
theorem dX9_tables_157 : decode cX9_tables 157 = .ok (.return_, 1) := by decide +kernel
theorem dX9_rowSum_0 : decode cX9_rowSum 0 = .ok (.lconst 0, 1) := by decide +kernel
theorem dX9_rowSum_1 : decode cX9_rowSum 1 = .ok (.lstore_n 3, 1) := by decide +kernel
theorem dX9_rowSum_2 : decode cX9_rowSum 2 = .ok (.iload_n 1, 1) := by decide +kernel
theorem dX9_rowSum_3 : decode cX9_rowSum 3 = .ok (.istore 5, 2) := by decide +kernel
theorem dX9_rowSum_5 : decode cX9_rowSum 5 = .ok (.iload 5, 2) := by decide +kernel
theorem dX9_rowSum_7 : decode cX9_rowSum 7 = .ok (.iload_n 2, 1) := by decide +kernel
theorem dX9_rowSum_8 : decode cX9_rowSum 8 = .ok (.if_icmp .gt 19, 3) := by decide +kernel
theorem dX9_rowSum_11 : decode cX9_rowSum 11 = .ok (.lload_n 3, 1) := by decide +kernel
theorem dX9_rowSum_12 : decode cX9_rowSum 12 = .ok (.aload_n 0, 1) := by decide +kernel
theorem dX9_rowSum_13 : decode cX9_rowSum 13 = .ok (.getfield 215, 3) := by decide +kernel
theorem dX9_rowSum_16 : decode cX9_rowSum 16 = .ok (.iload 5, 2) := by decide +kernel
theorem dX9_rowSum_18 : decode cX9_rowSum 18 = .ok (.laload, 1) := by decide +kernel
theorem dX9_rowSum_19 : decode cX9_rowSum 19 = .ok (.ladd, 1) := by decide +kernel
theorem dX9_rowSum_20 : decode cX9_rowSum 20 = .ok (.lstore_n 3, 1) := by decide +kernel
theorem dX9_rowSum_21 : decode cX9_rowSum 21 = .ok (.iinc 5 1, 3) := by decide +kernel
theorem dX9_rowSum_24 : decode cX9_rowSum 24 = .ok (.goto (-19), 3) := by decide +kernel
theorem dX9_rowSum_27 : decode cX9_rowSum 27 = .ok (.lload_n 3, 1) := by decide +kernel
theorem dX9_rowSum_28 : decode cX9_rowSum 28 = .ok (.lreturn, 1) := by decide +kernel
theorem dX9_table_0 : decode cX9_table 0 = .ok (.iload_n 2, 1) := by decide +kernel
theorem dX9_table_1 : decode cX9_table 1 = .ok (.i2l, 1) := by decide +kernel
theorem dX9_table_2 : decode cX9_table 2 = .ok (.lconst 0, 1) := by decide +kernel
theorem dX9_table_3 : decode cX9_table 3 = .ok (.ldc2_w 552, 3) := by decide +kernel
theorem dX9_table_6 : decode cX9_table 6 = .ok (.invokestatic 285, 3) := by decide +kernel
theorem dX9_table_9 : decode cX9_table 9 = .ok (.ifCond .eq 28, 3) := by decide +kernel
theorem dX9_table_12 : decode cX9_table 12 = .ok (.iload 4, 2) := by decide +kernel
theorem dX9_table_14 : decode cX9_table 14 = .ok (.i2l, 1) := by decide +kernel
theorem dX9_table_15 : decode cX9_table 15 = .ok (.lconst 0, 1) := by decide +kernel
theorem dX9_table_16 : decode cX9_table 16 = .ok (.ldc2_w 550, 3) := by decide +kernel
theorem dX9_table_19 : decode cX9_table 19 = .ok (.invokestatic 285, 3) := by decide +kernel
theorem dX9_table_22 : decode cX9_table 22 = .ok (.ifCond .eq 15, 3) := by decide +kernel
theorem dX9_table_25 : decode cX9_table 25 = .ok (.iload_n 3, 1) := by decide +kernel
theorem dX9_table_26 : decode cX9_table 26 = .ok (.i2l, 1) := by decide +kernel
theorem dX9_table_27 : decode cX9_table 27 = .ok (.lconst 0, 1) := by decide +kernel
theorem dX9_table_28 : decode cX9_table 28 = .ok (.iload 4, 2) := by decide +kernel
theorem dX9_table_30 : decode cX9_table 30 = .ok (.i2l, 1) := by decide +kernel
theorem dX9_table_31 : decode cX9_table 31 = .ok (.invokestatic 285, 3) := by decide +kernel
theorem dX9_table_34 : decode cX9_table 34 = .ok (.ifCond .ne 7, 3) := by decide +kernel
theorem dX9_table_37 : decode cX9_table 37 = .ok (.ldc2_w 487, 3) := by decide +kernel
theorem dX9_table_40 : decode cX9_table 40 = .ok (.lreturn, 1) := by decide +kernel
theorem dX9_table_41 : decode cX9_table 41 = .ok (.aload_n 0, 1) := by decide +kernel
theorem dX9_table_42 : decode cX9_table 42 = .ok (.iload_n 1, 1) := by decide +kernel
theorem dX9_table_43 : decode cX9_table 43 = .ok (.iload_n 2, 1) := by decide +kernel
theorem dX9_table_44 : decode cX9_table 44 = .ok (.iload 4, 2) := by decide +kernel
theorem dX9_table_46 : decode cX9_table 46 = .ok (.invokevirtual 560, 3) := by decide +kernel
theorem dX9_table_49 : decode cX9_table 49 = .ok (.aload_n 0, 1) := by decide +kernel
theorem dX9_table_50 : decode cX9_table 50 = .ok (.getfield 215, 3) := by decide +kernel
theorem dX9_table_53 : decode cX9_table 53 = .ok (.iload_n 3, 1) := by decide +kernel
theorem dX9_table_54 : decode cX9_table 54 = .ok (.laload, 1) := by decide +kernel
theorem dX9_table_55 : decode cX9_table 55 = .ok (.lreturn, 1) := by decide +kernel
theorem dX9_thousandths_0 : decode cX9_thousandths 0 = .ok (.ldc2_w 558, 3) := by decide +kernel
theorem dX9_thousandths_3 : decode cX9_thousandths 3 = .ok (.iload_n 0, 1) := by decide +kernel
theorem dX9_thousandths_4 : decode cX9_thousandths 4 = .ok (.i2l, 1) := by decide +kernel
theorem dX9_thousandths_5 : decode cX9_thousandths 5 = .ok (.lmul, 1) := by decide +kernel
theorem dX9_thousandths_6 : decode cX9_thousandths 6 = .ok (.ldc2_w 552, 3) := by decide +kernel
theorem dX9_thousandths_9 : decode cX9_thousandths 9 = .ok (.ldiv, 1) := by decide +kernel
theorem dX9_thousandths_10 : decode cX9_thousandths 10 = .ok (.lreturn, 1) := by decide +kernel
theorem dX9_least_0 : decode cX9_least 0 = .ok (.iconst 0, 1) := by decide +kernel
theorem dX9_least_1 : decode cX9_least 1 = .ok (.istore_n 2, 1) := by decide +kernel
theorem dX9_least_2 : decode cX9_least 2 = .ok (.iload_n 2, 1) := by decide +kernel
theorem dX9_least_3 : decode cX9_least 3 = .ok (.sipush 1000, 3) := by decide +kernel
theorem dX9_least_6 : decode cX9_least 6 = .ok (.if_icmp .gt 48, 3) := by decide +kernel
theorem dX9_least_9 : decode cX9_least 9 = .ok (.aload_n 0, 1) := by decide +kernel
theorem dX9_least_10 : decode cX9_least 10 = .ok (.aload_n 0, 1) := by decide +kernel
theorem dX9_least_11 : decode cX9_least 11 = .ok (.getfield 152, 3) := by decide +kernel
theorem dX9_least_14 : decode cX9_least 14 = .ok (.iload_n 1, 1) := by decide +kernel
theorem dX9_least_15 : decode cX9_least 15 = .ok (.baload, 1) := by decide +kernel
theorem dX9_least_16 : decode cX9_least 16 = .ok (.iload_n 2, 1) := by decide +kernel
theorem dX9_least_17 : decode cX9_least 17 = .ok (.aload_n 0, 1) := by decide +kernel
theorem dX9_least_18 : decode cX9_least 18 = .ok (.invokevirtual 520, 3) := by decide +kernel
theorem dX9_least_21 : decode cX9_least 21 = .ok (.invokevirtual 560, 3) := by decide +kernel
theorem dX9_least_24 : decode cX9_least 24 = .ok (.aload_n 0, 1) := by decide +kernel
theorem dX9_least_25 : decode cX9_least 25 = .ok (.aload_n 0, 1) := by decide +kernel
theorem dX9_least_26 : decode cX9_least 26 = .ok (.iload_n 1, 1) := by decide +kernel
theorem dX9_least_27 : decode cX9_least 27 = .ok (.invokevirtual 523, 3) := by decide +kernel
theorem dX9_least_30 : decode cX9_least 30 = .ok (.aload_n 0, 1) := by decide +kernel
theorem dX9_least_31 : decode cX9_least 31 = .ok (.invokevirtual 520, 3) := by decide +kernel
theorem dX9_least_34 : decode cX9_least 34 = .ok (.invokevirtual 564, 3) := by decide +kernel
theorem dX9_least_37 : decode cX9_least 37 = .ok (.bipush 25, 2) := by decide +kernel
theorem dX9_least_39 : decode cX9_least 39 = .ok (.invokestatic 567, 3) := by decide +kernel
theorem dX9_least_42 : decode cX9_least 42 = .ok (.lcmp, 1) := by decide +kernel
theorem dX9_least_43 : decode cX9_least 43 = .ok (.ifCond .lt 5, 3) := by decide +kernel
theorem dX9_least_46 : decode cX9_least 46 = .ok (.iload_n 2, 1) := by decide +kernel
theorem dX9_least_47 : decode cX9_least 47 = .ok (.ireturn, 1) := by decide +kernel
theorem dX9_least_48 : decode cX9_least 48 = .ok (.iinc 2 1, 3) := by decide +kernel
theorem dX9_least_51 : decode cX9_least 51 = .ok (.goto (-49), 3) := by decide +kernel
theorem dX9_least_54 : decode cX9_least 54 = .ok (.sipush 1000, 3) := by decide +kernel
theorem dX9_least_57 : decode cX9_least 57 = .ok (.ireturn, 1) := by decide +kernel
theorem dX9_most_0 : decode cX9_most 0 = .ok (.sipush 1000, 3) := by decide +kernel
theorem dX9_most_3 : decode cX9_most 3 = .ok (.istore_n 2, 1) := by decide +kernel
theorem dX9_most_4 : decode cX9_most 4 = .ok (.iload_n 2, 1) := by decide +kernel
theorem dX9_most_5 : decode cX9_most 5 = .ok (.ifCond .lt 45, 3) := by decide +kernel
theorem dX9_most_8 : decode cX9_most 8 = .ok (.aload_n 0, 1) := by decide +kernel
theorem dX9_most_9 : decode cX9_most 9 = .ok (.aload_n 0, 1) := by decide +kernel
theorem dX9_most_10 : decode cX9_most 10 = .ok (.getfield 152, 3) := by decide +kernel
theorem dX9_most_13 : decode cX9_most 13 = .ok (.iload_n 1, 1) := by decide +kernel
theorem dX9_most_14 : decode cX9_most 14 = .ok (.baload, 1) := by decide +kernel
theorem dX9_most_15 : decode cX9_most 15 = .ok (.iload_n 2, 1) := by decide +kernel
theorem dX9_most_16 : decode cX9_most 16 = .ok (.aload_n 0, 1) := by decide +kernel
theorem dX9_most_17 : decode cX9_most 17 = .ok (.invokevirtual 520, 3) := by decide +kernel
theorem dX9_most_20 : decode cX9_most 20 = .ok (.invokevirtual 560, 3) := by decide +kernel
theorem dX9_most_23 : decode cX9_most 23 = .ok (.aload_n 0, 1) := by decide +kernel
theorem dX9_most_24 : decode cX9_most 24 = .ok (.iconst 0, 1) := by decide +kernel
theorem dX9_most_25 : decode cX9_most 25 = .ok (.aload_n 0, 1) := by decide +kernel
theorem dX9_most_26 : decode cX9_most 26 = .ok (.iload_n 1, 1) := by decide +kernel
theorem dX9_most_27 : decode cX9_most 27 = .ok (.invokevirtual 523, 3) := by decide +kernel
theorem dX9_most_30 : decode cX9_most 30 = .ok (.invokevirtual 564, 3) := by decide +kernel
theorem dX9_most_33 : decode cX9_most 33 = .ok (.bipush 25, 2) := by decide +kernel
theorem dX9_most_35 : decode cX9_most 35 = .ok (.invokestatic 567, 3) := by decide +kernel
theorem dX9_most_38 : decode cX9_most 38 = .ok (.lcmp, 1) := by decide +kernel
theorem dX9_most_39 : decode cX9_most 39 = .ok (.ifCond .lt 5, 3) := by decide +kernel
theorem dX9_most_42 : decode cX9_most 42 = .ok (.iload_n 2, 1) := by decide +kernel
theorem dX9_most_43 : decode cX9_most 43 = .ok (.ireturn, 1) := by decide +kernel
theorem dX9_most_44 : decode cX9_most 44 = .ok (.iinc 2 (-1), 3) := by decide +kernel
theorem dX9_most_47 : decode cX9_most 47 = .ok (.goto (-43), 3) := by decide +kernel
theorem dX9_most_50 : decode cX9_most 50 = .ok (.iconst 0, 1) := by decide +kernel
theorem dX9_most_51 : decode cX9_most 51 = .ok (.ireturn, 1) := by decide +kernel
theorem dX9_needed_0 : decode cX9_needed 0 = .ok (.iload_n 2, 1) := by decide +kernel
theorem dX9_needed_1 : decode cX9_needed 1 = .ok (.i2l, 1) := by decide +kernel
theorem dX9_needed_2 : decode cX9_needed 2 = .ok (.lconst 0, 1) := by decide +kernel
theorem dX9_needed_3 : decode cX9_needed 3 = .ok (.ldc2_w 552, 3) := by decide +kernel
theorem dX9_needed_6 : decode cX9_needed 6 = .ok (.invokestatic 285, 3) := by decide +kernel
theorem dX9_needed_9 : decode cX9_needed 9 = .ok (.ifCond .eq 28, 3) := by decide +kernel
theorem dX9_needed_12 : decode cX9_needed 12 = .ok (.iload_n 3, 1) := by decide +kernel
theorem dX9_needed_13 : decode cX9_needed 13 = .ok (.i2l, 1) := by decide +kernel
theorem dX9_needed_14 : decode cX9_needed 14 = .ok (.lconst 0, 1) := by decide +kernel
theorem dX9_needed_15 : decode cX9_needed 15 = .ok (.ldc2_w 552, 3) := by decide +kernel
theorem dX9_needed_18 : decode cX9_needed 18 = .ok (.invokestatic 285, 3) := by decide +kernel
theorem dX9_needed_21 : decode cX9_needed 21 = .ok (.ifCond .eq 16, 3) := by decide +kernel
theorem dX9_needed_24 : decode cX9_needed 24 = .ok (.iload 4, 2) := by decide +kernel
theorem dX9_needed_26 : decode cX9_needed 26 = .ok (.i2l, 1) := by decide +kernel
theorem dX9_needed_27 : decode cX9_needed 27 = .ok (.lconst 0, 1) := by decide +kernel
theorem dX9_needed_28 : decode cX9_needed 28 = .ok (.ldc2_w 552, 3) := by decide +kernel
theorem dX9_needed_31 : decode cX9_needed 31 = .ok (.invokestatic 285, 3) := by decide +kernel
theorem dX9_needed_34 : decode cX9_needed 34 = .ok (.ifCond .ne 5, 3) := by decide +kernel
theorem dX9_needed_37 : decode cX9_needed 37 = .ok (.iconst (-1), 1) := by decide +kernel
theorem dX9_needed_38 : decode cX9_needed 38 = .ok (.ireturn, 1) := by decide +kernel
theorem dX9_needed_39 : decode cX9_needed 39 = .ok (.iconst 1, 1) := by decide +kernel
theorem dX9_needed_40 : decode cX9_needed 40 = .ok (.istore 5, 2) := by decide +kernel
theorem dX9_needed_42 : decode cX9_needed 42 = .ok (.iload 5, 2) := by decide +kernel
theorem dX9_needed_44 : decode cX9_needed 44 = .ok (.bipush 30, 2) := by decide +kernel
theorem dX9_needed_46 : decode cX9_needed 46 = .ok (.if_icmp .gt 73, 3) := by decide +kernel
theorem dX9_needed_49 : decode cX9_needed 49 = .ok (.aload_n 0, 1) := by decide +kernel
theorem dX9_needed_50 : decode cX9_needed 50 = .ok (.iload_n 1, 1) := by decide +kernel
theorem dX9_needed_51 : decode cX9_needed 51 = .ok (.iload_n 2, 1) := by decide +kernel
theorem dX9_needed_52 : decode cX9_needed 52 = .ok (.iload 5, 2) := by decide +kernel
theorem dX9_needed_54 : decode cX9_needed 54 = .ok (.invokevirtual 560, 3) := by decide +kernel
theorem dX9_needed_57 : decode cX9_needed 57 = .ok (.iconst 0, 1) := by decide +kernel
theorem dX9_needed_58 : decode cX9_needed 58 = .ok (.istore 6, 2) := by decide +kernel
theorem dX9_needed_60 : decode cX9_needed 60 = .ok (.iload 6, 2) := by decide +kernel
theorem dX9_needed_62 : decode cX9_needed 62 = .ok (.iload 5, 2) := by decide +kernel
theorem dX9_needed_64 : decode cX9_needed 64 = .ok (.if_icmp .gt 49, 3) := by decide +kernel
theorem dX9_needed_67 : decode cX9_needed 67 = .ok (.iload_n 1, 1) := by decide +kernel
theorem dX9_needed_68 : decode cX9_needed 68 = .ok (.iload 6, 2) := by decide +kernel
theorem dX9_needed_70 : decode cX9_needed 70 = .ok (.iload 5, 2) := by decide +kernel
theorem dX9_needed_72 : decode cX9_needed 72 = .ok (.iload_n 3, 1) := by decide +kernel
theorem dX9_needed_73 : decode cX9_needed 73 = .ok (.i2l, 1) := by decide +kernel
theorem dX9_needed_74 : decode cX9_needed 74 = .ok (.ldc2_w 552, 3) := by decide +kernel
theorem dX9_needed_77 : decode cX9_needed 77 = .ok (.invokestatic 526, 3) := by decide +kernel
theorem dX9_needed_80 : decode cX9_needed 80 = .ok (.ifCond .eq 27, 3) := by decide +kernel
theorem dX9_needed_83 : decode cX9_needed 83 = .ok (.aload_n 0, 1) := by decide +kernel
theorem dX9_needed_84 : decode cX9_needed 84 = .ok (.iload 6, 2) := by decide +kernel
theorem dX9_needed_86 : decode cX9_needed 86 = .ok (.iload 5, 2) := by decide +kernel
theorem dX9_needed_88 : decode cX9_needed 88 = .ok (.invokevirtual 564, 3) := by decide +kernel
theorem dX9_needed_91 : decode cX9_needed 91 = .ok (.sipush 1000, 3) := by decide +kernel
theorem dX9_needed_94 : decode cX9_needed 94 = .ok (.iload 4, 2) := by decide +kernel
theorem dX9_needed_96 : decode cX9_needed 96 = .ok (.isub, 1) := by decide +kernel
theorem dX9_needed_97 : decode cX9_needed 97 = .ok (.invokestatic 567, 3) := by decide +kernel
theorem dX9_needed_100 : decode cX9_needed 100 = .ok (.lcmp, 1) := by decide +kernel
theorem dX9_needed_101 : decode cX9_needed 101 = .ok (.ifCond .lt 6, 3) := by decide +kernel
theorem dX9_needed_104 : decode cX9_needed 104 = .ok (.iload 5, 2) := by decide +kernel
theorem dX9_needed_106 : decode cX9_needed 106 = .ok (.ireturn, 1) := by decide +kernel
theorem dX9_needed_107 : decode cX9_needed 107 = .ok (.iinc 6 1, 3) := by decide +kernel
theorem dX9_needed_110 : decode cX9_needed 110 = .ok (.goto (-50), 3) := by decide +kernel
theorem dX9_needed_113 : decode cX9_needed 113 = .ok (.iinc 5 1, 3) := by decide +kernel
theorem dX9_needed_116 : decode cX9_needed 116 = .ok (.goto (-74), 3) := by decide +kernel
theorem dX9_needed_119 : decode cX9_needed 119 = .ok (.iconst (-1), 1) := by decide +kernel
theorem dX9_needed_120 : decode cX9_needed 120 = .ok (.ireturn, 1) := by decide +kernel
theorem dX9_millionths_0 : decode cX9_millionths 0 = .ok (.aload_n 0, 1) := by decide +kernel
theorem dX9_millionths_1 : decode cX9_millionths 1 = .ok (.getfield 152, 3) := by decide +kernel
theorem dX9_millionths_4 : decode cX9_millionths 4 = .ok (.iload_n 1, 1) := by decide +kernel
theorem dX9_millionths_5 : decode cX9_millionths 5 = .ok (.baload, 1) := by decide +kernel
theorem dX9_millionths_6 : decode cX9_millionths 6 = .ok (.ifCond .eq 9, 3) := by decide +kernel
theorem dX9_millionths_9 : decode cX9_millionths 9 = .ok (.ldc2_w 548, 3) := by decide +kernel
theorem dX9_millionths_12 : decode cX9_millionths 12 = .ok (.goto 6, 3) := by decide +kernel
theorem dX9_millionths_15 : decode cX9_millionths 15 = .ok (.ldc2_w 538, 3) := by decide +kernel
theorem dX9_millionths_18 : decode cX9_millionths 18 = .ok (.aload_n 0, 1) := by decide +kernel
theorem dX9_millionths_19 : decode cX9_millionths 19 = .ok (.invokevirtual 520, 3) := by decide +kernel
theorem dX9_millionths_22 : decode cX9_millionths 22 = .ok (.invokestatic 540, 3) := by decide +kernel
theorem dX9_millionths_25 : decode cX9_millionths 25 = .ok (.lstore_n 2, 1) := by decide +kernel
theorem dX9_millionths_26 : decode cX9_millionths 26 = .ok (.aload_n 0, 1) := by decide +kernel
theorem dX9_millionths_27 : decode cX9_millionths 27 = .ok (.getfield 152, 3) := by decide +kernel
theorem dX9_millionths_30 : decode cX9_millionths 30 = .ok (.iload_n 1, 1) := by decide +kernel
theorem dX9_millionths_31 : decode cX9_millionths 31 = .ok (.baload, 1) := by decide +kernel
theorem dX9_millionths_32 : decode cX9_millionths 32 = .ok (.aload_n 0, 1) := by decide +kernel
theorem dX9_millionths_33 : decode cX9_millionths 33 = .ok (.iload_n 1, 1) := by decide +kernel
theorem dX9_millionths_34 : decode cX9_millionths 34 = .ok (.invokevirtual 523, 3) := by decide +kernel
theorem dX9_millionths_37 : decode cX9_millionths 37 = .ok (.aload_n 0, 1) := by decide +kernel
theorem dX9_millionths_38 : decode cX9_millionths 38 = .ok (.invokevirtual 520, 3) := by decide +kernel
theorem dX9_millionths_41 : decode cX9_millionths 41 = .ok (.invokestatic 544, 3) := by decide +kernel
theorem dX9_millionths_44 : decode cX9_millionths 44 = .ok (.lstore 4, 2) := by decide +kernel
theorem dX9_millionths_46 : decode cX9_millionths 46 = .ok (.lload 4, 2) := by decide +kernel
theorem dX9_millionths_48 : decode cX9_millionths 48 = .ok (.lload_n 2, 1) := by decide +kernel
theorem dX9_millionths_49 : decode cX9_millionths 49 = .ok (.ldiv, 1) := by decide +kernel
theorem dX9_millionths_50 : decode cX9_millionths 50 = .ok (.lstore 6, 2) := by decide +kernel
theorem dX9_millionths_52 : decode cX9_millionths 52 = .ok (.lload 4, 2) := by decide +kernel
theorem dX9_millionths_54 : decode cX9_millionths 54 = .ok (.lload_n 2, 1) := by decide +kernel
theorem dX9_millionths_55 : decode cX9_millionths 55 = .ok (.lrem, 1) := by decide +kernel
theorem dX9_millionths_56 : decode cX9_millionths 56 = .ok (.lstore 4, 2) := by decide +kernel
theorem dX9_millionths_58 : decode cX9_millionths 58 = .ok (.iconst 0, 1) := by decide +kernel
theorem dX9_millionths_59 : decode cX9_millionths 59 = .ok (.istore 8, 2) := by decide +kernel
theorem dX9_millionths_61 : decode cX9_millionths 61 = .ok (.iload 8, 2) := by decide +kernel
theorem dX9_millionths_63 : decode cX9_millionths 63 = .ok (.bipush 6, 2) := by decide +kernel
theorem dX9_millionths_65 : decode cX9_millionths 65 = .ok (.if_icmp .ge 36, 3) := by decide +kernel
theorem dX9_millionths_68 : decode cX9_millionths 68 = .ok (.lload 4, 2) := by decide +kernel
theorem dX9_millionths_70 : decode cX9_millionths 70 = .ok (.ldc2_w 571, 3) := by decide +kernel
theorem dX9_millionths_73 : decode cX9_millionths 73 = .ok (.lmul, 1) := by decide +kernel
theorem dX9_millionths_74 : decode cX9_millionths 74 = .ok (.lstore 4, 2) := by decide +kernel
theorem dX9_millionths_76 : decode cX9_millionths 76 = .ok (.ldc2_w 571, 3) := by decide +kernel
theorem dX9_millionths_79 : decode cX9_millionths 79 = .ok (.lload 6, 2) := by decide +kernel
theorem dX9_millionths_81 : decode cX9_millionths 81 = .ok (.lmul, 1) := by decide +kernel
theorem dX9_millionths_82 : decode cX9_millionths 82 = .ok (.lload 4, 2) := by decide +kernel
theorem dX9_millionths_84 : decode cX9_millionths 84 = .ok (.lload_n 2, 1) := by decide +kernel
theorem dX9_millionths_85 : decode cX9_millionths 85 = .ok (.ldiv, 1) := by decide +kernel
theorem dX9_millionths_86 : decode cX9_millionths 86 = .ok (.ladd, 1) := by decide +kernel
theorem dX9_millionths_87 : decode cX9_millionths 87 = .ok (.lstore 6, 2) := by decide +kernel
theorem dX9_millionths_89 : decode cX9_millionths 89 = .ok (.lload 4, 2) := by decide +kernel
theorem dX9_millionths_91 : decode cX9_millionths 91 = .ok (.lload_n 2, 1) := by decide +kernel
theorem dX9_millionths_92 : decode cX9_millionths 92 = .ok (.lrem, 1) := by decide +kernel
theorem dX9_millionths_93 : decode cX9_millionths 93 = .ok (.lstore 4, 2) := by decide +kernel
theorem dX9_millionths_95 : decode cX9_millionths 95 = .ok (.iinc 8 1, 3) := by decide +kernel
theorem dX9_millionths_98 : decode cX9_millionths 98 = .ok (.goto (-37), 3) := by decide +kernel
theorem dX9_millionths_101 : decode cX9_millionths 101 = .ok (.lload 4, 2) := by decide +kernel
theorem dX9_millionths_103 : decode cX9_millionths 103 = .ok (.lconst 0, 1) := by decide +kernel
theorem dX9_millionths_104 : decode cX9_millionths 104 = .ok (.lcmp, 1) := by decide +kernel
theorem dX9_millionths_105 : decode cX9_millionths 105 = .ok (.ifCond .le 10, 3) := by decide +kernel
theorem dX9_millionths_108 : decode cX9_millionths 108 = .ok (.lload 6, 2) := by decide +kernel
theorem dX9_millionths_110 : decode cX9_millionths 110 = .ok (.lconst 1, 1) := by decide +kernel
theorem dX9_millionths_111 : decode cX9_millionths 111 = .ok (.ladd, 1) := by decide +kernel
theorem dX9_millionths_112 : decode cX9_millionths 112 = .ok (.goto 5, 3) := by decide +kernel
theorem dX9_millionths_115 : decode cX9_millionths 115 = .ok (.lload 6, 2) := by decide +kernel
theorem dX9_millionths_117 : decode cX9_millionths 117 = .ok (.l2i, 1) := by decide +kernel
theorem dX9_millionths_118 : decode cX9_millionths 118 = .ok (.ireturn, 1) := by decide +kernel
theorem dX9_told_0 : decode cX9_told 0 = .ok (.aload_n 0, 1) := by decide +kernel
theorem dX9_told_1 : decode cX9_told 1 = .ok (.iload_n 1, 1) := by decide +kernel
theorem dX9_told_2 : decode cX9_told 2 = .ok (.iconst 1, 1) := by decide +kernel
theorem dX9_told_3 : decode cX9_told 3 = .ok (.invokevirtual 530, 3) := by decide +kernel
theorem dX9_told_6 : decode cX9_told 6 = .ok (.iload_n 2, 1) := by decide +kernel
theorem dX9_told_7 : decode cX9_told 7 = .ok (.tableswitch 107 0 9 #[53, 58, 63, 68, 73, 79, 84, 89, 95, 101], 53) := by decide +kernel
theorem dX9_told_60 : decode cX9_told 60 = .ok (.aload_n 0, 1) := by decide +kernel
theorem dX9_told_61 : decode cX9_told 61 = .ok (.getfield 502, 3) := by decide +kernel
theorem dX9_told_64 : decode cX9_told 64 = .ok (.ireturn, 1) := by decide +kernel
theorem dX9_told_65 : decode cX9_told 65 = .ok (.aload_n 0, 1) := by decide +kernel
theorem dX9_told_66 : decode cX9_told 66 = .ok (.getfield 505, 3) := by decide +kernel
theorem dX9_told_69 : decode cX9_told 69 = .ok (.ireturn, 1) := by decide +kernel
theorem dX9_told_70 : decode cX9_told 70 = .ok (.aload_n 0, 1) := by decide +kernel
theorem dX9_told_71 : decode cX9_told 71 = .ok (.getfield 508, 3) := by decide +kernel
theorem dX9_told_74 : decode cX9_told 74 = .ok (.ireturn, 1) := by decide +kernel
theorem dX9_told_75 : decode cX9_told 75 = .ok (.aload_n 0, 1) := by decide +kernel
theorem dX9_told_76 : decode cX9_told 76 = .ok (.invokevirtual 520, 3) := by decide +kernel
theorem dX9_told_79 : decode cX9_told 79 = .ok (.ireturn, 1) := by decide +kernel
theorem dX9_told_80 : decode cX9_told 80 = .ok (.aload_n 0, 1) := by decide +kernel
theorem dX9_told_81 : decode cX9_told 81 = .ok (.iload_n 1, 1) := by decide +kernel
theorem dX9_told_82 : decode cX9_told 82 = .ok (.invokevirtual 523, 3) := by decide +kernel
theorem dX9_told_85 : decode cX9_told 85 = .ok (.ireturn, 1) := by decide +kernel
theorem dX9_told_86 : decode cX9_told 86 = .ok (.aload_n 0, 1) := by decide +kernel
theorem dX9_told_87 : decode cX9_told 87 = .ok (.getfield 511, 3) := by decide +kernel
theorem dX9_told_90 : decode cX9_told 90 = .ok (.ireturn, 1) := by decide +kernel
theorem dX9_told_91 : decode cX9_told 91 = .ok (.aload_n 0, 1) := by decide +kernel
theorem dX9_told_92 : decode cX9_told 92 = .ok (.getfield 514, 3) := by decide +kernel
theorem dX9_told_95 : decode cX9_told 95 = .ok (.ireturn, 1) := by decide +kernel
theorem dX9_told_96 : decode cX9_told 96 = .ok (.aload_n 0, 1) := by decide +kernel
theorem dX9_told_97 : decode cX9_told 97 = .ok (.iload_n 1, 1) := by decide +kernel
theorem dX9_told_98 : decode cX9_told 98 = .ok (.invokevirtual 573, 3) := by decide +kernel
theorem dX9_told_101 : decode cX9_told 101 = .ok (.ireturn, 1) := by decide +kernel
theorem dX9_told_102 : decode cX9_told 102 = .ok (.aload_n 0, 1) := by decide +kernel
theorem dX9_told_103 : decode cX9_told 103 = .ok (.iload_n 1, 1) := by decide +kernel
theorem dX9_told_104 : decode cX9_told 104 = .ok (.invokevirtual 576, 3) := by decide +kernel
theorem dX9_told_107 : decode cX9_told 107 = .ok (.ireturn, 1) := by decide +kernel
theorem dX9_told_108 : decode cX9_told 108 = .ok (.aload_n 0, 1) := by decide +kernel
theorem dX9_told_109 : decode cX9_told 109 = .ok (.iload_n 1, 1) := by decide +kernel
theorem dX9_told_110 : decode cX9_told 110 = .ok (.invokevirtual 579, 3) := by decide +kernel
theorem dX9_told_113 : decode cX9_told 113 = .ok (.ireturn, 1) := by decide +kernel
theorem dX9_told_114 : decode cX9_told 114 = .ok (.iconst (-1), 1) := by decide +kernel
theorem dX9_told_115 : decode cX9_told 115 = .ok (.ireturn, 1) := by decide +kernel
theorem dX9_trial_0 : decode cX9_trial 0 = .ok (.aload_n 0, 1) := by decide +kernel
theorem dX9_trial_1 : decode cX9_trial 1 = .ok (.iload_n 1, 1) := by decide +kernel
theorem dX9_trial_2 : decode cX9_trial 2 = .ok (.invokevirtual 470, 3) := by decide +kernel
theorem dX9_trial_5 : decode cX9_trial 5 = .ok (.ifCond .eq 19, 3) := by decide +kernel
theorem dX9_trial_8 : decode cX9_trial 8 = .ok (.aload_n 0, 1) := by decide +kernel
theorem dX9_trial_9 : decode cX9_trial 9 = .ok (.getfield 448, 3) := by decide +kernel
theorem dX9_trial_12 : decode cX9_trial 12 = .ok (.ifCond .eq 12, 3) := by decide +kernel
theorem dX9_trial_15 : decode cX9_trial 15 = .ok (.aload_n 0, 1) := by decide +kernel
theorem dX9_trial_16 : decode cX9_trial 16 = .ok (.iload_n 1, 1) := by decide +kernel
theorem dX9_trial_17 : decode cX9_trial 17 = .ok (.iload_n 2, 1) := by decide +kernel
theorem dX9_trial_18 : decode cX9_trial 18 = .ok (.invokevirtual 582, 3) := by decide +kernel
theorem dX9_trial_21 : decode cX9_trial 21 = .ok (.goto 4, 3) := by decide +kernel
theorem dX9_trial_24 : decode cX9_trial 24 = .ok (.iconst (-1), 1) := by decide +kernel
theorem dX9_trial_25 : decode cX9_trial 25 = .ok (.ireturn, 1) := by decide +kernel
theorem dX9_chance_0 : decode cX9_chance 0 = .ok (.aload_n 0, 1) := by decide +kernel
theorem dX9_chance_1 : decode cX9_chance 1 = .ok (.iload_n 1, 1) := by decide +kernel
theorem dX9_chance_2 : decode cX9_chance 2 = .ok (.invokevirtual 470, 3) := by decide +kernel
theorem dX9_chance_5 : decode cX9_chance 5 = .ok (.ifCond .eq 10, 3) := by decide +kernel
theorem dX9_chance_8 : decode cX9_chance 8 = .ok (.aload_n 0, 1) := by decide +kernel
theorem dX9_chance_9 : decode cX9_chance 9 = .ok (.getfield 448, 3) := by decide +kernel
theorem dX9_chance_12 : decode cX9_chance 12 = .ok (.ifCond .ne 7, 3) := by decide +kernel
theorem dX9_chance_15 : decode cX9_chance 15 = .ok (.ldc2_w 487, 3) := by decide +kernel
theorem dX9_chance_18 : decode cX9_chance 18 = .ok (.lreturn, 1) := by decide +kernel
theorem dX9_chance_19 : decode cX9_chance 19 = .ok (.aload_n 0, 1) := by decide +kernel
theorem dX9_chance_20 : decode cX9_chance 20 = .ok (.iload_n 1, 1) := by decide +kernel
theorem dX9_chance_21 : decode cX9_chance 21 = .ok (.iconst 1, 1) := by decide +kernel
theorem dX9_chance_22 : decode cX9_chance 22 = .ok (.invokevirtual 530, 3) := by decide +kernel
theorem dX9_chance_25 : decode cX9_chance 25 = .ok (.iload_n 2, 1) := by decide +kernel
theorem dX9_chance_26 : decode cX9_chance 26 = .ok (.ifCond .eq 24, 3) := by decide +kernel
theorem dX9_chance_29 : decode cX9_chance 29 = .ok (.aload_n 0, 1) := by decide +kernel
theorem dX9_chance_30 : decode cX9_chance 30 = .ok (.getfield 152, 3) := by decide +kernel
theorem dX9_chance_33 : decode cX9_chance 33 = .ok (.iload_n 1, 1) := by decide +kernel
theorem dX9_chance_34 : decode cX9_chance 34 = .ok (.baload, 1) := by decide +kernel
theorem dX9_chance_35 : decode cX9_chance 35 = .ok (.aload_n 0, 1) := by decide +kernel
theorem dX9_chance_36 : decode cX9_chance 36 = .ok (.iload_n 1, 1) := by decide +kernel
theorem dX9_chance_37 : decode cX9_chance 37 = .ok (.invokevirtual 523, 3) := by decide +kernel
theorem dX9_chance_40 : decode cX9_chance 40 = .ok (.aload_n 0, 1) := by decide +kernel
theorem dX9_chance_41 : decode cX9_chance 41 = .ok (.invokevirtual 520, 3) := by decide +kernel
theorem dX9_chance_44 : decode cX9_chance 44 = .ok (.invokestatic 544, 3) := by decide +kernel
theorem dX9_chance_47 : decode cX9_chance 47 = .ok (.goto 28, 3) := by decide +kernel
theorem dX9_chance_50 : decode cX9_chance 50 = .ok (.aload_n 0, 1) := by decide +kernel
theorem dX9_chance_51 : decode cX9_chance 51 = .ok (.getfield 152, 3) := by decide +kernel
theorem dX9_chance_54 : decode cX9_chance 54 = .ok (.iload_n 1, 1) := by decide +kernel
theorem dX9_chance_55 : decode cX9_chance 55 = .ok (.baload, 1) := by decide +kernel
theorem dX9_chance_56 : decode cX9_chance 56 = .ok (.ifCond .eq 9, 3) := by decide +kernel
theorem dX9_chance_59 : decode cX9_chance 59 = .ok (.ldc2_w 548, 3) := by decide +kernel
theorem dX9_chance_62 : decode cX9_chance 62 = .ok (.goto 6, 3) := by decide +kernel
theorem dX9_chance_65 : decode cX9_chance 65 = .ok (.ldc2_w 538, 3) := by decide +kernel
theorem dX9_chance_68 : decode cX9_chance 68 = .ok (.aload_n 0, 1) := by decide +kernel
theorem dX9_chance_69 : decode cX9_chance 69 = .ok (.invokevirtual 520, 3) := by decide +kernel
theorem dX9_chance_72 : decode cX9_chance 72 = .ok (.invokestatic 540, 3) := by decide +kernel
theorem dX9_chance_75 : decode cX9_chance 75 = .ok (.lreturn, 1) := by decide +kernel
theorem dX9_gathers_0 : decode cX9_gathers 0 = .ok (.iconst 0, 1) := by decide +kernel
theorem dX9_gathers_1 : decode cX9_gathers 1 = .ok (.istore_n 1, 1) := by decide +kernel
theorem dX9_gathers_2 : decode cX9_gathers 2 = .ok (.iload_n 1, 1) := by decide +kernel
theorem dX9_gathers_3 : decode cX9_gathers 3 = .ok (.sipush 1800, 3) := by decide +kernel
theorem dX9_gathers_6 : decode cX9_gathers 6 = .ok (.if_icmp .ge 16, 3) := by decide +kernel
theorem dX9_gathers_9 : decode cX9_gathers 9 = .ok (.aload_n 0, 1) := by decide +kernel
theorem dX9_gathers_10 : decode cX9_gathers 10 = .ok (.getfield 218, 3) := by decide +kernel
theorem dX9_gathers_13 : decode cX9_gathers 13 = .ok (.iload_n 1, 1) := by decide +kernel
theorem dX9_gathers_14 : decode cX9_gathers 14 = .ok (.iconst 0, 1) := by decide +kernel
theorem dX9_gathers_15 : decode cX9_gathers 15 = .ok (.iastore, 1) := by decide +kernel
theorem dX9_gathers_16 : decode cX9_gathers 16 = .ok (.iinc 1 1, 3) := by decide +kernel
theorem dX9_gathers_19 : decode cX9_gathers 19 = .ok (.goto (-17), 3) := by decide +kernel
theorem dX9_gathers_22 : decode cX9_gathers 22 = .ok (.aload_n 0, 1) := by decide +kernel
theorem dX9_gathers_23 : decode cX9_gathers 23 = .ok (.getfield 445, 3) := by decide +kernel
theorem dX9_gathers_26 : decode cX9_gathers 26 = .ok (.istore_n 1, 1) := by decide +kernel
theorem dX9_gathers_27 : decode cX9_gathers 27 = .ok (.iload_n 1, 1) := by decide +kernel
theorem dX9_gathers_28 : decode cX9_gathers 28 = .ok (.ifCond .le 59, 3) := by decide +kernel
theorem dX9_gathers_31 : decode cX9_gathers 31 = .ok (.aload_n 0, 1) := by decide +kernel
theorem dX9_gathers_32 : decode cX9_gathers 32 = .ok (.getfield 188, 3) := by decide +kernel
theorem dX9_gathers_35 : decode cX9_gathers 35 = .ok (.iload_n 1, 1) := by decide +kernel
theorem dX9_gathers_36 : decode cX9_gathers 36 = .ok (.iaload, 1) := by decide +kernel
theorem dX9_gathers_37 : decode cX9_gathers 37 = .ok (.iconst 2, 1) := by decide +kernel
theorem dX9_gathers_38 : decode cX9_gathers 38 = .ok (.if_icmp .ne 43, 3) := by decide +kernel
theorem dX9_gathers_41 : decode cX9_gathers 41 = .ok (.aload_n 0, 1) := by decide +kernel
theorem dX9_gathers_42 : decode cX9_gathers 42 = .ok (.iload_n 1, 1) := by decide +kernel
theorem dX9_gathers_43 : decode cX9_gathers 43 = .ok (.invokevirtual 496, 3) := by decide +kernel
theorem dX9_gathers_46 : decode cX9_gathers 46 = .ok (.ifCond .eq 35, 3) := by decide +kernel
theorem dX9_gathers_49 : decode cX9_gathers 49 = .ok (.aload_n 0, 1) := by decide +kernel
theorem dX9_gathers_50 : decode cX9_gathers 50 = .ok (.getfield 218, 3) := by decide +kernel
theorem dX9_gathers_53 : decode cX9_gathers 53 = .ok (.bipush 60, 2) := by decide +kernel
theorem dX9_gathers_55 : decode cX9_gathers 55 = .ok (.aload_n 0, 1) := by decide +kernel
theorem dX9_gathers_56 : decode cX9_gathers 56 = .ok (.getfield 194, 3) := by decide +kernel
theorem dX9_gathers_59 : decode cX9_gathers 59 = .ok (.iload_n 1, 1) := by decide +kernel
theorem dX9_gathers_60 : decode cX9_gathers 60 = .ok (.iaload, 1) := by decide +kernel
theorem dX9_gathers_61 : decode cX9_gathers 61 = .ok (.imul, 1) := by decide +kernel
theorem dX9_gathers_62 : decode cX9_gathers 62 = .ok (.bipush 6, 2) := by decide +kernel
theorem dX9_gathers_64 : decode cX9_gathers 64 = .ok (.aload_n 0, 1) := by decide +kernel
theorem dX9_gathers_65 : decode cX9_gathers 65 = .ok (.getfield 191, 3) := by decide +kernel
theorem dX9_gathers_68 : decode cX9_gathers 68 = .ok (.iload_n 1, 1) := by decide +kernel
theorem dX9_gathers_69 : decode cX9_gathers 69 = .ok (.iaload, 1) := by decide +kernel
theorem dX9_gathers_70 : decode cX9_gathers 70 = .ok (.imul, 1) := by decide +kernel
theorem dX9_gathers_71 : decode cX9_gathers 71 = .ok (.iadd, 1) := by decide +kernel
theorem dX9_gathers_72 : decode cX9_gathers 72 = .ok (.aload_n 0, 1) := by decide +kernel
theorem dX9_gathers_73 : decode cX9_gathers 73 = .ok (.getfield 200, 3) := by decide +kernel
theorem dX9_gathers_76 : decode cX9_gathers 76 = .ok (.iload_n 1, 1) := by decide +kernel
theorem dX9_gathers_77 : decode cX9_gathers 77 = .ok (.iaload, 1) := by decide +kernel
theorem dX9_gathers_78 : decode cX9_gathers 78 = .ok (.iadd, 1) := by decide +kernel
theorem dX9_gathers_79 : decode cX9_gathers 79 = .ok (.iload_n 1, 1) := by decide +kernel
theorem dX9_gathers_80 : decode cX9_gathers 80 = .ok (.iastore, 1) := by decide +kernel
theorem dX9_gathers_81 : decode cX9_gathers 81 = .ok (.iinc 1 (-1), 3) := by decide +kernel
theorem dX9_gathers_84 : decode cX9_gathers 84 = .ok (.goto (-57), 3) := by decide +kernel
theorem dX9_gathers_87 : decode cX9_gathers 87 = .ok (.iconst 0, 1) := by decide +kernel
theorem dX9_gathers_88 : decode cX9_gathers 88 = .ok (.istore_n 1, 1) := by decide +kernel
theorem dX9_gathers_89 : decode cX9_gathers 89 = .ok (.iload_n 1, 1) := by decide +kernel
theorem dX9_gathers_90 : decode cX9_gathers 90 = .ok (.bipush 30, 2) := by decide +kernel
theorem dX9_gathers_92 : decode cX9_gathers 92 = .ok (.if_icmp .ge 105, 3) := by decide +kernel
theorem dX9_gathers_95 : decode cX9_gathers 95 = .ok (.aload_n 0, 1) := by decide +kernel
theorem dX9_gathers_96 : decode cX9_gathers 96 = .ok (.getfield 221, 3) := by decide +kernel
theorem dX9_gathers_99 : decode cX9_gathers 99 = .ok (.iload_n 1, 1) := by decide +kernel
theorem dX9_gathers_100 : decode cX9_gathers 100 = .ok (.sipush 1000, 3) := by decide +kernel
theorem dX9_gathers_103 : decode cX9_gathers 103 = .ok (.iastore, 1) := by decide +kernel
theorem dX9_gathers_104 : decode cX9_gathers 104 = .ok (.aload_n 0, 1) := by decide +kernel
theorem dX9_gathers_105 : decode cX9_gathers 105 = .ok (.getfield 224, 3) := by decide +kernel
theorem dX9_gathers_108 : decode cX9_gathers 108 = .ok (.iload_n 1, 1) := by decide +kernel
theorem dX9_gathers_109 : decode cX9_gathers 109 = .ok (.iconst (-1), 1) := by decide +kernel
theorem dX9_gathers_110 : decode cX9_gathers 110 = .ok (.iastore, 1) := by decide +kernel
theorem dX9_gathers_111 : decode cX9_gathers 111 = .ok (.bipush 60, 2) := by decide +kernel
theorem dX9_gathers_113 : decode cX9_gathers 113 = .ok (.iload_n 1, 1) := by decide +kernel
theorem dX9_gathers_114 : decode cX9_gathers 114 = .ok (.imul, 1) := by decide +kernel
theorem dX9_gathers_115 : decode cX9_gathers 115 = .ok (.istore_n 2, 1) := by decide +kernel
theorem dX9_gathers_116 : decode cX9_gathers 116 = .ok (.iload_n 2, 1) := by decide +kernel
theorem dX9_gathers_117 : decode cX9_gathers 117 = .ok (.bipush 60, 2) := by decide +kernel
theorem dX9_gathers_119 : decode cX9_gathers 119 = .ok (.iload_n 1, 1) := by decide +kernel
theorem dX9_gathers_120 : decode cX9_gathers 120 = .ok (.imul, 1) := by decide +kernel
theorem dX9_gathers_121 : decode cX9_gathers 121 = .ok (.bipush 60, 2) := by decide +kernel
theorem dX9_gathers_123 : decode cX9_gathers 123 = .ok (.iadd, 1) := by decide +kernel
theorem dX9_gathers_124 : decode cX9_gathers 124 = .ok (.if_icmp .ge 67, 3) := by decide +kernel
theorem dX9_gathers_127 : decode cX9_gathers 127 = .ok (.aload_n 0, 1) := by decide +kernel
theorem dX9_gathers_128 : decode cX9_gathers 128 = .ok (.getfield 218, 3) := by decide +kernel
theorem dX9_gathers_131 : decode cX9_gathers 131 = .ok (.iload_n 2, 1) := by decide +kernel
theorem dX9_gathers_132 : decode cX9_gathers 132 = .ok (.iaload, 1) := by decide +kernel
theorem dX9_gathers_133 : decode cX9_gathers 133 = .ok (.ifCond .ne 6, 3) := by decide +kernel
theorem dX9_gathers_136 : decode cX9_gathers 136 = .ok (.goto 49, 3) := by decide +kernel
theorem dX9_gathers_139 : decode cX9_gathers 139 = .ok (.aload_n 0, 1) := by decide +kernel
theorem dX9_gathers_140 : decode cX9_gathers 140 = .ok (.getfield 197, 3) := by decide +kernel
theorem dX9_gathers_143 : decode cX9_gathers 143 = .ok (.aload_n 0, 1) := by decide +kernel
theorem dX9_gathers_144 : decode cX9_gathers 144 = .ok (.getfield 218, 3) := by decide +kernel
theorem dX9_gathers_147 : decode cX9_gathers 147 = .ok (.iload_n 2, 1) := by decide +kernel
theorem dX9_gathers_148 : decode cX9_gathers 148 = .ok (.iaload, 1) := by decide +kernel
theorem dX9_gathers_149 : decode cX9_gathers 149 = .ok (.iaload, 1) := by decide +kernel
theorem dX9_gathers_150 : decode cX9_gathers 150 = .ok (.istore_n 3, 1) := by decide +kernel
theorem dX9_gathers_151 : decode cX9_gathers 151 = .ok (.iload_n 3, 1) := by decide +kernel
theorem dX9_gathers_152 : decode cX9_gathers 152 = .ok (.aload_n 0, 1) := by decide +kernel
theorem dX9_gathers_153 : decode cX9_gathers 153 = .ok (.getfield 221, 3) := by decide +kernel
theorem dX9_gathers_156 : decode cX9_gathers 156 = .ok (.iload_n 1, 1) := by decide +kernel
theorem dX9_gathers_157 : decode cX9_gathers 157 = .ok (.iaload, 1) := by decide +kernel
theorem dX9_gathers_158 : decode cX9_gathers 158 = .ok (.if_icmp .ge 10, 3) := by decide +kernel
theorem dX9_gathers_161 : decode cX9_gathers 161 = .ok (.aload_n 0, 1) := by decide +kernel
theorem dX9_gathers_162 : decode cX9_gathers 162 = .ok (.getfield 221, 3) := by decide +kernel
theorem dX9_gathers_165 : decode cX9_gathers 165 = .ok (.iload_n 1, 1) := by decide +kernel
theorem dX9_gathers_166 : decode cX9_gathers 166 = .ok (.iload_n 3, 1) := by decide +kernel
theorem dX9_gathers_167 : decode cX9_gathers 167 = .ok (.iastore, 1) := by decide +kernel
theorem dX9_gathers_168 : decode cX9_gathers 168 = .ok (.iload_n 3, 1) := by decide +kernel
theorem dX9_gathers_169 : decode cX9_gathers 169 = .ok (.aload_n 0, 1) := by decide +kernel
theorem dX9_gathers_170 : decode cX9_gathers 170 = .ok (.getfield 224, 3) := by decide +kernel
theorem dX9_gathers_173 : decode cX9_gathers 173 = .ok (.iload_n 1, 1) := by decide +kernel
theorem dX9_gathers_174 : decode cX9_gathers 174 = .ok (.iaload, 1) := by decide +kernel
theorem dX9_gathers_175 : decode cX9_gathers 175 = .ok (.if_icmp .le 10, 3) := by decide +kernel
theorem dX9_gathers_178 : decode cX9_gathers 178 = .ok (.aload_n 0, 1) := by decide +kernel
theorem dX9_gathers_179 : decode cX9_gathers 179 = .ok (.getfield 224, 3) := by decide +kernel
theorem dX9_gathers_182 : decode cX9_gathers 182 = .ok (.iload_n 1, 1) := by decide +kernel
theorem dX9_gathers_183 : decode cX9_gathers 183 = .ok (.iload_n 3, 1) := by decide +kernel
theorem dX9_gathers_184 : decode cX9_gathers 184 = .ok (.iastore, 1) := by decide +kernel
theorem dX9_gathers_185 : decode cX9_gathers 185 = .ok (.iinc 2 1, 3) := by decide +kernel
theorem dX9_gathers_188 : decode cX9_gathers 188 = .ok (.goto (-72), 3) := by decide +kernel
theorem dX9_gathers_191 : decode cX9_gathers 191 = .ok (.iinc 1 1, 3) := by decide +kernel
theorem dX9_gathers_194 : decode cX9_gathers 194 = .ok (.goto (-105), 3) := by decide +kernel
theorem dX9_gathers_197 : decode cX9_gathers 197 = .ok (.iconst 0, 1) := by decide +kernel
theorem dX9_gathers_198 : decode cX9_gathers 198 = .ok (.istore_n 1, 1) := by decide +kernel
theorem dX9_gathers_199 : decode cX9_gathers 199 = .ok (.iload_n 1, 1) := by decide +kernel
theorem dX9_gathers_200 : decode cX9_gathers 200 = .ok (.bipush 10, 2) := by decide +kernel
theorem dX9_gathers_202 : decode cX9_gathers 202 = .ok (.if_icmp .ge 20, 3) := by decide +kernel
theorem dX9_gathers_205 : decode cX9_gathers 205 = .ok (.aload_n 0, 1) := by decide +kernel
theorem dX9_gathers_206 : decode cX9_gathers 206 = .ok (.getfield 227, 3) := by decide +kernel
theorem dX9_gathers_209 : decode cX9_gathers 209 = .ok (.iload_n 1, 1) := by decide +kernel
theorem dX9_gathers_210 : decode cX9_gathers 210 = .ok (.aload_n 0, 1) := by decide +kernel
theorem dX9_gathers_211 : decode cX9_gathers 211 = .ok (.iload_n 1, 1) := by decide +kernel
theorem dX9_gathers_212 : decode cX9_gathers 212 = .ok (.invokevirtual 585, 3) := by decide +kernel
theorem dX9_gathers_215 : decode cX9_gathers 215 = .ok (.iastore, 1) := by decide +kernel
theorem dX9_gathers_216 : decode cX9_gathers 216 = .ok (.iinc 1 1, 3) := by decide +kernel
theorem dX9_gathers_219 : decode cX9_gathers 219 = .ok (.goto (-20), 3) := by decide +kernel
theorem dX9_gathers_222 : decode cX9_gathers 222 = .ok (.return_, 1) := by decide +kernel
theorem dX9_scoreAct_0 : decode cX9_scoreAct 0 = .ok (.aload_n 0, 1) := by decide +kernel
theorem dX9_scoreAct_1 : decode cX9_scoreAct 1 = .ok (.getfield 218, 3) := by decide +kernel
theorem dX9_scoreAct_4 : decode cX9_scoreAct 4 = .ok (.bipush 60, 2) := by decide +kernel
theorem dX9_scoreAct_6 : decode cX9_scoreAct 6 = .ok (.iload_n 1, 1) := by decide +kernel
theorem dX9_scoreAct_7 : decode cX9_scoreAct 7 = .ok (.imul, 1) := by decide +kernel
theorem dX9_scoreAct_8 : decode cX9_scoreAct 8 = .ok (.bipush 6, 2) := by decide +kernel
theorem dX9_scoreAct_10 : decode cX9_scoreAct 10 = .ok (.iload_n 2, 1) := by decide +kernel
theorem dX9_scoreAct_11 : decode cX9_scoreAct 11 = .ok (.imul, 1) := by decide +kernel
theorem dX9_scoreAct_12 : decode cX9_scoreAct 12 = .ok (.iadd, 1) := by decide +kernel
theorem dX9_scoreAct_13 : decode cX9_scoreAct 13 = .ok (.iload_n 3, 1) := by decide +kernel
theorem dX9_scoreAct_14 : decode cX9_scoreAct 14 = .ok (.iadd, 1) := by decide +kernel
theorem dX9_scoreAct_15 : decode cX9_scoreAct 15 = .ok (.iaload, 1) := by decide +kernel
theorem dX9_scoreAct_16 : decode cX9_scoreAct 16 = .ok (.istore 4, 2) := by decide +kernel
theorem dX9_scoreAct_18 : decode cX9_scoreAct 18 = .ok (.iload 4, 2) := by decide +kernel
theorem dX9_scoreAct_20 : decode cX9_scoreAct 20 = .ok (.ifCond .ne 7, 3) := by decide +kernel
theorem dX9_scoreAct_23 : decode cX9_scoreAct 23 = .ok (.iconst (-1), 1) := by decide +kernel
theorem dX9_scoreAct_24 : decode cX9_scoreAct 24 = .ok (.goto 5, 3) := by decide +kernel
theorem dX9_scoreAct_27 : decode cX9_scoreAct 27 = .ok (.iload 4, 2) := by decide +kernel
theorem dX9_scoreAct_29 : decode cX9_scoreAct 29 = .ok (.ireturn, 1) := by decide +kernel
theorem dX9_floor1_0 : decode cX9_floor1 0 = .ok (.lload_n 0, 1) := by decide +kernel
theorem dX9_floor1_1 : decode cX9_floor1 1 = .ok (.lload_n 2, 1) := by decide +kernel
theorem dX9_floor1_2 : decode cX9_floor1 2 = .ok (.ldiv, 1) := by decide +kernel
theorem dX9_floor1_3 : decode cX9_floor1 3 = .ok (.lstore 4, 2) := by decide +kernel
theorem dX9_floor1_5 : decode cX9_floor1 5 = .ok (.lload_n 0, 1) := by decide +kernel
theorem dX9_floor1_6 : decode cX9_floor1 6 = .ok (.lload_n 2, 1) := by decide +kernel
theorem dX9_floor1_7 : decode cX9_floor1 7 = .ok (.lrem, 1) := by decide +kernel
theorem dX9_floor1_8 : decode cX9_floor1 8 = .ok (.lconst 0, 1) := by decide +kernel
theorem dX9_floor1_9 : decode cX9_floor1 9 = .ok (.lcmp, 1) := by decide +kernel
theorem dX9_floor1_10 : decode cX9_floor1 10 = .ok (.ifCond .eq 16, 3) := by decide +kernel
theorem dX9_floor1_13 : decode cX9_floor1 13 = .ok (.lload_n 0, 1) := by decide +kernel
theorem dX9_floor1_14 : decode cX9_floor1 14 = .ok (.lconst 0, 1) := by decide +kernel
theorem dX9_floor1_15 : decode cX9_floor1 15 = .ok (.lcmp, 1) := by decide +kernel
theorem dX9_floor1_16 : decode cX9_floor1 16 = .ok (.ifCond .ge 10, 3) := by decide +kernel
theorem dX9_floor1_19 : decode cX9_floor1 19 = .ok (.lload 4, 2) := by decide +kernel
theorem dX9_floor1_21 : decode cX9_floor1 21 = .ok (.lconst 1, 1) := by decide +kernel
theorem dX9_floor1_22 : decode cX9_floor1 22 = .ok (.lsub, 1) := by decide +kernel
theorem dX9_floor1_23 : decode cX9_floor1 23 = .ok (.goto 5, 3) := by decide +kernel
theorem dX9_floor1_26 : decode cX9_floor1 26 = .ok (.lload 4, 2) := by decide +kernel
theorem dX9_floor1_28 : decode cX9_floor1 28 = .ok (.lreturn, 1) := by decide +kernel
theorem dX9_scaled_0 : decode cX9_scaled 0 = .ok (.aload_n 0, 1) := by decide +kernel
theorem dX9_scaled_1 : decode cX9_scaled 1 = .ok (.getfield 439, 3) := by decide +kernel
theorem dX9_scaled_4 : decode cX9_scaled 4 = .ok (.ifCond .ne 13, 3) := by decide +kernel
theorem dX9_scaled_7 : decode cX9_scaled 7 = .ok (.bipush 10, 2) := by decide +kernel
theorem dX9_scaled_9 : decode cX9_scaled 9 = .ok (.aload_n 0, 1) := by decide +kernel
theorem dX9_scaled_10 : decode cX9_scaled 10 = .ok (.getfield 197, 3) := by decide +kernel
theorem dX9_scaled_13 : decode cX9_scaled 13 = .ok (.iload_n 1, 1) := by decide +kernel
theorem dX9_scaled_14 : decode cX9_scaled 14 = .ok (.iaload, 1) := by decide +kernel
theorem dX9_scaled_15 : decode cX9_scaled 15 = .ok (.imul, 1) := by decide +kernel
theorem dX9_scaled_16 : decode cX9_scaled 16 = .ok (.ireturn, 1) := by decide +kernel
theorem dX9_scaled_17 : decode cX9_scaled 17 = .ok (.aload_n 0, 1) := by decide +kernel
theorem dX9_scaled_18 : decode cX9_scaled 18 = .ok (.getfield 221, 3) := by decide +kernel
theorem dX9_scaled_21 : decode cX9_scaled 21 = .ok (.aload_n 0, 1) := by decide +kernel
theorem dX9_scaled_22 : decode cX9_scaled 22 = .ok (.getfield 194, 3) := by decide +kernel
theorem dX9_scaled_25 : decode cX9_scaled 25 = .ok (.iload_n 1, 1) := by decide +kernel
theorem dX9_scaled_26 : decode cX9_scaled 26 = .ok (.iaload, 1) := by decide +kernel
theorem dX9_scaled_27 : decode cX9_scaled 27 = .ok (.iaload, 1) := by decide +kernel
theorem dX9_scaled_28 : decode cX9_scaled 28 = .ok (.istore_n 2, 1) := by decide +kernel
theorem dX9_scaled_29 : decode cX9_scaled 29 = .ok (.aload_n 0, 1) := by decide +kernel
theorem dX9_scaled_30 : decode cX9_scaled 30 = .ok (.getfield 224, 3) := by decide +kernel
theorem dX9_scaled_33 : decode cX9_scaled 33 = .ok (.aload_n 0, 1) := by decide +kernel
theorem dX9_scaled_34 : decode cX9_scaled 34 = .ok (.getfield 194, 3) := by decide +kernel
theorem dX9_scaled_37 : decode cX9_scaled 37 = .ok (.iload_n 1, 1) := by decide +kernel
theorem dX9_scaled_38 : decode cX9_scaled 38 = .ok (.iaload, 1) := by decide +kernel
theorem dX9_scaled_39 : decode cX9_scaled 39 = .ok (.iaload, 1) := by decide +kernel
theorem dX9_scaled_40 : decode cX9_scaled 40 = .ok (.istore_n 3, 1) := by decide +kernel
theorem dX9_scaled_41 : decode cX9_scaled 41 = .ok (.iload_n 2, 1) := by decide +kernel
theorem dX9_scaled_42 : decode cX9_scaled 42 = .ok (.iload_n 3, 1) := by decide +kernel
theorem dX9_scaled_43 : decode cX9_scaled 43 = .ok (.if_icmp .ne 9, 3) := by decide +kernel
theorem dX9_scaled_46 : decode cX9_scaled 46 = .ok (.sipush 500, 3) := by decide +kernel
theorem dX9_scaled_49 : decode cX9_scaled 49 = .ok (.goto 19, 3) := by decide +kernel
theorem dX9_scaled_52 : decode cX9_scaled 52 = .ok (.sipush 1000, 3) := by decide +kernel
theorem dX9_scaled_55 : decode cX9_scaled 55 = .ok (.aload_n 0, 1) := by decide +kernel
theorem dX9_scaled_56 : decode cX9_scaled 56 = .ok (.getfield 197, 3) := by decide +kernel
theorem dX9_scaled_59 : decode cX9_scaled 59 = .ok (.iload_n 1, 1) := by decide +kernel
theorem dX9_scaled_60 : decode cX9_scaled 60 = .ok (.iaload, 1) := by decide +kernel
theorem dX9_scaled_61 : decode cX9_scaled 61 = .ok (.iload_n 2, 1) := by decide +kernel
theorem dX9_scaled_62 : decode cX9_scaled 62 = .ok (.isub, 1) := by decide +kernel
theorem dX9_scaled_63 : decode cX9_scaled 63 = .ok (.imul, 1) := by decide +kernel
theorem dX9_scaled_64 : decode cX9_scaled 64 = .ok (.iload_n 3, 1) := by decide +kernel
theorem dX9_scaled_65 : decode cX9_scaled 65 = .ok (.iload_n 2, 1) := by decide +kernel
theorem dX9_scaled_66 : decode cX9_scaled 66 = .ok (.isub, 1) := by decide +kernel
theorem dX9_scaled_67 : decode cX9_scaled 67 = .ok (.idiv, 1) := by decide +kernel
theorem dX9_scaled_68 : decode cX9_scaled 68 = .ok (.ireturn, 1) := by decide +kernel
theorem dX9_scored_0 : decode cX9_scored 0 = .ok (.iload_n 1, 1) := by decide +kernel
theorem dX9_scored_1 : decode cX9_scored 1 = .ok (.invokestatic 473, 3) := by decide +kernel
theorem dX9_scored_4 : decode cX9_scored 4 = .ok (.ifCond .eq 38, 3) := by decide +kernel
theorem dX9_scored_7 : decode cX9_scored 7 = .ok (.iload_n 2, 1) := by decide +kernel
theorem dX9_scored_8 : decode cX9_scored 8 = .ok (.i2l, 1) := by decide +kernel
theorem dX9_scored_9 : decode cX9_scored 9 = .ok (.lconst 0, 1) := by decide +kernel
theorem dX9_scored_10 : decode cX9_scored 10 = .ok (.ldc2_w 483, 3) := by decide +kernel
theorem dX9_scored_13 : decode cX9_scored 13 = .ok (.invokestatic 285, 3) := by decide +kernel
theorem dX9_scored_16 : decode cX9_scored 16 = .ok (.ifCond .eq 26, 3) := by decide +kernel
theorem dX9_scored_19 : decode cX9_scored 19 = .ok (.iload_n 3, 1) := by decide +kernel
theorem dX9_scored_20 : decode cX9_scored 20 = .ok (.i2l, 1) := by decide +kernel
theorem dX9_scored_21 : decode cX9_scored 21 = .ok (.lconst 0, 1) := by decide +kernel
theorem dX9_scored_22 : decode cX9_scored 22 = .ok (.aload_n 0, 1) := by decide +kernel
theorem dX9_scored_23 : decode cX9_scored 23 = .ok (.getfield 433, 3) := by decide +kernel
theorem dX9_scored_26 : decode cX9_scored 26 = .ok (.iconst 1, 1) := by decide +kernel
theorem dX9_scored_27 : decode cX9_scored 27 = .ok (.isub, 1) := by decide +kernel
theorem dX9_scored_28 : decode cX9_scored 28 = .ok (.i2l, 1) := by decide +kernel
theorem dX9_scored_29 : decode cX9_scored 29 = .ok (.invokestatic 285, 3) := by decide +kernel
theorem dX9_scored_32 : decode cX9_scored 32 = .ok (.ifCond .eq 10, 3) := by decide +kernel
theorem dX9_scored_35 : decode cX9_scored 35 = .ok (.aload_n 0, 1) := by decide +kernel
theorem dX9_scored_36 : decode cX9_scored 36 = .ok (.getfield 448, 3) := by decide +kernel
theorem dX9_scored_39 : decode cX9_scored 39 = .ok (.ifCond .ne 5, 3) := by decide +kernel
theorem dX9_scored_42 : decode cX9_scored 42 = .ok (.iconst (-1), 1) := by decide +kernel
theorem dX9_scored_43 : decode cX9_scored 43 = .ok (.ireturn, 1) := by decide +kernel
theorem dX9_scored_44 : decode cX9_scored 44 = .ok (.aload_n 0, 1) := by decide +kernel
theorem dX9_scored_45 : decode cX9_scored 45 = .ok (.invokevirtual 588, 3) := by decide +kernel
theorem dX9_scored_48 : decode cX9_scored 48 = .ok (.aload_n 0, 1) := by decide +kernel
theorem dX9_scored_49 : decode cX9_scored 49 = .ok (.iload_n 1, 1) := by decide +kernel
theorem dX9_scored_50 : decode cX9_scored 50 = .ok (.iload_n 2, 1) := by decide +kernel
theorem dX9_scored_51 : decode cX9_scored 51 = .ok (.iload_n 3, 1) := by decide +kernel
theorem dX9_scored_52 : decode cX9_scored 52 = .ok (.invokevirtual 591, 3) := by decide +kernel
theorem dX9_scored_55 : decode cX9_scored 55 = .ok (.istore 4, 2) := by decide +kernel
theorem dX9_scored_57 : decode cX9_scored 57 = .ok (.iload 4, 2) := by decide +kernel
theorem dX9_scored_59 : decode cX9_scored 59 = .ok (.iconst (-1), 1) := by decide +kernel
theorem dX9_scored_60 : decode cX9_scored 60 = .ok (.if_icmp .ne 7, 3) := by decide +kernel
theorem dX9_scored_63 : decode cX9_scored 63 = .ok (.iconst (-1), 1) := by decide +kernel
theorem dX9_scored_64 : decode cX9_scored 64 = .ok (.goto 9, 3) := by decide +kernel
theorem dX9_scored_67 : decode cX9_scored 67 = .ok (.aload_n 0, 1) := by decide +kernel
theorem dX9_scored_68 : decode cX9_scored 68 = .ok (.iload 4, 2) := by decide +kernel
theorem dX9_scored_70 : decode cX9_scored 70 = .ok (.invokevirtual 595, 3) := by decide +kernel
theorem dX9_scored_73 : decode cX9_scored 73 = .ok (.ireturn, 1) := by decide +kernel
theorem dX9_referenceMean_0 : decode cX9_referenceMean 0 = .ok (.aload_n 0, 1) := by decide +kernel
theorem dX9_referenceMean_1 : decode cX9_referenceMean 1 = .ok (.iconst 0, 1) := by decide +kernel
theorem dX9_referenceMean_2 : decode cX9_referenceMean 2 = .ok (.putfield 598, 3) := by decide +kernel
theorem dX9_referenceMean_5 : decode cX9_referenceMean 5 = .ok (.aload_n 0, 1) := by decide +kernel
theorem dX9_referenceMean_6 : decode cX9_referenceMean 6 = .ok (.getfield 176, 3) := by decide +kernel
theorem dX9_referenceMean_9 : decode cX9_referenceMean 9 = .ok (.iconst (-1), 1) := by decide +kernel
theorem dX9_referenceMean_10 : decode cX9_referenceMean 10 = .ok (.if_icmp .ne 5, 3) := by decide +kernel
theorem dX9_referenceMean_13 : decode cX9_referenceMean 13 = .ok (.iconst 0, 1) := by decide +kernel
theorem dX9_referenceMean_14 : decode cX9_referenceMean 14 = .ok (.ireturn, 1) := by decide +kernel
theorem dX9_referenceMean_15 : decode cX9_referenceMean 15 = .ok (.lconst 0, 1) := by decide +kernel
theorem dX9_referenceMean_16 : decode cX9_referenceMean 16 = .ok (.lstore_n 2, 1) := by decide +kernel
theorem dX9_referenceMean_17 : decode cX9_referenceMean 17 = .ok (.iconst 0, 1) := by decide +kernel
theorem dX9_referenceMean_18 : decode cX9_referenceMean 18 = .ok (.istore 4, 2) := by decide +kernel
theorem dX9_referenceMean_20 : decode cX9_referenceMean 20 = .ok (.iload 4, 2) := by decide +kernel
theorem dX9_referenceMean_22 : decode cX9_referenceMean 22 = .ok (.bipush 30, 2) := by decide +kernel
theorem dX9_referenceMean_24 : decode cX9_referenceMean 24 = .ok (.if_icmp .ge 51, 3) := by decide +kernel
theorem dX9_referenceMean_27 : decode cX9_referenceMean 27 = .ok (.aload_n 0, 1) := by decide +kernel
theorem dX9_referenceMean_28 : decode cX9_referenceMean 28 = .ok (.iload 4, 2) := by decide +kernel
theorem dX9_referenceMean_30 : decode cX9_referenceMean 30 = .ok (.iload_n 1, 1) := by decide +kernel
theorem dX9_referenceMean_31 : decode cX9_referenceMean 31 = .ok (.aload_n 0, 1) := by decide +kernel
theorem dX9_referenceMean_32 : decode cX9_referenceMean 32 = .ok (.getfield 176, 3) := by decide +kernel
theorem dX9_referenceMean_35 : decode cX9_referenceMean 35 = .ok (.invokevirtual 591, 3) := by decide +kernel
theorem dX9_referenceMean_38 : decode cX9_referenceMean 38 = .ok (.istore 5, 2) := by decide +kernel
theorem dX9_referenceMean_40 : decode cX9_referenceMean 40 = .ok (.iload 5, 2) := by decide +kernel
theorem dX9_referenceMean_42 : decode cX9_referenceMean 42 = .ok (.iconst (-1), 1) := by decide +kernel
theorem dX9_referenceMean_43 : decode cX9_referenceMean 43 = .ok (.if_icmp .ne 6, 3) := by decide +kernel
theorem dX9_referenceMean_46 : decode cX9_referenceMean 46 = .ok (.goto 23, 3) := by decide +kernel
theorem dX9_referenceMean_49 : decode cX9_referenceMean 49 = .ok (.lload_n 2, 1) := by decide +kernel
theorem dX9_referenceMean_50 : decode cX9_referenceMean 50 = .ok (.aload_n 0, 1) := by decide +kernel
theorem dX9_referenceMean_51 : decode cX9_referenceMean 51 = .ok (.iload 5, 2) := by decide +kernel
theorem dX9_referenceMean_53 : decode cX9_referenceMean 53 = .ok (.invokevirtual 595, 3) := by decide +kernel
theorem dX9_referenceMean_56 : decode cX9_referenceMean 56 = .ok (.i2l, 1) := by decide +kernel
theorem dX9_referenceMean_57 : decode cX9_referenceMean 57 = .ok (.ladd, 1) := by decide +kernel
theorem dX9_referenceMean_58 : decode cX9_referenceMean 58 = .ok (.lstore_n 2, 1) := by decide +kernel
theorem dX9_referenceMean_59 : decode cX9_referenceMean 59 = .ok (.aload_n 0, 1) := by decide +kernel
theorem dX9_referenceMean_60 : decode cX9_referenceMean 60 = .ok (.dup, 1) := by decide +kernel
theorem dX9_referenceMean_61 : decode cX9_referenceMean 61 = .ok (.getfield 598, 3) := by decide +kernel
theorem dX9_referenceMean_64 : decode cX9_referenceMean 64 = .ok (.iconst 1, 1) := by decide +kernel
theorem dX9_referenceMean_65 : decode cX9_referenceMean 65 = .ok (.iadd, 1) := by decide +kernel
theorem dX9_referenceMean_66 : decode cX9_referenceMean 66 = .ok (.putfield 598, 3) := by decide +kernel
theorem dX9_referenceMean_69 : decode cX9_referenceMean 69 = .ok (.iinc 4 1, 3) := by decide +kernel
theorem dX9_referenceMean_72 : decode cX9_referenceMean 72 = .ok (.goto (-52), 3) := by decide +kernel
theorem dX9_referenceMean_75 : decode cX9_referenceMean 75 = .ok (.aload_n 0, 1) := by decide +kernel
theorem dX9_referenceMean_76 : decode cX9_referenceMean 76 = .ok (.getfield 598, 3) := by decide +kernel
theorem dX9_referenceMean_79 : decode cX9_referenceMean 79 = .ok (.ifCond .ne 7, 3) := by decide +kernel
theorem dX9_referenceMean_82 : decode cX9_referenceMean 82 = .ok (.iconst 0, 1) := by decide +kernel
theorem dX9_referenceMean_83 : decode cX9_referenceMean 83 = .ok (.goto 13, 3) := by decide +kernel
theorem dX9_referenceMean_86 : decode cX9_referenceMean 86 = .ok (.lload_n 2, 1) := by decide +kernel
theorem dX9_referenceMean_87 : decode cX9_referenceMean 87 = .ok (.aload_n 0, 1) := by decide +kernel
theorem dX9_referenceMean_88 : decode cX9_referenceMean 88 = .ok (.getfield 598, 3) := by decide +kernel
theorem dX9_referenceMean_91 : decode cX9_referenceMean 91 = .ok (.i2l, 1) := by decide +kernel
theorem dX9_referenceMean_92 : decode cX9_referenceMean 92 = .ok (.invokestatic 601, 3) := by decide +kernel
theorem dX9_referenceMean_95 : decode cX9_referenceMean 95 = .ok (.l2i, 1) := by decide +kernel
theorem dX9_referenceMean_96 : decode cX9_referenceMean 96 = .ok (.ireturn, 1) := by decide +kernel
theorem dX9_driftOf_0 : decode cX9_driftOf 0 = .ok (.aload_n 0, 1) := by decide +kernel
theorem dX9_driftOf_1 : decode cX9_driftOf 1 = .ok (.iload_n 1, 1) := by decide +kernel
theorem dX9_driftOf_2 : decode cX9_driftOf 2 = .ok (.invokevirtual 605, 3) := by decide +kernel
theorem dX9_driftOf_5 : decode cX9_driftOf 5 = .ok (.istore_n 2, 1) := by decide +kernel
theorem dX9_driftOf_6 : decode cX9_driftOf 6 = .ok (.aload_n 0, 1) := by decide +kernel
theorem dX9_driftOf_7 : decode cX9_driftOf 7 = .ok (.getfield 598, 3) := by decide +kernel
theorem dX9_driftOf_10 : decode cX9_driftOf 10 = .ok (.ifCond .ne 5, 3) := by decide +kernel
theorem dX9_driftOf_13 : decode cX9_driftOf 13 = .ok (.iconst 0, 1) := by decide +kernel
theorem dX9_driftOf_14 : decode cX9_driftOf 14 = .ok (.ireturn, 1) := by decide +kernel
theorem dX9_driftOf_15 : decode cX9_driftOf 15 = .ok (.iconst 0, 1) := by decide +kernel
theorem dX9_driftOf_16 : decode cX9_driftOf 16 = .ok (.istore_n 3, 1) := by decide +kernel
theorem dX9_driftOf_17 : decode cX9_driftOf 17 = .ok (.iload_n 3, 1) := by decide +kernel
theorem dX9_driftOf_18 : decode cX9_driftOf 18 = .ok (.bipush 10, 2) := by decide +kernel
theorem dX9_driftOf_20 : decode cX9_driftOf 20 = .ok (.if_icmp .ge 28, 3) := by decide +kernel
theorem dX9_driftOf_23 : decode cX9_driftOf 23 = .ok (.aload_n 0, 1) := by decide +kernel
theorem dX9_driftOf_24 : decode cX9_driftOf 24 = .ok (.iload_n 3, 1) := by decide +kernel
theorem dX9_driftOf_25 : decode cX9_driftOf 25 = .ok (.invokevirtual 605, 3) := by decide +kernel
theorem dX9_driftOf_28 : decode cX9_driftOf 28 = .ok (.istore 4, 2) := by decide +kernel
theorem dX9_driftOf_30 : decode cX9_driftOf 30 = .ok (.aload_n 0, 1) := by decide +kernel
theorem dX9_driftOf_31 : decode cX9_driftOf 31 = .ok (.getfield 598, 3) := by decide +kernel
theorem dX9_driftOf_34 : decode cX9_driftOf 34 = .ok (.ifCond .le 8, 3) := by decide +kernel
theorem dX9_driftOf_37 : decode cX9_driftOf 37 = .ok (.iload_n 2, 1) := by decide +kernel
theorem dX9_driftOf_38 : decode cX9_driftOf 38 = .ok (.iload 4, 2) := by decide +kernel
theorem dX9_driftOf_40 : decode cX9_driftOf 40 = .ok (.isub, 1) := by decide +kernel
theorem dX9_driftOf_41 : decode cX9_driftOf 41 = .ok (.ireturn, 1) := by decide +kernel
theorem dX9_driftOf_42 : decode cX9_driftOf 42 = .ok (.iinc 3 1, 3) := by decide +kernel
theorem dX9_driftOf_45 : decode cX9_driftOf 45 = .ok (.goto (-28), 3) := by decide +kernel
theorem dX9_driftOf_48 : decode cX9_driftOf 48 = .ok (.iconst 0, 1) := by decide +kernel
theorem dX9_driftOf_49 : decode cX9_driftOf 49 = .ok (.ireturn, 1) := by decide +kernel
theorem dX9_meanOf_0 : decode cX9_meanOf 0 = .ok (.lconst 0, 1) := by decide +kernel
theorem dX9_meanOf_1 : decode cX9_meanOf 1 = .ok (.lstore_n 2, 1) := by decide +kernel
theorem dX9_meanOf_2 : decode cX9_meanOf 2 = .ok (.iconst 0, 1) := by decide +kernel
theorem dX9_meanOf_3 : decode cX9_meanOf 3 = .ok (.istore 4, 2) := by decide +kernel
theorem dX9_meanOf_5 : decode cX9_meanOf 5 = .ok (.iconst 0, 1) := by decide +kernel
theorem dX9_meanOf_6 : decode cX9_meanOf 6 = .ok (.istore 5, 2) := by decide +kernel
theorem dX9_meanOf_8 : decode cX9_meanOf 8 = .ok (.iload 5, 2) := by decide +kernel
theorem dX9_meanOf_10 : decode cX9_meanOf 10 = .ok (.bipush 10, 2) := by decide +kernel
theorem dX9_meanOf_12 : decode cX9_meanOf 12 = .ok (.if_icmp .ge 70, 3) := by decide +kernel
theorem dX9_meanOf_15 : decode cX9_meanOf 15 = .ok (.aload_n 0, 1) := by decide +kernel
theorem dX9_meanOf_16 : decode cX9_meanOf 16 = .ok (.getfield 227, 3) := by decide +kernel
theorem dX9_meanOf_19 : decode cX9_meanOf 19 = .ok (.iload 5, 2) := by decide +kernel
theorem dX9_meanOf_21 : decode cX9_meanOf 21 = .ok (.iaload, 1) := by decide +kernel
theorem dX9_meanOf_22 : decode cX9_meanOf 22 = .ok (.istore 6, 2) := by decide +kernel
theorem dX9_meanOf_24 : decode cX9_meanOf 24 = .ok (.iconst 0, 1) := by decide +kernel
theorem dX9_meanOf_25 : decode cX9_meanOf 25 = .ok (.istore 7, 2) := by decide +kernel
theorem dX9_meanOf_27 : decode cX9_meanOf 27 = .ok (.iload 7, 2) := by decide +kernel
theorem dX9_meanOf_29 : decode cX9_meanOf 29 = .ok (.bipush 30, 2) := by decide +kernel
theorem dX9_meanOf_31 : decode cX9_meanOf 31 = .ok (.if_icmp .ge 45, 3) := by decide +kernel
theorem dX9_meanOf_34 : decode cX9_meanOf 34 = .ok (.aload_n 0, 1) := by decide +kernel
theorem dX9_meanOf_35 : decode cX9_meanOf 35 = .ok (.iload 7, 2) := by decide +kernel
theorem dX9_meanOf_37 : decode cX9_meanOf 37 = .ok (.iload 5, 2) := by decide +kernel
theorem dX9_meanOf_39 : decode cX9_meanOf 39 = .ok (.iload_n 1, 1) := by decide +kernel
theorem dX9_meanOf_40 : decode cX9_meanOf 40 = .ok (.invokevirtual 591, 3) := by decide +kernel
theorem dX9_meanOf_43 : decode cX9_meanOf 43 = .ok (.istore 8, 2) := by decide +kernel
theorem dX9_meanOf_45 : decode cX9_meanOf 45 = .ok (.iload 8, 2) := by decide +kernel
theorem dX9_meanOf_47 : decode cX9_meanOf 47 = .ok (.iconst (-1), 1) := by decide +kernel
theorem dX9_meanOf_48 : decode cX9_meanOf 48 = .ok (.if_icmp .ne 6, 3) := by decide +kernel
theorem dX9_meanOf_51 : decode cX9_meanOf 51 = .ok (.goto 19, 3) := by decide +kernel
theorem dX9_meanOf_54 : decode cX9_meanOf 54 = .ok (.lload_n 2, 1) := by decide +kernel
theorem dX9_meanOf_55 : decode cX9_meanOf 55 = .ok (.aload_n 0, 1) := by decide +kernel
theorem dX9_meanOf_56 : decode cX9_meanOf 56 = .ok (.iload 8, 2) := by decide +kernel
theorem dX9_meanOf_58 : decode cX9_meanOf 58 = .ok (.invokevirtual 595, 3) := by decide +kernel
theorem dX9_meanOf_61 : decode cX9_meanOf 61 = .ok (.iload 6, 2) := by decide +kernel
theorem dX9_meanOf_63 : decode cX9_meanOf 63 = .ok (.isub, 1) := by decide +kernel
theorem dX9_meanOf_64 : decode cX9_meanOf 64 = .ok (.i2l, 1) := by decide +kernel
theorem dX9_meanOf_65 : decode cX9_meanOf 65 = .ok (.ladd, 1) := by decide +kernel
theorem dX9_meanOf_66 : decode cX9_meanOf 66 = .ok (.lstore_n 2, 1) := by decide +kernel
theorem dX9_meanOf_67 : decode cX9_meanOf 67 = .ok (.iinc 4 1, 3) := by decide +kernel
theorem dX9_meanOf_70 : decode cX9_meanOf 70 = .ok (.iinc 7 1, 3) := by decide +kernel
theorem dX9_meanOf_73 : decode cX9_meanOf 73 = .ok (.goto (-46), 3) := by decide +kernel
theorem dX9_meanOf_76 : decode cX9_meanOf 76 = .ok (.iinc 5 1, 3) := by decide +kernel
theorem dX9_meanOf_79 : decode cX9_meanOf 79 = .ok (.goto (-71), 3) := by decide +kernel
theorem dX9_meanOf_82 : decode cX9_meanOf 82 = .ok (.iload 4, 2) := by decide +kernel
theorem dX9_meanOf_84 : decode cX9_meanOf 84 = .ok (.ifCond .ne 9, 3) := by decide +kernel
theorem dX9_meanOf_87 : decode cX9_meanOf 87 = .ok (.ldc_w 608, 3) := by decide +kernel
theorem dX9_meanOf_90 : decode cX9_meanOf 90 = .ok (.goto 11, 3) := by decide +kernel
theorem dX9_meanOf_93 : decode cX9_meanOf 93 = .ok (.lload_n 2, 1) := by decide +kernel
theorem dX9_meanOf_94 : decode cX9_meanOf 94 = .ok (.iload 4, 2) := by decide +kernel
theorem dX9_meanOf_96 : decode cX9_meanOf 96 = .ok (.i2l, 1) := by decide +kernel
theorem dX9_meanOf_97 : decode cX9_meanOf 97 = .ok (.invokestatic 601, 3) := by decide +kernel
theorem dX9_meanOf_100 : decode cX9_meanOf 100 = .ok (.l2i, 1) := by decide +kernel
theorem dX9_meanOf_101 : decode cX9_meanOf 101 = .ok (.ireturn, 1) := by decide +kernel
theorem dX9_mean_0 : decode cX9_mean 0 = .ok (.iload_n 1, 1) := by decide +kernel
theorem dX9_mean_1 : decode cX9_mean 1 = .ok (.i2l, 1) := by decide +kernel
theorem dX9_mean_2 : decode cX9_mean 2 = .ok (.lconst 0, 1) := by decide +kernel
theorem dX9_mean_3 : decode cX9_mean 3 = .ok (.aload_n 0, 1) := by decide +kernel
theorem dX9_mean_4 : decode cX9_mean 4 = .ok (.getfield 433, 3) := by decide +kernel
theorem dX9_mean_7 : decode cX9_mean 7 = .ok (.iconst 1, 1) := by decide +kernel
theorem dX9_mean_8 : decode cX9_mean 8 = .ok (.isub, 1) := by decide +kernel
theorem dX9_mean_9 : decode cX9_mean 9 = .ok (.i2l, 1) := by decide +kernel
theorem dX9_mean_10 : decode cX9_mean 10 = .ok (.invokestatic 285, 3) := by decide +kernel
theorem dX9_mean_13 : decode cX9_mean 13 = .ok (.ifCond .eq 10, 3) := by decide +kernel
theorem dX9_mean_16 : decode cX9_mean 16 = .ok (.aload_n 0, 1) := by decide +kernel
theorem dX9_mean_17 : decode cX9_mean 17 = .ok (.getfield 448, 3) := by decide +kernel
theorem dX9_mean_20 : decode cX9_mean 20 = .ok (.ifCond .ne 5, 3) := by decide +kernel
theorem dX9_mean_23 : decode cX9_mean 23 = .ok (.iconst (-1), 1) := by decide +kernel
theorem dX9_mean_24 : decode cX9_mean 24 = .ok (.ireturn, 1) := by decide +kernel
theorem dX9_mean_25 : decode cX9_mean 25 = .ok (.aload_n 0, 1) := by decide +kernel
theorem dX9_mean_26 : decode cX9_mean 26 = .ok (.invokevirtual 588, 3) := by decide +kernel
theorem dX9_mean_29 : decode cX9_mean 29 = .ok (.aload_n 0, 1) := by decide +kernel
theorem dX9_mean_30 : decode cX9_mean 30 = .ok (.iload_n 1, 1) := by decide +kernel
theorem dX9_mean_31 : decode cX9_mean 31 = .ok (.invokevirtual 609, 3) := by decide +kernel
theorem dX9_mean_34 : decode cX9_mean 34 = .ok (.ireturn, 1) := by decide +kernel
theorem dX9_drift_0 : decode cX9_drift 0 = .ok (.iload_n 1, 1) := by decide +kernel
theorem dX9_drift_1 : decode cX9_drift 1 = .ok (.i2l, 1) := by decide +kernel
theorem dX9_drift_2 : decode cX9_drift 2 = .ok (.lconst 0, 1) := by decide +kernel
theorem dX9_drift_3 : decode cX9_drift 3 = .ok (.ldc2_w 483, 3) := by decide +kernel
theorem dX9_drift_6 : decode cX9_drift 6 = .ok (.invokestatic 285, 3) := by decide +kernel
theorem dX9_drift_9 : decode cX9_drift 9 = .ok (.ifCond .eq 10, 3) := by decide +kernel
theorem dX9_drift_12 : decode cX9_drift 12 = .ok (.aload_n 0, 1) := by decide +kernel
theorem dX9_drift_13 : decode cX9_drift 13 = .ok (.getfield 448, 3) := by decide +kernel
theorem dX9_drift_16 : decode cX9_drift 16 = .ok (.ifCond .ne 7, 3) := by decide +kernel
theorem dX9_drift_19 : decode cX9_drift 19 = .ok (.ldc_w 612, 3) := by decide +kernel
theorem dX9_drift_22 : decode cX9_drift 22 = .ok (.ireturn, 1) := by decide +kernel
theorem dX9_drift_23 : decode cX9_drift 23 = .ok (.aload_n 0, 1) := by decide +kernel
theorem dX9_drift_24 : decode cX9_drift 24 = .ok (.invokevirtual 588, 3) := by decide +kernel
theorem dX9_drift_27 : decode cX9_drift 27 = .ok (.aload_n 0, 1) := by decide +kernel
theorem dX9_drift_28 : decode cX9_drift 28 = .ok (.getfield 227, 3) := by decide +kernel
theorem dX9_drift_31 : decode cX9_drift 31 = .ok (.iload_n 1, 1) := by decide +kernel
theorem dX9_drift_32 : decode cX9_drift 32 = .ok (.iaload, 1) := by decide +kernel
theorem dX9_drift_33 : decode cX9_drift 33 = .ok (.ireturn, 1) := by decide +kernel
theorem dX9_clip_0 : decode cX9_clip 0 = .ok (.lload_n 0, 1) := by decide +kernel
theorem dX9_clip_1 : decode cX9_clip 1 = .ok (.ldc2_w 613, 3) := by decide +kernel
theorem dX9_clip_4 : decode cX9_clip 4 = .ok (.lcmp, 1) := by decide +kernel
theorem dX9_clip_5 : decode cX9_clip 5 = .ok (.ifCond .le 9, 3) := by decide +kernel
theorem dX9_clip_8 : decode cX9_clip 8 = .ok (.ldc2_w 613, 3) := by decide +kernel
theorem dX9_clip_11 : decode cX9_clip 11 = .ok (.goto 18, 3) := by decide +kernel
theorem dX9_clip_14 : decode cX9_clip 14 = .ok (.lload_n 0, 1) := by decide +kernel
theorem dX9_clip_15 : decode cX9_clip 15 = .ok (.ldc2_w 615, 3) := by decide +kernel
theorem dX9_clip_18 : decode cX9_clip 18 = .ok (.lcmp, 1) := by decide +kernel
theorem dX9_clip_19 : decode cX9_clip 19 = .ok (.ifCond .ge 9, 3) := by decide +kernel
theorem dX9_clip_22 : decode cX9_clip 22 = .ok (.ldc2_w 615, 3) := by decide +kernel
theorem dX9_clip_25 : decode cX9_clip 25 = .ok (.goto 4, 3) := by decide +kernel
theorem dX9_clip_28 : decode cX9_clip 28 = .ok (.lload_n 0, 1) := by decide +kernel
theorem dX9_clip_29 : decode cX9_clip 29 = .ok (.lreturn, 1) := by decide +kernel
theorem dX9_floor_0 : decode cX9_floor 0 = .ok (.lload_n 2, 1) := by decide +kernel
theorem dX9_floor_1 : decode cX9_floor 1 = .ok (.lconst 0, 1) := by decide +kernel
theorem dX9_floor_2 : decode cX9_floor 2 = .ok (.lcmp, 1) := by decide +kernel
theorem dX9_floor_3 : decode cX9_floor 3 = .ok (.ifCond .ne 5, 3) := by decide +kernel
theorem dX9_floor_6 : decode cX9_floor 6 = .ok (.lconst 0, 1) := by decide +kernel
theorem dX9_floor_7 : decode cX9_floor 7 = .ok (.lreturn, 1) := by decide +kernel
theorem dX9_floor_8 : decode cX9_floor 8 = .ok (.lload_n 0, 1) := by decide +kernel
theorem dX9_floor_9 : decode cX9_floor 9 = .ok (.lload_n 2, 1) := by decide +kernel
theorem dX9_floor_10 : decode cX9_floor 10 = .ok (.ldiv, 1) := by decide +kernel
theorem dX9_floor_11 : decode cX9_floor 11 = .ok (.lstore 4, 2) := by decide +kernel
theorem dX9_floor_13 : decode cX9_floor 13 = .ok (.lload_n 0, 1) := by decide +kernel
theorem dX9_floor_14 : decode cX9_floor 14 = .ok (.lload_n 2, 1) := by decide +kernel
theorem dX9_floor_15 : decode cX9_floor 15 = .ok (.lrem, 1) := by decide +kernel
theorem dX9_floor_16 : decode cX9_floor 16 = .ok (.lconst 0, 1) := by decide +kernel
theorem dX9_floor_17 : decode cX9_floor 17 = .ok (.lcmp, 1) := by decide +kernel
theorem dX9_floor_18 : decode cX9_floor 18 = .ok (.ifCond .eq 35, 3) := by decide +kernel
theorem dX9_floor_21 : decode cX9_floor 21 = .ok (.lload_n 0, 1) := by decide +kernel
theorem dX9_floor_22 : decode cX9_floor 22 = .ok (.lconst 0, 1) := by decide +kernel
theorem dX9_floor_23 : decode cX9_floor 23 = .ok (.lcmp, 1) := by decide +kernel
theorem dX9_floor_24 : decode cX9_floor 24 = .ok (.ifCond .ge 7, 3) := by decide +kernel
theorem dX9_floor_27 : decode cX9_floor 27 = .ok (.iconst 1, 1) := by decide +kernel
theorem dX9_floor_28 : decode cX9_floor 28 = .ok (.goto 4, 3) := by decide +kernel
theorem dX9_floor_31 : decode cX9_floor 31 = .ok (.iconst 0, 1) := by decide +kernel
theorem dX9_floor_32 : decode cX9_floor 32 = .ok (.lload_n 2, 1) := by decide +kernel
theorem dX9_floor_33 : decode cX9_floor 33 = .ok (.lconst 0, 1) := by decide +kernel
theorem dX9_floor_34 : decode cX9_floor 34 = .ok (.lcmp, 1) := by decide +kernel
theorem dX9_floor_35 : decode cX9_floor 35 = .ok (.ifCond .ge 7, 3) := by decide +kernel
theorem dX9_floor_38 : decode cX9_floor 38 = .ok (.iconst 1, 1) := by decide +kernel
theorem dX9_floor_39 : decode cX9_floor 39 = .ok (.goto 4, 3) := by decide +kernel
theorem dX9_floor_42 : decode cX9_floor 42 = .ok (.iconst 0, 1) := by decide +kernel
theorem dX9_floor_43 : decode cX9_floor 43 = .ok (.if_icmp .eq 10, 3) := by decide +kernel
theorem dX9_floor_46 : decode cX9_floor 46 = .ok (.lload 4, 2) := by decide +kernel
theorem dX9_floor_48 : decode cX9_floor 48 = .ok (.lconst 1, 1) := by decide +kernel
theorem dX9_floor_49 : decode cX9_floor 49 = .ok (.lsub, 1) := by decide +kernel
theorem dX9_floor_50 : decode cX9_floor 50 = .ok (.goto 5, 3) := by decide +kernel
theorem dX9_floor_53 : decode cX9_floor 53 = .ok (.lload 4, 2) := by decide +kernel
theorem dX9_floor_55 : decode cX9_floor 55 = .ok (.lreturn, 1) := by decide +kernel
theorem dX9_piles_0 : decode cX9_piles 0 = .ok (.aload_n 0, 1) := by decide +kernel
theorem dX9_piles_1 : decode cX9_piles 1 = .ok (.getfield 230, 3) := by decide +kernel
theorem dX9_piles_4 : decode cX9_piles 4 = .ok (.aload_n 0, 1) := by decide +kernel
theorem dX9_piles_5 : decode cX9_piles 5 = .ok (.getfield 617, 3) := by decide +kernel
theorem dX9_piles_8 : decode cX9_piles 8 = .ok (.lload_n 1, 1) := by decide +kernel
theorem dX9_piles_9 : decode cX9_piles 9 = .ok (.lastore, 1) := by decide +kernel
theorem dX9_piles_10 : decode cX9_piles 10 = .ok (.aload_n 0, 1) := by decide +kernel
theorem dX9_piles_11 : decode cX9_piles 11 = .ok (.dup, 1) := by decide +kernel
theorem dX9_piles_12 : decode cX9_piles 12 = .ok (.getfield 617, 3) := by decide +kernel
theorem dX9_piles_15 : decode cX9_piles 15 = .ok (.iconst 1, 1) := by decide +kernel
theorem dX9_piles_16 : decode cX9_piles 16 = .ok (.iadd, 1) := by decide +kernel
theorem dX9_piles_17 : decode cX9_piles 17 = .ok (.putfield 617, 3) := by decide +kernel
theorem dX9_piles_20 : decode cX9_piles 20 = .ok (.return_, 1) := by decide +kernel
theorem dX9_joins_0 : decode cX9_joins 0 = .ok (.aload_n 0, 1) := by decide +kernel
theorem dX9_joins_1 : decode cX9_joins 1 = .ok (.getfield 230, 3) := by decide +kernel
theorem dX9_joins_4 : decode cX9_joins 4 = .ok (.aload_n 0, 1) := by decide +kernel
theorem dX9_joins_5 : decode cX9_joins 5 = .ok (.getfield 617, 3) := by decide +kernel
theorem dX9_joins_8 : decode cX9_joins 8 = .ok (.iconst 1, 1) := by decide +kernel
theorem dX9_joins_9 : decode cX9_joins 9 = .ok (.isub, 1) := by decide +kernel
theorem dX9_joins_10 : decode cX9_joins 10 = .ok (.laload, 1) := by decide +kernel
theorem dX9_joins_11 : decode cX9_joins 11 = .ok (.lstore_n 2, 1) := by decide +kernel
theorem dX9_joins_12 : decode cX9_joins 12 = .ok (.aload_n 0, 1) := by decide +kernel
theorem dX9_joins_13 : decode cX9_joins 13 = .ok (.getfield 230, 3) := by decide +kernel
theorem dX9_joins_16 : decode cX9_joins 16 = .ok (.aload_n 0, 1) := by decide +kernel
theorem dX9_joins_17 : decode cX9_joins 17 = .ok (.getfield 617, 3) := by decide +kernel
theorem dX9_joins_20 : decode cX9_joins 20 = .ok (.iconst 2, 1) := by decide +kernel
theorem dX9_joins_21 : decode cX9_joins 21 = .ok (.isub, 1) := by decide +kernel
theorem dX9_joins_22 : decode cX9_joins 22 = .ok (.laload, 1) := by decide +kernel
theorem dX9_joins_23 : decode cX9_joins 23 = .ok (.lstore 4, 2) := by decide +kernel
theorem dX9_joins_25 : decode cX9_joins 25 = .ok (.aload_n 0, 1) := by decide +kernel
theorem dX9_joins_26 : decode cX9_joins 26 = .ok (.dup, 1) := by decide +kernel
theorem dX9_joins_27 : decode cX9_joins 27 = .ok (.getfield 617, 3) := by decide +kernel
theorem dX9_joins_30 : decode cX9_joins 30 = .ok (.iconst 2, 1) := by decide +kernel
theorem dX9_joins_31 : decode cX9_joins 31 = .ok (.isub, 1) := by decide +kernel
theorem dX9_joins_32 : decode cX9_joins 32 = .ok (.putfield 617, 3) := by decide +kernel
theorem dX9_joins_35 : decode cX9_joins 35 = .ok (.iload_n 1, 1) := by decide +kernel
theorem dX9_joins_36 : decode cX9_joins 36 = .ok (.tableswitch 235 1 14 #[72, 86, 100, 114, 127, 147, 235, 235, 235, 235, 167, 186, 205, 224], 72) := by decide +kernel
theorem dX9_joins_108 : decode cX9_joins 108 = .ok (.aload_n 0, 1) := by decide +kernel
theorem dX9_joins_109 : decode cX9_joins 109 = .ok (.lload 4, 2) := by decide +kernel
theorem dX9_joins_111 : decode cX9_joins 111 = .ok (.lload_n 2, 1) := by decide +kernel
theorem dX9_joins_112 : decode cX9_joins 112 = .ok (.ladd, 1) := by decide +kernel
theorem dX9_joins_113 : decode cX9_joins 113 = .ok (.invokestatic 620, 3) := by decide +kernel
theorem dX9_joins_116 : decode cX9_joins 116 = .ok (.invokevirtual 624, 3) := by decide +kernel
theorem dX9_joins_119 : decode cX9_joins 119 = .ok (.goto 170, 3) := by decide +kernel
theorem dX9_joins_122 : decode cX9_joins 122 = .ok (.aload_n 0, 1) := by decide +kernel
theorem dX9_joins_123 : decode cX9_joins 123 = .ok (.lload 4, 2) := by decide +kernel
theorem dX9_joins_125 : decode cX9_joins 125 = .ok (.lload_n 2, 1) := by decide +kernel
theorem dX9_joins_126 : decode cX9_joins 126 = .ok (.lsub, 1) := by decide +kernel
theorem dX9_joins_127 : decode cX9_joins 127 = .ok (.invokestatic 620, 3) := by decide +kernel
theorem dX9_joins_130 : decode cX9_joins 130 = .ok (.invokevirtual 624, 3) := by decide +kernel
theorem dX9_joins_133 : decode cX9_joins 133 = .ok (.goto 156, 3) := by decide +kernel
theorem dX9_joins_136 : decode cX9_joins 136 = .ok (.aload_n 0, 1) := by decide +kernel
theorem dX9_joins_137 : decode cX9_joins 137 = .ok (.lload 4, 2) := by decide +kernel
theorem dX9_joins_139 : decode cX9_joins 139 = .ok (.lload_n 2, 1) := by decide +kernel
theorem dX9_joins_140 : decode cX9_joins 140 = .ok (.lmul, 1) := by decide +kernel
theorem dX9_joins_141 : decode cX9_joins 141 = .ok (.invokestatic 620, 3) := by decide +kernel
theorem dX9_joins_144 : decode cX9_joins 144 = .ok (.invokevirtual 624, 3) := by decide +kernel
theorem dX9_joins_147 : decode cX9_joins 147 = .ok (.goto 142, 3) := by decide +kernel
theorem dX9_joins_150 : decode cX9_joins 150 = .ok (.aload_n 0, 1) := by decide +kernel
theorem dX9_joins_151 : decode cX9_joins 151 = .ok (.lload 4, 2) := by decide +kernel
theorem dX9_joins_153 : decode cX9_joins 153 = .ok (.lload_n 2, 1) := by decide +kernel
theorem dX9_joins_154 : decode cX9_joins 154 = .ok (.invokestatic 628, 3) := by decide +kernel
theorem dX9_joins_157 : decode cX9_joins 157 = .ok (.invokevirtual 624, 3) := by decide +kernel
theorem dX9_joins_160 : decode cX9_joins 160 = .ok (.goto 129, 3) := by decide +kernel
theorem dX9_joins_163 : decode cX9_joins 163 = .ok (.aload_n 0, 1) := by decide +kernel
theorem dX9_joins_164 : decode cX9_joins 164 = .ok (.lload 4, 2) := by decide +kernel
theorem dX9_joins_166 : decode cX9_joins 166 = .ok (.lload_n 2, 1) := by decide +kernel
theorem dX9_joins_167 : decode cX9_joins 167 = .ok (.lcmp, 1) := by decide +kernel
theorem dX9_joins_168 : decode cX9_joins 168 = .ok (.ifCond .ge 8, 3) := by decide +kernel
theorem dX9_joins_171 : decode cX9_joins 171 = .ok (.lload 4, 2) := by decide +kernel
theorem dX9_joins_173 : decode cX9_joins 173 = .ok (.goto 4, 3) := by decide +kernel
theorem dX9_joins_176 : decode cX9_joins 176 = .ok (.lload_n 2, 1) := by decide +kernel
theorem dX9_joins_177 : decode cX9_joins 177 = .ok (.invokevirtual 624, 3) := by decide +kernel
theorem dX9_joins_180 : decode cX9_joins 180 = .ok (.goto 109, 3) := by decide +kernel
theorem dX9_joins_183 : decode cX9_joins 183 = .ok (.aload_n 0, 1) := by decide +kernel
theorem dX9_joins_184 : decode cX9_joins 184 = .ok (.lload 4, 2) := by decide +kernel
theorem dX9_joins_186 : decode cX9_joins 186 = .ok (.lload_n 2, 1) := by decide +kernel
theorem dX9_joins_187 : decode cX9_joins 187 = .ok (.lcmp, 1) := by decide +kernel
theorem dX9_joins_188 : decode cX9_joins 188 = .ok (.ifCond .le 8, 3) := by decide +kernel
theorem dX9_joins_191 : decode cX9_joins 191 = .ok (.lload 4, 2) := by decide +kernel
theorem dX9_joins_193 : decode cX9_joins 193 = .ok (.goto 4, 3) := by decide +kernel
theorem dX9_joins_196 : decode cX9_joins 196 = .ok (.lload_n 2, 1) := by decide +kernel
theorem dX9_joins_197 : decode cX9_joins 197 = .ok (.invokevirtual 624, 3) := by decide +kernel
theorem dX9_joins_200 : decode cX9_joins 200 = .ok (.goto 89, 3) := by decide +kernel
theorem dX9_joins_203 : decode cX9_joins 203 = .ok (.aload_n 0, 1) := by decide +kernel
theorem dX9_joins_204 : decode cX9_joins 204 = .ok (.lload 4, 2) := by decide +kernel
theorem dX9_joins_206 : decode cX9_joins 206 = .ok (.lload_n 2, 1) := by decide +kernel
theorem dX9_joins_207 : decode cX9_joins 207 = .ok (.lcmp, 1) := by decide +kernel
theorem dX9_joins_208 : decode cX9_joins 208 = .ok (.ifCond .ge 7, 3) := by decide +kernel
theorem dX9_joins_211 : decode cX9_joins 211 = .ok (.lconst 1, 1) := by decide +kernel
theorem dX9_joins_212 : decode cX9_joins 212 = .ok (.goto 4, 3) := by decide +kernel
theorem dX9_joins_215 : decode cX9_joins 215 = .ok (.lconst 0, 1) := by decide +kernel
theorem dX9_joins_216 : decode cX9_joins 216 = .ok (.invokevirtual 624, 3) := by decide +kernel
theorem dX9_joins_219 : decode cX9_joins 219 = .ok (.goto 70, 3) := by decide +kernel
theorem dX9_joins_222 : decode cX9_joins 222 = .ok (.aload_n 0, 1) := by decide +kernel
theorem dX9_joins_223 : decode cX9_joins 223 = .ok (.lload 4, 2) := by decide +kernel
theorem dX9_joins_225 : decode cX9_joins 225 = .ok (.lload_n 2, 1) := by decide +kernel
theorem dX9_joins_226 : decode cX9_joins 226 = .ok (.lcmp, 1) := by decide +kernel
theorem dX9_joins_227 : decode cX9_joins 227 = .ok (.ifCond .le 7, 3) := by decide +kernel
theorem dX9_joins_230 : decode cX9_joins 230 = .ok (.lconst 1, 1) := by decide +kernel
theorem dX9_joins_231 : decode cX9_joins 231 = .ok (.goto 4, 3) := by decide +kernel
theorem dX9_joins_234 : decode cX9_joins 234 = .ok (.lconst 0, 1) := by decide +kernel
theorem dX9_joins_235 : decode cX9_joins 235 = .ok (.invokevirtual 624, 3) := by decide +kernel
theorem dX9_joins_238 : decode cX9_joins 238 = .ok (.goto 51, 3) := by decide +kernel
theorem dX9_joins_241 : decode cX9_joins 241 = .ok (.aload_n 0, 1) := by decide +kernel
theorem dX9_joins_242 : decode cX9_joins 242 = .ok (.lload 4, 2) := by decide +kernel
theorem dX9_joins_244 : decode cX9_joins 244 = .ok (.lload_n 2, 1) := by decide +kernel
theorem dX9_joins_245 : decode cX9_joins 245 = .ok (.lcmp, 1) := by decide +kernel
theorem dX9_joins_246 : decode cX9_joins 246 = .ok (.ifCond .ne 7, 3) := by decide +kernel
theorem dX9_joins_249 : decode cX9_joins 249 = .ok (.lconst 1, 1) := by decide +kernel
theorem dX9_joins_250 : decode cX9_joins 250 = .ok (.goto 4, 3) := by decide +kernel
theorem dX9_joins_253 : decode cX9_joins 253 = .ok (.lconst 0, 1) := by decide +kernel
theorem dX9_joins_254 : decode cX9_joins 254 = .ok (.invokevirtual 624, 3) := by decide +kernel
theorem dX9_joins_257 : decode cX9_joins 257 = .ok (.goto 32, 3) := by decide +kernel
theorem dX9_joins_260 : decode cX9_joins 260 = .ok (.aload_n 0, 1) := by decide +kernel
theorem dX9_joins_261 : decode cX9_joins 261 = .ok (.lload 4, 2) := by decide +kernel
theorem dX9_joins_263 : decode cX9_joins 263 = .ok (.lload_n 2, 1) := by decide +kernel
theorem dX9_joins_264 : decode cX9_joins 264 = .ok (.lmul, 1) := by decide +kernel
theorem dX9_joins_265 : decode cX9_joins 265 = .ok (.invokevirtual 624, 3) := by decide +kernel
theorem dX9_joins_268 : decode cX9_joins 268 = .ok (.goto 21, 3) := by decide +kernel
theorem dX9_joins_271 : decode cX9_joins 271 = .ok (.aload_n 0, 1) := by decide +kernel
theorem dX9_joins_272 : decode cX9_joins 272 = .ok (.lload 4, 2) := by decide +kernel
theorem dX9_joins_274 : decode cX9_joins 274 = .ok (.lload_n 2, 1) := by decide +kernel
theorem dX9_joins_275 : decode cX9_joins 275 = .ok (.ladd, 1) := by decide +kernel
theorem dX9_joins_276 : decode cX9_joins 276 = .ok (.lconst 0, 1) := by decide +kernel
theorem dX9_joins_277 : decode cX9_joins 277 = .ok (.lcmp, 1) := by decide +kernel
theorem dX9_joins_278 : decode cX9_joins 278 = .ok (.ifCond .le 7, 3) := by decide +kernel
theorem dX9_joins_281 : decode cX9_joins 281 = .ok (.lconst 1, 1) := by decide +kernel
theorem dX9_joins_282 : decode cX9_joins 282 = .ok (.goto 4, 3) := by decide +kernel
theorem dX9_joins_285 : decode cX9_joins 285 = .ok (.lconst 0, 1) := by decide +kernel
theorem dX9_joins_286 : decode cX9_joins 286 = .ok (.invokevirtual 624, 3) := by decide +kernel
theorem dX9_joins_289 : decode cX9_joins 289 = .ok (.return_, 1) := by decide +kernel
theorem dX9_claim_0 : decode cX9_claim 0 = .ok (.iload_n 1, 1) := by decide +kernel
theorem dX9_claim_1 : decode cX9_claim 1 = .ok (.i2l, 1) := by decide +kernel
theorem dX9_claim_2 : decode cX9_claim 2 = .ok (.lconst 0, 1) := by decide +kernel
theorem dX9_claim_3 : decode cX9_claim 3 = .ok (.aload_n 0, 1) := by decide +kernel
theorem dX9_claim_4 : decode cX9_claim 4 = .ok (.getfield 442, 3) := by decide +kernel
theorem dX9_claim_7 : decode cX9_claim 7 = .ok (.iconst 1, 1) := by decide +kernel
theorem dX9_claim_8 : decode cX9_claim 8 = .ok (.isub, 1) := by decide +kernel
theorem dX9_claim_9 : decode cX9_claim 9 = .ok (.i2l, 1) := by decide +kernel
theorem dX9_claim_10 : decode cX9_claim 10 = .ok (.invokestatic 285, 3) := by decide +kernel
theorem dX9_claim_13 : decode cX9_claim 13 = .ok (.ifCond .eq 10, 3) := by decide +kernel
theorem dX9_claim_16 : decode cX9_claim 16 = .ok (.aload_n 0, 1) := by decide +kernel
theorem dX9_claim_17 : decode cX9_claim 17 = .ok (.getfield 448, 3) := by decide +kernel
theorem dX9_claim_20 : decode cX9_claim 20 = .ok (.ifCond .ne 5, 3) := by decide +kernel
theorem dX9_claim_23 : decode cX9_claim 23 = .ok (.iconst (-1), 1) := by decide +kernel
theorem dX9_claim_24 : decode cX9_claim 24 = .ok (.ireturn, 1) := by decide +kernel
theorem dX9_claim_25 : decode cX9_claim 25 = .ok (.aload_n 0, 1) := by decide +kernel
theorem dX9_claim_26 : decode cX9_claim 26 = .ok (.iconst 0, 1) := by decide +kernel
theorem dX9_claim_27 : decode cX9_claim 27 = .ok (.putfield 617, 3) := by decide +kernel
theorem dX9_claim_30 : decode cX9_claim 30 = .ok (.aload_n 0, 1) := by decide +kernel
theorem dX9_claim_31 : decode cX9_claim 31 = .ok (.invokevirtual 588, 3) := by decide +kernel
theorem dX9_claim_34 : decode cX9_claim 34 = .ok (.iload_n 1, 1) := by decide +kernel
theorem dX9_claim_35 : decode cX9_claim 35 = .ok (.ifCond .ne 7, 3) := by decide +kernel
theorem dX9_claim_38 : decode cX9_claim 38 = .ok (.iconst 0, 1) := by decide +kernel
theorem dX9_claim_39 : decode cX9_claim 39 = .ok (.goto 11, 3) := by decide +kernel
theorem dX9_claim_42 : decode cX9_claim 42 = .ok (.aload_n 0, 1) := by decide +kernel
theorem dX9_claim_43 : decode cX9_claim 43 = .ok (.getfield 179, 3) := by decide +kernel
theorem dX9_claim_46 : decode cX9_claim 46 = .ok (.iload_n 1, 1) := by decide +kernel
theorem dX9_claim_47 : decode cX9_claim 47 = .ok (.iconst 1, 1) := by decide +kernel
theorem dX9_claim_48 : decode cX9_claim 48 = .ok (.isub, 1) := by decide +kernel
theorem dX9_claim_49 : decode cX9_claim 49 = .ok (.iaload, 1) := by decide +kernel
theorem dX9_claim_50 : decode cX9_claim 50 = .ok (.istore_n 2, 1) := by decide +kernel
theorem dX9_claim_51 : decode cX9_claim 51 = .ok (.iload_n 2, 1) := by decide +kernel
theorem dX9_claim_52 : decode cX9_claim 52 = .ok (.aload_n 0, 1) := by decide +kernel
theorem dX9_claim_53 : decode cX9_claim 53 = .ok (.getfield 179, 3) := by decide +kernel
theorem dX9_claim_56 : decode cX9_claim 56 = .ok (.iload_n 1, 1) := by decide +kernel
theorem dX9_claim_57 : decode cX9_claim 57 = .ok (.iaload, 1) := by decide +kernel
theorem dX9_claim_58 : decode cX9_claim 58 = .ok (.if_icmp .ge 306, 3) := by decide +kernel
theorem dX9_claim_61 : decode cX9_claim 61 = .ok (.aload_n 0, 1) := by decide +kernel
theorem dX9_claim_62 : decode cX9_claim 62 = .ok (.getfield 114, 3) := by decide +kernel
theorem dX9_claim_65 : decode cX9_claim 65 = .ok (.sipush 800, 3) := by decide +kernel
theorem dX9_claim_68 : decode cX9_claim 68 = .ok (.iload_n 2, 1) := by decide +kernel
theorem dX9_claim_69 : decode cX9_claim 69 = .ok (.iadd, 1) := by decide +kernel
theorem dX9_claim_70 : decode cX9_claim 70 = .ok (.iaload, 1) := by decide +kernel
theorem dX9_claim_71 : decode cX9_claim 71 = .ok (.istore_n 3, 1) := by decide +kernel
theorem dX9_claim_72 : decode cX9_claim 72 = .ok (.iload_n 3, 1) := by decide +kernel
theorem dX9_claim_73 : decode cX9_claim 73 = .ok (.sipush 1000, 3) := by decide +kernel
theorem dX9_claim_76 : decode cX9_claim 76 = .ok (.if_icmp .lt 16, 3) := by decide +kernel
theorem dX9_claim_79 : decode cX9_claim 79 = .ok (.aload_n 0, 1) := by decide +kernel
theorem dX9_claim_80 : decode cX9_claim 80 = .ok (.iload_n 3, 1) := by decide +kernel
theorem dX9_claim_81 : decode cX9_claim 81 = .ok (.sipush 1000, 3) := by decide +kernel
theorem dX9_claim_84 : decode cX9_claim 84 = .ok (.isub, 1) := by decide +kernel
theorem dX9_claim_85 : decode cX9_claim 85 = .ok (.i2l, 1) := by decide +kernel
theorem dX9_claim_86 : decode cX9_claim 86 = .ok (.invokevirtual 624, 3) := by decide +kernel
theorem dX9_claim_89 : decode cX9_claim 89 = .ok (.goto 269, 3) := by decide +kernel
theorem dX9_claim_92 : decode cX9_claim 92 = .ok (.iload_n 3, 1) := by decide +kernel
theorem dX9_claim_93 : decode cX9_claim 93 = .ok (.sipush 180, 3) := by decide +kernel
theorem dX9_claim_96 : decode cX9_claim 96 = .ok (.if_icmp .lt 28, 3) := by decide +kernel
theorem dX9_claim_99 : decode cX9_claim 99 = .ok (.aload_n 0, 1) := by decide +kernel
theorem dX9_claim_100 : decode cX9_claim 100 = .ok (.aload_n 0, 1) := by decide +kernel
theorem dX9_claim_101 : decode cX9_claim 101 = .ok (.iload_n 3, 1) := by decide +kernel
theorem dX9_claim_102 : decode cX9_claim 102 = .ok (.sipush 180, 3) := by decide +kernel
theorem dX9_claim_105 : decode cX9_claim 105 = .ok (.isub, 1) := by decide +kernel
theorem dX9_claim_106 : decode cX9_claim 106 = .ok (.iconst 5, 1) := by decide +kernel
theorem dX9_claim_107 : decode cX9_claim 107 = .ok (.invokevirtual 582, 3) := by decide +kernel
theorem dX9_claim_110 : decode cX9_claim 110 = .ok (.ifCond .le 7, 3) := by decide +kernel
theorem dX9_claim_113 : decode cX9_claim 113 = .ok (.lconst 1, 1) := by decide +kernel
theorem dX9_claim_114 : decode cX9_claim 114 = .ok (.goto 4, 3) := by decide +kernel
theorem dX9_claim_117 : decode cX9_claim 117 = .ok (.lconst 0, 1) := by decide +kernel
theorem dX9_claim_118 : decode cX9_claim 118 = .ok (.invokevirtual 624, 3) := by decide +kernel
theorem dX9_claim_121 : decode cX9_claim 121 = .ok (.goto 237, 3) := by decide +kernel
theorem dX9_claim_124 : decode cX9_claim 124 = .ok (.iload_n 3, 1) := by decide +kernel
theorem dX9_claim_125 : decode cX9_claim 125 = .ok (.sipush 170, 3) := by decide +kernel
theorem dX9_claim_128 : decode cX9_claim 128 = .ok (.if_icmp .lt 21, 3) := by decide +kernel
theorem dX9_claim_131 : decode cX9_claim 131 = .ok (.aload_n 0, 1) := by decide +kernel
theorem dX9_claim_132 : decode cX9_claim 132 = .ok (.aload_n 0, 1) := by decide +kernel
theorem dX9_claim_133 : decode cX9_claim 133 = .ok (.getfield 227, 3) := by decide +kernel
theorem dX9_claim_136 : decode cX9_claim 136 = .ok (.iload_n 3, 1) := by decide +kernel
theorem dX9_claim_137 : decode cX9_claim 137 = .ok (.sipush 170, 3) := by decide +kernel
theorem dX9_claim_140 : decode cX9_claim 140 = .ok (.isub, 1) := by decide +kernel
theorem dX9_claim_141 : decode cX9_claim 141 = .ok (.iaload, 1) := by decide +kernel
theorem dX9_claim_142 : decode cX9_claim 142 = .ok (.i2l, 1) := by decide +kernel
theorem dX9_claim_143 : decode cX9_claim 143 = .ok (.invokevirtual 624, 3) := by decide +kernel
theorem dX9_claim_146 : decode cX9_claim 146 = .ok (.goto 212, 3) := by decide +kernel
theorem dX9_claim_149 : decode cX9_claim 149 = .ok (.iload_n 3, 1) := by decide +kernel
theorem dX9_claim_150 : decode cX9_claim 150 = .ok (.sipush 160, 3) := by decide +kernel
theorem dX9_claim_153 : decode cX9_claim 153 = .ok (.if_icmp .lt 20, 3) := by decide +kernel
theorem dX9_claim_156 : decode cX9_claim 156 = .ok (.aload_n 0, 1) := by decide +kernel
theorem dX9_claim_157 : decode cX9_claim 157 = .ok (.aload_n 0, 1) := by decide +kernel
theorem dX9_claim_158 : decode cX9_claim 158 = .ok (.iload_n 3, 1) := by decide +kernel
theorem dX9_claim_159 : decode cX9_claim 159 = .ok (.sipush 160, 3) := by decide +kernel
theorem dX9_claim_162 : decode cX9_claim 162 = .ok (.isub, 1) := by decide +kernel
theorem dX9_claim_163 : decode cX9_claim 163 = .ok (.invokevirtual 609, 3) := by decide +kernel
theorem dX9_claim_166 : decode cX9_claim 166 = .ok (.i2l, 1) := by decide +kernel
theorem dX9_claim_167 : decode cX9_claim 167 = .ok (.invokevirtual 624, 3) := by decide +kernel
theorem dX9_claim_170 : decode cX9_claim 170 = .ok (.goto 188, 3) := by decide +kernel
theorem dX9_claim_173 : decode cX9_claim 173 = .ok (.iload_n 3, 1) := by decide +kernel
theorem dX9_claim_174 : decode cX9_claim 174 = .ok (.sipush 150, 3) := by decide +kernel
theorem dX9_claim_177 : decode cX9_claim 177 = .ok (.if_icmp .lt 22, 3) := by decide +kernel
theorem dX9_claim_180 : decode cX9_claim 180 = .ok (.aload_n 0, 1) := by decide +kernel
theorem dX9_claim_181 : decode cX9_claim 181 = .ok (.aload_n 0, 1) := by decide +kernel
theorem dX9_claim_182 : decode cX9_claim 182 = .ok (.iload_n 3, 1) := by decide +kernel
theorem dX9_claim_183 : decode cX9_claim 183 = .ok (.sipush 150, 3) := by decide +kernel
theorem dX9_claim_186 : decode cX9_claim 186 = .ok (.isub, 1) := by decide +kernel
theorem dX9_claim_187 : decode cX9_claim 187 = .ok (.bipush 8, 2) := by decide +kernel
theorem dX9_claim_189 : decode cX9_claim 189 = .ok (.invokevirtual 582, 3) := by decide +kernel
theorem dX9_claim_192 : decode cX9_claim 192 = .ok (.i2l, 1) := by decide +kernel
theorem dX9_claim_193 : decode cX9_claim 193 = .ok (.invokevirtual 624, 3) := by decide +kernel
theorem dX9_claim_196 : decode cX9_claim 196 = .ok (.goto 162, 3) := by decide +kernel
theorem dX9_claim_199 : decode cX9_claim 199 = .ok (.iload_n 3, 1) := by decide +kernel
theorem dX9_claim_200 : decode cX9_claim 200 = .ok (.sipush 140, 3) := by decide +kernel
theorem dX9_claim_203 : decode cX9_claim 203 = .ok (.if_icmp .lt 22, 3) := by decide +kernel
theorem dX9_claim_206 : decode cX9_claim 206 = .ok (.aload_n 0, 1) := by decide +kernel
theorem dX9_claim_207 : decode cX9_claim 207 = .ok (.aload_n 0, 1) := by decide +kernel
theorem dX9_claim_208 : decode cX9_claim 208 = .ok (.iload_n 3, 1) := by decide +kernel
theorem dX9_claim_209 : decode cX9_claim 209 = .ok (.sipush 140, 3) := by decide +kernel
theorem dX9_claim_212 : decode cX9_claim 212 = .ok (.isub, 1) := by decide +kernel
theorem dX9_claim_213 : decode cX9_claim 213 = .ok (.bipush 7, 2) := by decide +kernel
theorem dX9_claim_215 : decode cX9_claim 215 = .ok (.invokevirtual 582, 3) := by decide +kernel
theorem dX9_claim_218 : decode cX9_claim 218 = .ok (.i2l, 1) := by decide +kernel
theorem dX9_claim_219 : decode cX9_claim 219 = .ok (.invokevirtual 624, 3) := by decide +kernel
theorem dX9_claim_222 : decode cX9_claim 222 = .ok (.goto 136, 3) := by decide +kernel
theorem dX9_claim_225 : decode cX9_claim 225 = .ok (.iload_n 3, 1) := by decide +kernel
theorem dX9_claim_226 : decode cX9_claim 226 = .ok (.sipush 130, 3) := by decide +kernel
theorem dX9_claim_229 : decode cX9_claim 229 = .ok (.if_icmp .lt 22, 3) := by decide +kernel
theorem dX9_claim_232 : decode cX9_claim 232 = .ok (.aload_n 0, 1) := by decide +kernel
theorem dX9_claim_233 : decode cX9_claim 233 = .ok (.aload_n 0, 1) := by decide +kernel
theorem dX9_claim_234 : decode cX9_claim 234 = .ok (.iload_n 3, 1) := by decide +kernel
theorem dX9_claim_235 : decode cX9_claim 235 = .ok (.sipush 130, 3) := by decide +kernel
theorem dX9_claim_238 : decode cX9_claim 238 = .ok (.isub, 1) := by decide +kernel
theorem dX9_claim_239 : decode cX9_claim 239 = .ok (.bipush 9, 2) := by decide +kernel
theorem dX9_claim_241 : decode cX9_claim 241 = .ok (.invokevirtual 582, 3) := by decide +kernel
theorem dX9_claim_244 : decode cX9_claim 244 = .ok (.i2l, 1) := by decide +kernel
theorem dX9_claim_245 : decode cX9_claim 245 = .ok (.invokevirtual 624, 3) := by decide +kernel
theorem dX9_claim_248 : decode cX9_claim 248 = .ok (.goto 110, 3) := by decide +kernel
theorem dX9_claim_251 : decode cX9_claim 251 = .ok (.iload_n 3, 1) := by decide +kernel
theorem dX9_claim_252 : decode cX9_claim 252 = .ok (.bipush 120, 2) := by decide +kernel
theorem dX9_claim_254 : decode cX9_claim 254 = .ok (.if_icmp .lt 20, 3) := by decide +kernel
theorem dX9_claim_257 : decode cX9_claim 257 = .ok (.aload_n 0, 1) := by decide +kernel
theorem dX9_claim_258 : decode cX9_claim 258 = .ok (.aload_n 0, 1) := by decide +kernel
theorem dX9_claim_259 : decode cX9_claim 259 = .ok (.iload_n 3, 1) := by decide +kernel
theorem dX9_claim_260 : decode cX9_claim 260 = .ok (.bipush 120, 2) := by decide +kernel
theorem dX9_claim_262 : decode cX9_claim 262 = .ok (.isub, 1) := by decide +kernel
theorem dX9_claim_263 : decode cX9_claim 263 = .ok (.iconst 2, 1) := by decide +kernel
theorem dX9_claim_264 : decode cX9_claim 264 = .ok (.invokevirtual 582, 3) := by decide +kernel
theorem dX9_claim_267 : decode cX9_claim 267 = .ok (.i2l, 1) := by decide +kernel
theorem dX9_claim_268 : decode cX9_claim 268 = .ok (.invokevirtual 624, 3) := by decide +kernel
theorem dX9_claim_271 : decode cX9_claim 271 = .ok (.goto 87, 3) := by decide +kernel
theorem dX9_claim_274 : decode cX9_claim 274 = .ok (.iload_n 3, 1) := by decide +kernel
theorem dX9_claim_275 : decode cX9_claim 275 = .ok (.bipush 110, 2) := by decide +kernel
theorem dX9_claim_277 : decode cX9_claim 277 = .ok (.if_icmp .lt 20, 3) := by decide +kernel
theorem dX9_claim_280 : decode cX9_claim 280 = .ok (.aload_n 0, 1) := by decide +kernel
theorem dX9_claim_281 : decode cX9_claim 281 = .ok (.aload_n 0, 1) := by decide +kernel
theorem dX9_claim_282 : decode cX9_claim 282 = .ok (.iload_n 3, 1) := by decide +kernel
theorem dX9_claim_283 : decode cX9_claim 283 = .ok (.bipush 110, 2) := by decide +kernel
theorem dX9_claim_285 : decode cX9_claim 285 = .ok (.isub, 1) := by decide +kernel
theorem dX9_claim_286 : decode cX9_claim 286 = .ok (.iconst 1, 1) := by decide +kernel
theorem dX9_claim_287 : decode cX9_claim 287 = .ok (.invokevirtual 582, 3) := by decide +kernel
theorem dX9_claim_290 : decode cX9_claim 290 = .ok (.i2l, 1) := by decide +kernel
theorem dX9_claim_291 : decode cX9_claim 291 = .ok (.invokevirtual 624, 3) := by decide +kernel
theorem dX9_claim_294 : decode cX9_claim 294 = .ok (.goto 64, 3) := by decide +kernel
theorem dX9_claim_297 : decode cX9_claim 297 = .ok (.iload_n 3, 1) := by decide +kernel
theorem dX9_claim_298 : decode cX9_claim 298 = .ok (.bipush 100, 2) := by decide +kernel
theorem dX9_claim_300 : decode cX9_claim 300 = .ok (.if_icmp .lt 20, 3) := by decide +kernel
theorem dX9_claim_303 : decode cX9_claim 303 = .ok (.aload_n 0, 1) := by decide +kernel
theorem dX9_claim_304 : decode cX9_claim 304 = .ok (.aload_n 0, 1) := by decide +kernel
theorem dX9_claim_305 : decode cX9_claim 305 = .ok (.iload_n 3, 1) := by decide +kernel
theorem dX9_claim_306 : decode cX9_claim 306 = .ok (.bipush 100, 2) := by decide +kernel
theorem dX9_claim_308 : decode cX9_claim 308 = .ok (.isub, 1) := by decide +kernel
theorem dX9_claim_309 : decode cX9_claim 309 = .ok (.iconst 0, 1) := by decide +kernel
theorem dX9_claim_310 : decode cX9_claim 310 = .ok (.invokevirtual 582, 3) := by decide +kernel
theorem dX9_claim_313 : decode cX9_claim 313 = .ok (.i2l, 1) := by decide +kernel
theorem dX9_claim_314 : decode cX9_claim 314 = .ok (.invokevirtual 624, 3) := by decide +kernel
theorem dX9_claim_317 : decode cX9_claim 317 = .ok (.goto 41, 3) := by decide +kernel
theorem dX9_claim_320 : decode cX9_claim 320 = .ok (.iload_n 3, 1) := by decide +kernel
theorem dX9_claim_321 : decode cX9_claim 321 = .ok (.bipush 16, 2) := by decide +kernel
theorem dX9_claim_323 : decode cX9_claim 323 = .ok (.if_icmp .ne 30, 3) := by decide +kernel
theorem dX9_claim_326 : decode cX9_claim 326 = .ok (.aload_n 0, 1) := by decide +kernel
theorem dX9_claim_327 : decode cX9_claim 327 = .ok (.getfield 230, 3) := by decide +kernel
theorem dX9_claim_330 : decode cX9_claim 330 = .ok (.aload_n 0, 1) := by decide +kernel
theorem dX9_claim_331 : decode cX9_claim 331 = .ok (.getfield 617, 3) := by decide +kernel
theorem dX9_claim_334 : decode cX9_claim 334 = .ok (.iconst 1, 1) := by decide +kernel
theorem dX9_claim_335 : decode cX9_claim 335 = .ok (.isub, 1) := by decide +kernel
theorem dX9_claim_336 : decode cX9_claim 336 = .ok (.lconst 1, 1) := by decide +kernel
theorem dX9_claim_337 : decode cX9_claim 337 = .ok (.aload_n 0, 1) := by decide +kernel
theorem dX9_claim_338 : decode cX9_claim 338 = .ok (.getfield 230, 3) := by decide +kernel
theorem dX9_claim_341 : decode cX9_claim 341 = .ok (.aload_n 0, 1) := by decide +kernel
theorem dX9_claim_342 : decode cX9_claim 342 = .ok (.getfield 617, 3) := by decide +kernel
theorem dX9_claim_345 : decode cX9_claim 345 = .ok (.iconst 1, 1) := by decide +kernel
theorem dX9_claim_346 : decode cX9_claim 346 = .ok (.isub, 1) := by decide +kernel
theorem dX9_claim_347 : decode cX9_claim 347 = .ok (.laload, 1) := by decide +kernel
theorem dX9_claim_348 : decode cX9_claim 348 = .ok (.lsub, 1) := by decide +kernel
theorem dX9_claim_349 : decode cX9_claim 349 = .ok (.lastore, 1) := by decide +kernel
theorem dX9_claim_350 : decode cX9_claim 350 = .ok (.goto 8, 3) := by decide +kernel
theorem dX9_claim_353 : decode cX9_claim 353 = .ok (.aload_n 0, 1) := by decide +kernel
theorem dX9_claim_354 : decode cX9_claim 354 = .ok (.iload_n 3, 1) := by decide +kernel
theorem dX9_claim_355 : decode cX9_claim 355 = .ok (.invokevirtual 631, 3) := by decide +kernel
theorem dX9_claim_358 : decode cX9_claim 358 = .ok (.iinc 2 1, 3) := by decide +kernel
theorem dX9_claim_361 : decode cX9_claim 361 = .ok (.goto (-310), 3) := by decide +kernel
theorem dX9_claim_364 : decode cX9_claim 364 = .ok (.aload_n 0, 1) := by decide +kernel
theorem dX9_claim_365 : decode cX9_claim 365 = .ok (.getfield 230, 3) := by decide +kernel
theorem dX9_claim_368 : decode cX9_claim 368 = .ok (.iconst 0, 1) := by decide +kernel
theorem dX9_claim_369 : decode cX9_claim 369 = .ok (.laload, 1) := by decide +kernel
theorem dX9_claim_370 : decode cX9_claim 370 = .ok (.lconst 1, 1) := by decide +kernel
theorem dX9_claim_371 : decode cX9_claim 371 = .ok (.lcmp, 1) := by decide +kernel
theorem dX9_claim_372 : decode cX9_claim 372 = .ok (.ifCond .ne 7, 3) := by decide +kernel
theorem dX9_claim_375 : decode cX9_claim 375 = .ok (.iconst 1, 1) := by decide +kernel
theorem dX9_claim_376 : decode cX9_claim 376 = .ok (.goto 4, 3) := by decide +kernel
theorem dX9_claim_379 : decode cX9_claim 379 = .ok (.iconst 0, 1) := by decide +kernel
theorem dX9_claim_380 : decode cX9_claim 380 = .ok (.ireturn, 1) := by decide +kernel
theorem dX9_square_0 : decode cX9_square 0 = .ok (.iload_n 0, 1) := by decide +kernel
theorem dX9_square_1 : decode cX9_square 1 = .ok (.iload_n 0, 1) := by decide +kernel
theorem dX9_square_2 : decode cX9_square 2 = .ok (.imul, 1) := by decide +kernel
theorem dX9_square_3 : decode cX9_square 3 = .ok (.ireturn, 1) := by decide +kernel
theorem dX9_uneven_0 : decode cX9_uneven 0 = .ok (.iconst 0, 1) := by decide +kernel
theorem dX9_uneven_1 : decode cX9_uneven 1 = .ok (.istore_n 3, 1) := by decide +kernel
theorem dX9_uneven_2 : decode cX9_uneven 2 = .ok (.iload_n 3, 1) := by decide +kernel
theorem dX9_uneven_3 : decode cX9_uneven 3 = .ok (.bipush 25, 2) := by decide +kernel
theorem dX9_uneven_5 : decode cX9_uneven 5 = .ok (.if_icmp .ge 23, 3) := by decide +kernel
theorem dX9_uneven_8 : decode cX9_uneven 8 = .ok (.aload_n 0, 1) := by decide +kernel
theorem dX9_uneven_9 : decode cX9_uneven 9 = .ok (.getfield 236, 3) := by decide +kernel
theorem dX9_uneven_12 : decode cX9_uneven 12 = .ok (.iload_n 3, 1) := by decide +kernel
theorem dX9_uneven_13 : decode cX9_uneven 13 = .ok (.iconst 0, 1) := by decide +kernel
theorem dX9_uneven_14 : decode cX9_uneven 14 = .ok (.iastore, 1) := by decide +kernel
theorem dX9_uneven_15 : decode cX9_uneven 15 = .ok (.aload_n 0, 1) := by decide +kernel
theorem dX9_uneven_16 : decode cX9_uneven 16 = .ok (.getfield 239, 3) := by decide +kernel
theorem dX9_uneven_19 : decode cX9_uneven 19 = .ok (.iload_n 3, 1) := by decide +kernel
theorem dX9_uneven_20 : decode cX9_uneven 20 = .ok (.iconst 0, 1) := by decide +kernel
theorem dX9_uneven_21 : decode cX9_uneven 21 = .ok (.iastore, 1) := by decide +kernel
theorem dX9_uneven_22 : decode cX9_uneven 22 = .ok (.iinc 3 1, 3) := by decide +kernel
theorem dX9_uneven_25 : decode cX9_uneven 25 = .ok (.goto (-23), 3) := by decide +kernel
theorem dX9_uneven_28 : decode cX9_uneven 28 = .ok (.iconst 0, 1) := by decide +kernel
theorem dX9_uneven_29 : decode cX9_uneven 29 = .ok (.istore_n 3, 1) := by decide +kernel
theorem dX9_uneven_30 : decode cX9_uneven 30 = .ok (.iload_n 3, 1) := by decide +kernel
theorem dX9_uneven_31 : decode cX9_uneven 31 = .ok (.iload_n 2, 1) := by decide +kernel
theorem dX9_uneven_32 : decode cX9_uneven 32 = .ok (.if_icmp .ge 90, 3) := by decide +kernel
theorem dX9_uneven_35 : decode cX9_uneven 35 = .ok (.iconst 0, 1) := by decide +kernel
theorem dX9_uneven_36 : decode cX9_uneven 36 = .ok (.istore 4, 2) := by decide +kernel
theorem dX9_uneven_38 : decode cX9_uneven 38 = .ok (.iload 4, 2) := by decide +kernel
theorem dX9_uneven_40 : decode cX9_uneven 40 = .ok (.iload_n 1, 1) := by decide +kernel
theorem dX9_uneven_41 : decode cX9_uneven 41 = .ok (.if_icmp .ge 75, 3) := by decide +kernel
theorem dX9_uneven_44 : decode cX9_uneven 44 = .ok (.aload_n 0, 1) := by decide +kernel
theorem dX9_uneven_45 : decode cX9_uneven 45 = .ok (.getfield 236, 3) := by decide +kernel
theorem dX9_uneven_48 : decode cX9_uneven 48 = .ok (.iconst 5, 1) := by decide +kernel
theorem dX9_uneven_49 : decode cX9_uneven 49 = .ok (.aload_n 0, 1) := by decide +kernel
theorem dX9_uneven_50 : decode cX9_uneven 50 = .ok (.getfield 233, 3) := by decide +kernel
theorem dX9_uneven_53 : decode cX9_uneven 53 = .ok (.iconst 5, 1) := by decide +kernel
theorem dX9_uneven_54 : decode cX9_uneven 54 = .ok (.iload_n 3, 1) := by decide +kernel
theorem dX9_uneven_55 : decode cX9_uneven 55 = .ok (.imul, 1) := by decide +kernel
theorem dX9_uneven_56 : decode cX9_uneven 56 = .ok (.iload 4, 2) := by decide +kernel
theorem dX9_uneven_58 : decode cX9_uneven 58 = .ok (.iadd, 1) := by decide +kernel
theorem dX9_uneven_59 : decode cX9_uneven 59 = .ok (.iaload, 1) := by decide +kernel
theorem dX9_uneven_60 : decode cX9_uneven 60 = .ok (.imul, 1) := by decide +kernel
theorem dX9_uneven_61 : decode cX9_uneven 61 = .ok (.iload 4, 2) := by decide +kernel
theorem dX9_uneven_63 : decode cX9_uneven 63 = .ok (.iadd, 1) := by decide +kernel
theorem dX9_uneven_64 : decode cX9_uneven 64 = .ok (.dup2, 1) := by decide +kernel
theorem dX9_uneven_65 : decode cX9_uneven 65 = .ok (.iaload, 1) := by decide +kernel
theorem dX9_uneven_66 : decode cX9_uneven 66 = .ok (.iconst 1, 1) := by decide +kernel
theorem dX9_uneven_67 : decode cX9_uneven 67 = .ok (.iadd, 1) := by decide +kernel
theorem dX9_uneven_68 : decode cX9_uneven 68 = .ok (.iastore, 1) := by decide +kernel
theorem dX9_uneven_69 : decode cX9_uneven 69 = .ok (.iload 4, 2) := by decide +kernel
theorem dX9_uneven_71 : decode cX9_uneven 71 = .ok (.ifCond .le 39, 3) := by decide +kernel
theorem dX9_uneven_74 : decode cX9_uneven 74 = .ok (.aload_n 0, 1) := by decide +kernel
theorem dX9_uneven_75 : decode cX9_uneven 75 = .ok (.getfield 239, 3) := by decide +kernel
theorem dX9_uneven_78 : decode cX9_uneven 78 = .ok (.iconst 5, 1) := by decide +kernel
theorem dX9_uneven_79 : decode cX9_uneven 79 = .ok (.aload_n 0, 1) := by decide +kernel
theorem dX9_uneven_80 : decode cX9_uneven 80 = .ok (.getfield 233, 3) := by decide +kernel
theorem dX9_uneven_83 : decode cX9_uneven 83 = .ok (.iconst 5, 1) := by decide +kernel
theorem dX9_uneven_84 : decode cX9_uneven 84 = .ok (.iload_n 3, 1) := by decide +kernel
theorem dX9_uneven_85 : decode cX9_uneven 85 = .ok (.imul, 1) := by decide +kernel
theorem dX9_uneven_86 : decode cX9_uneven 86 = .ok (.iload 4, 2) := by decide +kernel
theorem dX9_uneven_88 : decode cX9_uneven 88 = .ok (.iadd, 1) := by decide +kernel
theorem dX9_uneven_89 : decode cX9_uneven 89 = .ok (.iconst 1, 1) := by decide +kernel
theorem dX9_uneven_90 : decode cX9_uneven 90 = .ok (.isub, 1) := by decide +kernel
theorem dX9_uneven_91 : decode cX9_uneven 91 = .ok (.iaload, 1) := by decide +kernel
theorem dX9_uneven_92 : decode cX9_uneven 92 = .ok (.imul, 1) := by decide +kernel
theorem dX9_uneven_93 : decode cX9_uneven 93 = .ok (.aload_n 0, 1) := by decide +kernel
theorem dX9_uneven_94 : decode cX9_uneven 94 = .ok (.getfield 233, 3) := by decide +kernel
theorem dX9_uneven_97 : decode cX9_uneven 97 = .ok (.iconst 5, 1) := by decide +kernel
theorem dX9_uneven_98 : decode cX9_uneven 98 = .ok (.iload_n 3, 1) := by decide +kernel
theorem dX9_uneven_99 : decode cX9_uneven 99 = .ok (.imul, 1) := by decide +kernel
theorem dX9_uneven_100 : decode cX9_uneven 100 = .ok (.iload 4, 2) := by decide +kernel
theorem dX9_uneven_102 : decode cX9_uneven 102 = .ok (.iadd, 1) := by decide +kernel
theorem dX9_uneven_103 : decode cX9_uneven 103 = .ok (.iaload, 1) := by decide +kernel
theorem dX9_uneven_104 : decode cX9_uneven 104 = .ok (.iadd, 1) := by decide +kernel
theorem dX9_uneven_105 : decode cX9_uneven 105 = .ok (.dup2, 1) := by decide +kernel
theorem dX9_uneven_106 : decode cX9_uneven 106 = .ok (.iaload, 1) := by decide +kernel
theorem dX9_uneven_107 : decode cX9_uneven 107 = .ok (.iconst 1, 1) := by decide +kernel
theorem dX9_uneven_108 : decode cX9_uneven 108 = .ok (.iadd, 1) := by decide +kernel
theorem dX9_uneven_109 : decode cX9_uneven 109 = .ok (.iastore, 1) := by decide +kernel
theorem dX9_uneven_110 : decode cX9_uneven 110 = .ok (.iinc 4 1, 3) := by decide +kernel
theorem dX9_uneven_113 : decode cX9_uneven 113 = .ok (.goto (-75), 3) := by decide +kernel
theorem dX9_uneven_116 : decode cX9_uneven 116 = .ok (.iinc 3 1, 3) := by decide +kernel
theorem dX9_uneven_119 : decode cX9_uneven 119 = .ok (.goto (-89), 3) := by decide +kernel
theorem dX9_uneven_122 : decode cX9_uneven 122 = .ok (.iconst 0, 1) := by decide +kernel
theorem dX9_uneven_123 : decode cX9_uneven 123 = .ok (.istore_n 3, 1) := by decide +kernel
theorem dX9_uneven_124 : decode cX9_uneven 124 = .ok (.iconst 0, 1) := by decide +kernel
theorem dX9_uneven_125 : decode cX9_uneven 125 = .ok (.istore 4, 2) := by decide +kernel
theorem dX9_uneven_127 : decode cX9_uneven 127 = .ok (.iload 4, 2) := by decide +kernel
theorem dX9_uneven_129 : decode cX9_uneven 129 = .ok (.iload_n 1, 1) := by decide +kernel
theorem dX9_uneven_130 : decode cX9_uneven 130 = .ok (.if_icmp .ge 75, 3) := by decide +kernel
theorem dX9_uneven_133 : decode cX9_uneven 133 = .ok (.iconst 0, 1) := by decide +kernel
theorem dX9_uneven_134 : decode cX9_uneven 134 = .ok (.istore 5, 2) := by decide +kernel
theorem dX9_uneven_136 : decode cX9_uneven 136 = .ok (.iload 5, 2) := by decide +kernel
theorem dX9_uneven_138 : decode cX9_uneven 138 = .ok (.iload_n 1, 1) := by decide +kernel
theorem dX9_uneven_139 : decode cX9_uneven 139 = .ok (.if_icmp .ge 60, 3) := by decide +kernel
theorem dX9_uneven_142 : decode cX9_uneven 142 = .ok (.iload_n 3, 1) := by decide +kernel
theorem dX9_uneven_143 : decode cX9_uneven 143 = .ok (.aload_n 0, 1) := by decide +kernel
theorem dX9_uneven_144 : decode cX9_uneven 144 = .ok (.getfield 236, 3) := by decide +kernel
theorem dX9_uneven_147 : decode cX9_uneven 147 = .ok (.iconst 5, 1) := by decide +kernel
theorem dX9_uneven_148 : decode cX9_uneven 148 = .ok (.iload 4, 2) := by decide +kernel
theorem dX9_uneven_150 : decode cX9_uneven 150 = .ok (.imul, 1) := by decide +kernel
theorem dX9_uneven_151 : decode cX9_uneven 151 = .ok (.iload 5, 2) := by decide +kernel
theorem dX9_uneven_153 : decode cX9_uneven 153 = .ok (.iadd, 1) := by decide +kernel
theorem dX9_uneven_154 : decode cX9_uneven 154 = .ok (.iaload, 1) := by decide +kernel
theorem dX9_uneven_155 : decode cX9_uneven 155 = .ok (.iload_n 1, 1) := by decide +kernel
theorem dX9_uneven_156 : decode cX9_uneven 156 = .ok (.imul, 1) := by decide +kernel
theorem dX9_uneven_157 : decode cX9_uneven 157 = .ok (.iload_n 2, 1) := by decide +kernel
theorem dX9_uneven_158 : decode cX9_uneven 158 = .ok (.isub, 1) := by decide +kernel
theorem dX9_uneven_159 : decode cX9_uneven 159 = .ok (.invokestatic 634, 3) := by decide +kernel
theorem dX9_uneven_162 : decode cX9_uneven 162 = .ok (.iadd, 1) := by decide +kernel
theorem dX9_uneven_163 : decode cX9_uneven 163 = .ok (.istore_n 3, 1) := by decide +kernel
theorem dX9_uneven_164 : decode cX9_uneven 164 = .ok (.iload 4, 2) := by decide +kernel
theorem dX9_uneven_166 : decode cX9_uneven 166 = .ok (.iload 5, 2) := by decide +kernel
theorem dX9_uneven_168 : decode cX9_uneven 168 = .ok (.if_icmp .eq 25, 3) := by decide +kernel
theorem dX9_uneven_171 : decode cX9_uneven 171 = .ok (.iload_n 3, 1) := by decide +kernel
theorem dX9_uneven_172 : decode cX9_uneven 172 = .ok (.aload_n 0, 1) := by decide +kernel
theorem dX9_uneven_173 : decode cX9_uneven 173 = .ok (.getfield 239, 3) := by decide +kernel
theorem dX9_uneven_176 : decode cX9_uneven 176 = .ok (.iconst 5, 1) := by decide +kernel
theorem dX9_uneven_177 : decode cX9_uneven 177 = .ok (.iload 4, 2) := by decide +kernel
theorem dX9_uneven_179 : decode cX9_uneven 179 = .ok (.imul, 1) := by decide +kernel
theorem dX9_uneven_180 : decode cX9_uneven 180 = .ok (.iload 5, 2) := by decide +kernel
theorem dX9_uneven_182 : decode cX9_uneven 182 = .ok (.iadd, 1) := by decide +kernel
theorem dX9_uneven_183 : decode cX9_uneven 183 = .ok (.iaload, 1) := by decide +kernel
theorem dX9_uneven_184 : decode cX9_uneven 184 = .ok (.iload_n 1, 1) := by decide +kernel
theorem dX9_uneven_185 : decode cX9_uneven 185 = .ok (.imul, 1) := by decide +kernel
theorem dX9_uneven_186 : decode cX9_uneven 186 = .ok (.iload_n 2, 1) := by decide +kernel
theorem dX9_uneven_187 : decode cX9_uneven 187 = .ok (.isub, 1) := by decide +kernel
theorem dX9_uneven_188 : decode cX9_uneven 188 = .ok (.invokestatic 634, 3) := by decide +kernel
theorem dX9_uneven_191 : decode cX9_uneven 191 = .ok (.iadd, 1) := by decide +kernel
theorem dX9_uneven_192 : decode cX9_uneven 192 = .ok (.istore_n 3, 1) := by decide +kernel
theorem dX9_uneven_193 : decode cX9_uneven 193 = .ok (.iinc 5 1, 3) := by decide +kernel
theorem dX9_uneven_196 : decode cX9_uneven 196 = .ok (.goto (-60), 3) := by decide +kernel
theorem dX9_uneven_199 : decode cX9_uneven 199 = .ok (.iinc 4 1, 3) := by decide +kernel
theorem dX9_uneven_202 : decode cX9_uneven 202 = .ok (.goto (-75), 3) := by decide +kernel
theorem dX9_uneven_205 : decode cX9_uneven 205 = .ok (.iload_n 3, 1) := by decide +kernel
theorem dX9_uneven_206 : decode cX9_uneven 206 = .ok (.ireturn, 1) := by decide +kernel
theorem dX9_lays_0 : decode cX9_lays 0 = .ok (.iconst 0, 1) := by decide +kernel
theorem dX9_lays_1 : decode cX9_lays 1 = .ok (.istore 4, 2) := by decide +kernel
theorem dX9_lays_3 : decode cX9_lays 3 = .ok (.iload_n 1, 1) := by decide +kernel
theorem dX9_lays_4 : decode cX9_lays 4 = .ok (.istore 5, 2) := by decide +kernel
theorem dX9_lays_6 : decode cX9_lays 6 = .ok (.iload_n 2, 1) := by decide +kernel
theorem dX9_lays_7 : decode cX9_lays 7 = .ok (.iconst 1, 1) := by decide +kernel
theorem dX9_lays_8 : decode cX9_lays 8 = .ok (.isub, 1) := by decide +kernel
theorem dX9_lays_9 : decode cX9_lays 9 = .ok (.istore 6, 2) := by decide +kernel
theorem dX9_lays_11 : decode cX9_lays 11 = .ok (.iload 6, 2) := by decide +kernel
theorem dX9_lays_13 : decode cX9_lays 13 = .ok (.ifCond .lt 41, 3) := by decide +kernel
theorem dX9_lays_16 : decode cX9_lays 16 = .ok (.aload_n 0, 1) := by decide +kernel
theorem dX9_lays_17 : decode cX9_lays 17 = .ok (.getfield 233, 3) := by decide +kernel
theorem dX9_lays_20 : decode cX9_lays 20 = .ok (.iconst 5, 1) := by decide +kernel
theorem dX9_lays_21 : decode cX9_lays 21 = .ok (.iload_n 3, 1) := by decide +kernel
theorem dX9_lays_22 : decode cX9_lays 22 = .ok (.imul, 1) := by decide +kernel
theorem dX9_lays_23 : decode cX9_lays 23 = .ok (.iload 6, 2) := by decide +kernel
theorem dX9_lays_25 : decode cX9_lays 25 = .ok (.iadd, 1) := by decide +kernel
theorem dX9_lays_26 : decode cX9_lays 26 = .ok (.iload 5, 2) := by decide +kernel
theorem dX9_lays_28 : decode cX9_lays 28 = .ok (.iload_n 2, 1) := by decide +kernel
theorem dX9_lays_29 : decode cX9_lays 29 = .ok (.irem, 1) := by decide +kernel
theorem dX9_lays_30 : decode cX9_lays 30 = .ok (.iastore, 1) := by decide +kernel
theorem dX9_lays_31 : decode cX9_lays 31 = .ok (.iload 4, 2) := by decide +kernel
theorem dX9_lays_33 : decode cX9_lays 33 = .ok (.iconst 1, 1) := by decide +kernel
theorem dX9_lays_34 : decode cX9_lays 34 = .ok (.iload 5, 2) := by decide +kernel
theorem dX9_lays_36 : decode cX9_lays 36 = .ok (.iload_n 2, 1) := by decide +kernel
theorem dX9_lays_37 : decode cX9_lays 37 = .ok (.irem, 1) := by decide +kernel
theorem dX9_lays_38 : decode cX9_lays 38 = .ok (.ishl, 1) := by decide +kernel
theorem dX9_lays_39 : decode cX9_lays 39 = .ok (.ior, 1) := by decide +kernel
theorem dX9_lays_40 : decode cX9_lays 40 = .ok (.istore 4, 2) := by decide +kernel
theorem dX9_lays_42 : decode cX9_lays 42 = .ok (.iload 5, 2) := by decide +kernel
theorem dX9_lays_44 : decode cX9_lays 44 = .ok (.iload_n 2, 1) := by decide +kernel
theorem dX9_lays_45 : decode cX9_lays 45 = .ok (.idiv, 1) := by decide +kernel
theorem dX9_lays_46 : decode cX9_lays 46 = .ok (.istore 5, 2) := by decide +kernel
theorem dX9_lays_48 : decode cX9_lays 48 = .ok (.iinc 6 (-1), 3) := by decide +kernel
theorem dX9_lays_51 : decode cX9_lays 51 = .ok (.goto (-40), 3) := by decide +kernel
theorem dX9_lays_54 : decode cX9_lays 54 = .ok (.iload 4, 2) := by decide +kernel
theorem dX9_lays_56 : decode cX9_lays 56 = .ok (.iconst 1, 1) := by decide +kernel
theorem dX9_lays_57 : decode cX9_lays 57 = .ok (.iload_n 2, 1) := by decide +kernel
theorem dX9_lays_58 : decode cX9_lays 58 = .ok (.ishl, 1) := by decide +kernel
theorem dX9_lays_59 : decode cX9_lays 59 = .ok (.iconst 1, 1) := by decide +kernel
theorem dX9_lays_60 : decode cX9_lays 60 = .ok (.isub, 1) := by decide +kernel
theorem dX9_lays_61 : decode cX9_lays 61 = .ok (.if_icmp .ne 7, 3) := by decide +kernel
theorem dX9_lays_64 : decode cX9_lays 64 = .ok (.iconst 1, 1) := by decide +kernel
theorem dX9_lays_65 : decode cX9_lays 65 = .ok (.goto 4, 3) := by decide +kernel
theorem dX9_lays_68 : decode cX9_lays 68 = .ok (.iconst 0, 1) := by decide +kernel
theorem dX9_lays_69 : decode cX9_lays 69 = .ok (.ireturn, 1) := by decide +kernel
theorem dX9_orders_0 : decode cX9_orders 0 = .ok (.iload_n 1, 1) := by decide +kernel
theorem dX9_orders_1 : decode cX9_orders 1 = .ok (.i2l, 1) := by decide +kernel
theorem dX9_orders_2 : decode cX9_orders 2 = .ok (.ldc2_w 538, 3) := by decide +kernel
theorem dX9_orders_5 : decode cX9_orders 5 = .ok (.ldc2_w 637, 3) := by decide +kernel
theorem dX9_orders_8 : decode cX9_orders 8 = .ok (.invokestatic 285, 3) := by decide +kernel
theorem dX9_orders_11 : decode cX9_orders 11 = .ok (.ifCond .eq 15, 3) := by decide +kernel
theorem dX9_orders_14 : decode cX9_orders 14 = .ok (.iload_n 2, 1) := by decide +kernel
theorem dX9_orders_15 : decode cX9_orders 15 = .ok (.i2l, 1) := by decide +kernel
theorem dX9_orders_16 : decode cX9_orders 16 = .ok (.lconst 1, 1) := by decide +kernel
theorem dX9_orders_17 : decode cX9_orders 17 = .ok (.ldc2_w 550, 3) := by decide +kernel
theorem dX9_orders_20 : decode cX9_orders 20 = .ok (.invokestatic 285, 3) := by decide +kernel
theorem dX9_orders_23 : decode cX9_orders 23 = .ok (.ifCond .ne 5, 3) := by decide +kernel
theorem dX9_orders_26 : decode cX9_orders 26 = .ok (.iconst (-1), 1) := by decide +kernel
theorem dX9_orders_27 : decode cX9_orders 27 = .ok (.ireturn, 1) := by decide +kernel
theorem dX9_orders_28 : decode cX9_orders 28 = .ok (.iload_n 1, 1) := by decide +kernel
theorem dX9_orders_29 : decode cX9_orders 29 = .ok (.i2l, 1) := by decide +kernel
theorem dX9_orders_30 : decode cX9_orders 30 = .ok (.iload_n 1, 1) := by decide +kernel
theorem dX9_orders_31 : decode cX9_orders 31 = .ok (.invokestatic 540, 3) := by decide +kernel
theorem dX9_orders_34 : decode cX9_orders 34 = .ok (.l2i, 1) := by decide +kernel
theorem dX9_orders_35 : decode cX9_orders 35 = .ok (.istore_n 3, 1) := by decide +kernel
theorem dX9_orders_36 : decode cX9_orders 36 = .ok (.iconst 0, 1) := by decide +kernel
theorem dX9_orders_37 : decode cX9_orders 37 = .ok (.istore 4, 2) := by decide +kernel
theorem dX9_orders_39 : decode cX9_orders 39 = .ok (.iconst 0, 1) := by decide +kernel
theorem dX9_orders_40 : decode cX9_orders 40 = .ok (.istore 5, 2) := by decide +kernel
theorem dX9_orders_42 : decode cX9_orders 42 = .ok (.iload 5, 2) := by decide +kernel
theorem dX9_orders_44 : decode cX9_orders 44 = .ok (.iload_n 2, 1) := by decide +kernel
theorem dX9_orders_45 : decode cX9_orders 45 = .ok (.if_icmp .ge 94, 3) := by decide +kernel
theorem dX9_orders_48 : decode cX9_orders 48 = .ok (.iconst (-1), 1) := by decide +kernel
theorem dX9_orders_49 : decode cX9_orders 49 = .ok (.istore 6, 2) := by decide +kernel
theorem dX9_orders_51 : decode cX9_orders 51 = .ok (.iconst 0, 1) := by decide +kernel
theorem dX9_orders_52 : decode cX9_orders 52 = .ok (.istore 7, 2) := by decide +kernel
theorem dX9_orders_54 : decode cX9_orders 54 = .ok (.iconst 0, 1) := by decide +kernel
theorem dX9_orders_55 : decode cX9_orders 55 = .ok (.istore 8, 2) := by decide +kernel
theorem dX9_orders_57 : decode cX9_orders 57 = .ok (.iload 8, 2) := by decide +kernel
theorem dX9_orders_59 : decode cX9_orders 59 = .ok (.iload_n 3, 1) := by decide +kernel
theorem dX9_orders_60 : decode cX9_orders 60 = .ok (.if_icmp .ge 59, 3) := by decide +kernel
theorem dX9_orders_63 : decode cX9_orders 63 = .ok (.aload_n 0, 1) := by decide +kernel
theorem dX9_orders_64 : decode cX9_orders 64 = .ok (.iload 8, 2) := by decide +kernel
theorem dX9_orders_66 : decode cX9_orders 66 = .ok (.iload_n 1, 1) := by decide +kernel
theorem dX9_orders_67 : decode cX9_orders 67 = .ok (.iload 5, 2) := by decide +kernel
theorem dX9_orders_69 : decode cX9_orders 69 = .ok (.invokevirtual 639, 3) := by decide +kernel
theorem dX9_orders_72 : decode cX9_orders 72 = .ok (.ifCond .ne 6, 3) := by decide +kernel
theorem dX9_orders_75 : decode cX9_orders 75 = .ok (.goto 38, 3) := by decide +kernel
theorem dX9_orders_78 : decode cX9_orders 78 = .ok (.aload_n 0, 1) := by decide +kernel
theorem dX9_orders_79 : decode cX9_orders 79 = .ok (.iload_n 1, 1) := by decide +kernel
theorem dX9_orders_80 : decode cX9_orders 80 = .ok (.iload 5, 2) := by decide +kernel
theorem dX9_orders_82 : decode cX9_orders 82 = .ok (.iconst 1, 1) := by decide +kernel
theorem dX9_orders_83 : decode cX9_orders 83 = .ok (.iadd, 1) := by decide +kernel
theorem dX9_orders_84 : decode cX9_orders 84 = .ok (.invokevirtual 643, 3) := by decide +kernel
theorem dX9_orders_87 : decode cX9_orders 87 = .ok (.istore 9, 2) := by decide +kernel
theorem dX9_orders_89 : decode cX9_orders 89 = .ok (.iload 6, 2) := by decide +kernel
theorem dX9_orders_91 : decode cX9_orders 91 = .ok (.iconst (-1), 1) := by decide +kernel
theorem dX9_orders_92 : decode cX9_orders 92 = .ok (.if_icmp .eq 13, 3) := by decide +kernel
theorem dX9_orders_95 : decode cX9_orders 95 = .ok (.iload 9, 2) := by decide +kernel
theorem dX9_orders_97 : decode cX9_orders 97 = .ok (.iload 6, 2) := by decide +kernel
theorem dX9_orders_99 : decode cX9_orders 99 = .ok (.if_icmp .lt 6, 3) := by decide +kernel
theorem dX9_orders_102 : decode cX9_orders 102 = .ok (.goto 11, 3) := by decide +kernel
theorem dX9_orders_105 : decode cX9_orders 105 = .ok (.iload 9, 2) := by decide +kernel
theorem dX9_orders_107 : decode cX9_orders 107 = .ok (.istore 6, 2) := by decide +kernel
theorem dX9_orders_109 : decode cX9_orders 109 = .ok (.iload 8, 2) := by decide +kernel
theorem dX9_orders_111 : decode cX9_orders 111 = .ok (.istore 7, 2) := by decide +kernel
theorem dX9_orders_113 : decode cX9_orders 113 = .ok (.iinc 8 1, 3) := by decide +kernel
theorem dX9_orders_116 : decode cX9_orders 116 = .ok (.goto (-59), 3) := by decide +kernel
theorem dX9_orders_119 : decode cX9_orders 119 = .ok (.aload_n 0, 1) := by decide +kernel
theorem dX9_orders_120 : decode cX9_orders 120 = .ok (.iload 7, 2) := by decide +kernel
theorem dX9_orders_122 : decode cX9_orders 122 = .ok (.iload_n 1, 1) := by decide +kernel
theorem dX9_orders_123 : decode cX9_orders 123 = .ok (.iload 5, 2) := by decide +kernel
theorem dX9_orders_125 : decode cX9_orders 125 = .ok (.invokevirtual 639, 3) := by decide +kernel
theorem dX9_orders_128 : decode cX9_orders 128 = .ok (.pop, 1) := by decide +kernel
theorem dX9_orders_129 : decode cX9_orders 129 = .ok (.iload 6, 2) := by decide +kernel
theorem dX9_orders_131 : decode cX9_orders 131 = .ok (.istore 4, 2) := by decide +kernel
theorem dX9_orders_133 : decode cX9_orders 133 = .ok (.iinc 5 1, 3) := by decide +kernel
theorem dX9_orders_136 : decode cX9_orders 136 = .ok (.goto (-94), 3) := by decide +kernel
theorem dX9_orders_139 : decode cX9_orders 139 = .ok (.aload_n 0, 1) := by decide +kernel
theorem dX9_orders_140 : decode cX9_orders 140 = .ok (.iload_n 1, 1) := by decide +kernel
theorem dX9_orders_141 : decode cX9_orders 141 = .ok (.putfield 646, 3) := by decide +kernel
theorem dX9_orders_144 : decode cX9_orders 144 = .ok (.aload_n 0, 1) := by decide +kernel
theorem dX9_orders_145 : decode cX9_orders 145 = .ok (.iload_n 2, 1) := by decide +kernel
theorem dX9_orders_146 : decode cX9_orders 146 = .ok (.putfield 649, 3) := by decide +kernel
theorem dX9_orders_149 : decode cX9_orders 149 = .ok (.iload 4, 2) := by decide +kernel
theorem dX9_orders_151 : decode cX9_orders 151 = .ok (.ireturn, 1) := by decide +kernel
theorem dX9_served_0 : decode cX9_served 0 = .ok (.iload_n 1, 1) := by decide +kernel
theorem dX9_served_1 : decode cX9_served 1 = .ok (.ifCond .lt 40, 3) := by decide +kernel
theorem dX9_served_4 : decode cX9_served 4 = .ok (.iload_n 1, 1) := by decide +kernel
theorem dX9_served_5 : decode cX9_served 5 = .ok (.aload_n 0, 1) := by decide +kernel
theorem dX9_served_6 : decode cX9_served 6 = .ok (.getfield 649, 3) := by decide +kernel
theorem dX9_served_9 : decode cX9_served 9 = .ok (.if_icmp .ge 32, 3) := by decide +kernel
theorem dX9_served_12 : decode cX9_served 12 = .ok (.iload_n 2, 1) := by decide +kernel
theorem dX9_served_13 : decode cX9_served 13 = .ok (.i2l, 1) := by decide +kernel
theorem dX9_served_14 : decode cX9_served 14 = .ok (.lconst 0, 1) := by decide +kernel
theorem dX9_served_15 : decode cX9_served 15 = .ok (.aload_n 0, 1) := by decide +kernel
theorem dX9_served_16 : decode cX9_served 16 = .ok (.getfield 646, 3) := by decide +kernel
theorem dX9_served_19 : decode cX9_served 19 = .ok (.iconst 1, 1) := by decide +kernel
theorem dX9_served_20 : decode cX9_served 20 = .ok (.isub, 1) := by decide +kernel
theorem dX9_served_21 : decode cX9_served 21 = .ok (.i2l, 1) := by decide +kernel
theorem dX9_served_22 : decode cX9_served 22 = .ok (.invokestatic 285, 3) := by decide +kernel
theorem dX9_served_25 : decode cX9_served 25 = .ok (.ifCond .eq 16, 3) := by decide +kernel
theorem dX9_served_28 : decode cX9_served 28 = .ok (.aload_n 0, 1) := by decide +kernel
theorem dX9_served_29 : decode cX9_served 29 = .ok (.getfield 233, 3) := by decide +kernel
theorem dX9_served_32 : decode cX9_served 32 = .ok (.iconst 5, 1) := by decide +kernel
theorem dX9_served_33 : decode cX9_served 33 = .ok (.iload_n 1, 1) := by decide +kernel
theorem dX9_served_34 : decode cX9_served 34 = .ok (.imul, 1) := by decide +kernel
theorem dX9_served_35 : decode cX9_served 35 = .ok (.iload_n 2, 1) := by decide +kernel
theorem dX9_served_36 : decode cX9_served 36 = .ok (.iadd, 1) := by decide +kernel
theorem dX9_served_37 : decode cX9_served 37 = .ok (.iaload, 1) := by decide +kernel
theorem dX9_served_38 : decode cX9_served 38 = .ok (.goto 4, 3) := by decide +kernel
theorem dX9_served_41 : decode cX9_served 41 = .ok (.iconst (-1), 1) := by decide +kernel
theorem dX9_served_42 : decode cX9_served 42 = .ok (.ireturn, 1) := by decide +kernel
theorem dX9_serves_0 : decode cX9_serves 0 = .ok (.aload_n 0, 1) := by decide +kernel
theorem dX9_serves_1 : decode cX9_serves 1 = .ok (.getfield 646, 3) := by decide +kernel
theorem dX9_serves_4 : decode cX9_serves 4 = .ok (.ifCond .eq 27, 3) := by decide +kernel
theorem dX9_serves_7 : decode cX9_serves 7 = .ok (.aload_n 0, 1) := by decide +kernel
theorem dX9_serves_8 : decode cX9_serves 8 = .ok (.getfield 649, 3) := by decide +kernel
theorem dX9_serves_11 : decode cX9_serves 11 = .ok (.bipush 30, 2) := by decide +kernel
theorem dX9_serves_13 : decode cX9_serves 13 = .ok (.if_icmp .eq 18, 3) := by decide +kernel
theorem dX9_serves_16 : decode cX9_serves 16 = .ok (.iload_n 1, 1) := by decide +kernel
theorem dX9_serves_17 : decode cX9_serves 17 = .ok (.ifCond .lt 14, 3) := by decide +kernel
theorem dX9_serves_20 : decode cX9_serves 20 = .ok (.iload_n 1, 1) := by decide +kernel
theorem dX9_serves_21 : decode cX9_serves 21 = .ok (.iconst 4, 1) := by decide +kernel
theorem dX9_serves_22 : decode cX9_serves 22 = .ok (.aload_n 0, 1) := by decide +kernel
theorem dX9_serves_23 : decode cX9_serves 23 = .ok (.getfield 646, 3) := by decide +kernel
theorem dX9_serves_26 : decode cX9_serves 26 = .ok (.imul, 1) := by decide +kernel
theorem dX9_serves_27 : decode cX9_serves 27 = .ok (.ishr, 1) := by decide +kernel
theorem dX9_serves_28 : decode cX9_serves 28 = .ok (.ifCond .eq 5, 3) := by decide +kernel
theorem dX9_serves_31 : decode cX9_serves 31 = .ok (.iconst (-1), 1) := by decide +kernel
theorem dX9_serves_32 : decode cX9_serves 32 = .ok (.ireturn, 1) := by decide +kernel
theorem dX9_serves_33 : decode cX9_serves 33 = .ok (.iconst 0, 1) := by decide +kernel
theorem dX9_serves_34 : decode cX9_serves 34 = .ok (.istore_n 2, 1) := by decide +kernel
theorem dX9_serves_35 : decode cX9_serves 35 = .ok (.iconst 0, 1) := by decide +kernel
theorem dX9_serves_36 : decode cX9_serves 36 = .ok (.istore_n 3, 1) := by decide +kernel
theorem dX9_serves_37 : decode cX9_serves 37 = .ok (.iload_n 3, 1) := by decide +kernel
theorem dX9_serves_38 : decode cX9_serves 38 = .ok (.aload_n 0, 1) := by decide +kernel
theorem dX9_serves_39 : decode cX9_serves 39 = .ok (.getfield 646, 3) := by decide +kernel
theorem dX9_serves_42 : decode cX9_serves 42 = .ok (.if_icmp .ge 37, 3) := by decide +kernel
theorem dX9_serves_45 : decode cX9_serves 45 = .ok (.iload_n 1, 1) := by decide +kernel
