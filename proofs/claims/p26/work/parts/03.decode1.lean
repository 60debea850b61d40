theorem dX5_write_21 : decode cX5_write 21 = .ok (.iload_n 2, 1) := by decide +kernel
theorem dX5_write_22 : decode cX5_write 22 = .ok (.aload_n 0, 1) := by decide +kernel
theorem dX5_write_23 : decode cX5_write 23 = .ok (.getfield 15, 3) := by decide +kernel
theorem dX5_write_26 : decode cX5_write 26 = .ok (.iload_n 2, 1) := by decide +kernel
theorem dX5_write_27 : decode cX5_write 27 = .ok (.iaload, 1) := by decide +kernel
theorem dX5_write_28 : decode cX5_write 28 = .ok (.iload_n 3, 1) := by decide +kernel
theorem dX5_write_29 : decode cX5_write 29 = .ok (.invokestatic 75, 3) := by decide +kernel
theorem dX5_write_32 : decode cX5_write 32 = .ok (.iastore, 1) := by decide +kernel
theorem dX5_write_33 : decode cX5_write 33 = .ok (.aload_n 0, 1) := by decide +kernel
theorem dX5_write_34 : decode cX5_write 34 = .ok (.getfield 18, 3) := by decide +kernel
theorem dX5_write_37 : decode cX5_write 37 = .ok (.iload_n 2, 1) := by decide +kernel
theorem dX5_write_38 : decode cX5_write 38 = .ok (.aload_n 0, 1) := by decide +kernel
theorem dX5_write_39 : decode cX5_write 39 = .ok (.getfield 18, 3) := by decide +kernel
theorem dX5_write_42 : decode cX5_write 42 = .ok (.iload_n 2, 1) := by decide +kernel
theorem dX5_write_43 : decode cX5_write 43 = .ok (.iaload, 1) := by decide +kernel
theorem dX5_write_44 : decode cX5_write 44 = .ok (.iload_n 3, 1) := by decide +kernel
theorem dX5_write_45 : decode cX5_write 45 = .ok (.invokestatic 81, 3) := by decide +kernel
theorem dX5_write_48 : decode cX5_write 48 = .ok (.iastore, 1) := by decide +kernel
theorem dX5_write_49 : decode cX5_write 49 = .ok (.return_, 1) := by decide +kernel
theorem dX5_cell_0 : decode cX5_cell 0 = .ok (.iload_n 0, 1) := by decide +kernel
theorem dX5_cell_1 : decode cX5_cell 1 = .ok (.bipush 10, 2) := by decide +kernel
theorem dX5_cell_3 : decode cX5_cell 3 = .ok (.imul, 1) := by decide +kernel
theorem dX5_cell_4 : decode cX5_cell 4 = .ok (.iload_n 1, 1) := by decide +kernel
theorem dX5_cell_5 : decode cX5_cell 5 = .ok (.iadd, 1) := by decide +kernel
theorem dX5_cell_6 : decode cX5_cell 6 = .ok (.bipush 6, 2) := by decide +kernel
theorem dX5_cell_8 : decode cX5_cell 8 = .ok (.imul, 1) := by decide +kernel
theorem dX5_cell_9 : decode cX5_cell 9 = .ok (.iload_n 2, 1) := by decide +kernel
theorem dX5_cell_10 : decode cX5_cell 10 = .ok (.iadd, 1) := by decide +kernel
theorem dX5_cell_11 : decode cX5_cell 11 = .ok (.ireturn, 1) := by decide +kernel
theorem dX5_scaled_0 : decode cX5_scaled 0 = .ok (.aload_n 0, 1) := by decide +kernel
theorem dX5_scaled_1 : decode cX5_scaled 1 = .ok (.getfield 9, 3) := by decide +kernel
theorem dX5_scaled_4 : decode cX5_scaled 4 = .ok (.iload_n 1, 1) := by decide +kernel
theorem dX5_scaled_5 : decode cX5_scaled 5 = .ok (.iload_n 2, 1) := by decide +kernel
theorem dX5_scaled_6 : decode cX5_scaled 6 = .ok (.iload_n 3, 1) := by decide +kernel
theorem dX5_scaled_7 : decode cX5_scaled 7 = .ok (.invokestatic 56, 3) := by decide +kernel
theorem dX5_scaled_10 : decode cX5_scaled 10 = .ok (.iaload, 1) := by decide +kernel
theorem dX5_scaled_11 : decode cX5_scaled 11 = .ok (.istore 4, 2) := by decide +kernel
theorem dX5_scaled_13 : decode cX5_scaled 13 = .ok (.iload 4, 2) := by decide +kernel
theorem dX5_scaled_15 : decode cX5_scaled 15 = .ok (.iconst (-1), 1) := by decide +kernel
theorem dX5_scaled_16 : decode cX5_scaled 16 = .ok (.if_icmp .ne 5, 3) := by decide +kernel
theorem dX5_scaled_19 : decode cX5_scaled 19 = .ok (.iconst (-1), 1) := by decide +kernel
theorem dX5_scaled_20 : decode cX5_scaled 20 = .ok (.ireturn, 1) := by decide +kernel
theorem dX5_scaled_21 : decode cX5_scaled 21 = .ok (.aload_n 0, 1) := by decide +kernel
theorem dX5_scaled_22 : decode cX5_scaled 22 = .ok (.getfield 34, 3) := by decide +kernel
theorem dX5_scaled_25 : decode cX5_scaled 25 = .ok (.ifCond .ne 9, 3) := by decide +kernel
theorem dX5_scaled_28 : decode cX5_scaled 28 = .ok (.bipush 10, 2) := by decide +kernel
theorem dX5_scaled_30 : decode cX5_scaled 30 = .ok (.iload 4, 2) := by decide +kernel
theorem dX5_scaled_32 : decode cX5_scaled 32 = .ok (.imul, 1) := by decide +kernel
theorem dX5_scaled_33 : decode cX5_scaled 33 = .ok (.ireturn, 1) := by decide +kernel
theorem dX5_scaled_34 : decode cX5_scaled 34 = .ok (.aload_n 0, 1) := by decide +kernel
theorem dX5_scaled_35 : decode cX5_scaled 35 = .ok (.getfield 18, 3) := by decide +kernel
theorem dX5_scaled_38 : decode cX5_scaled 38 = .ok (.iload_n 1, 1) := by decide +kernel
theorem dX5_scaled_39 : decode cX5_scaled 39 = .ok (.iaload, 1) := by decide +kernel
theorem dX5_scaled_40 : decode cX5_scaled 40 = .ok (.aload_n 0, 1) := by decide +kernel
theorem dX5_scaled_41 : decode cX5_scaled 41 = .ok (.getfield 15, 3) := by decide +kernel
theorem dX5_scaled_44 : decode cX5_scaled 44 = .ok (.iload_n 1, 1) := by decide +kernel
theorem dX5_scaled_45 : decode cX5_scaled 45 = .ok (.iaload, 1) := by decide +kernel
theorem dX5_scaled_46 : decode cX5_scaled 46 = .ok (.isub, 1) := by decide +kernel
theorem dX5_scaled_47 : decode cX5_scaled 47 = .ok (.istore 5, 2) := by decide +kernel
theorem dX5_scaled_49 : decode cX5_scaled 49 = .ok (.iload 5, 2) := by decide +kernel
theorem dX5_scaled_51 : decode cX5_scaled 51 = .ok (.ifCond .gt 9, 3) := by decide +kernel
theorem dX5_scaled_54 : decode cX5_scaled 54 = .ok (.sipush 500, 3) := by decide +kernel
theorem dX5_scaled_57 : decode cX5_scaled 57 = .ok (.goto 19, 3) := by decide +kernel
theorem dX5_scaled_60 : decode cX5_scaled 60 = .ok (.sipush 1000, 3) := by decide +kernel
theorem dX5_scaled_63 : decode cX5_scaled 63 = .ok (.iload 4, 2) := by decide +kernel
theorem dX5_scaled_65 : decode cX5_scaled 65 = .ok (.aload_n 0, 1) := by decide +kernel
theorem dX5_scaled_66 : decode cX5_scaled 66 = .ok (.getfield 15, 3) := by decide +kernel
theorem dX5_scaled_69 : decode cX5_scaled 69 = .ok (.iload_n 1, 1) := by decide +kernel
theorem dX5_scaled_70 : decode cX5_scaled 70 = .ok (.iaload, 1) := by decide +kernel
theorem dX5_scaled_71 : decode cX5_scaled 71 = .ok (.isub, 1) := by decide +kernel
theorem dX5_scaled_72 : decode cX5_scaled 72 = .ok (.imul, 1) := by decide +kernel
theorem dX5_scaled_73 : decode cX5_scaled 73 = .ok (.iload 5, 2) := by decide +kernel
theorem dX5_scaled_75 : decode cX5_scaled 75 = .ok (.idiv, 1) := by decide +kernel
theorem dX5_scaled_76 : decode cX5_scaled 76 = .ok (.ireturn, 1) := by decide +kernel
theorem dX5_findDrifts_0 : decode cX5_findDrifts 0 = .ok (.aload_n 0, 1) := by decide +kernel
theorem dX5_findDrifts_1 : decode cX5_findDrifts 1 = .ok (.getfield 21, 3) := by decide +kernel
theorem dX5_findDrifts_4 : decode cX5_findDrifts 4 = .ok (.iconst 0, 1) := by decide +kernel
theorem dX5_findDrifts_5 : decode cX5_findDrifts 5 = .ok (.invokestatic 35, 3) := by decide +kernel
theorem dX5_findDrifts_8 : decode cX5_findDrifts 8 = .ok (.iconst 0, 1) := by decide +kernel
theorem dX5_findDrifts_9 : decode cX5_findDrifts 9 = .ok (.istore_n 2, 1) := by decide +kernel
theorem dX5_findDrifts_10 : decode cX5_findDrifts 10 = .ok (.iconst 0, 1) := by decide +kernel
theorem dX5_findDrifts_11 : decode cX5_findDrifts 11 = .ok (.istore_n 3, 1) := by decide +kernel
theorem dX5_findDrifts_12 : decode cX5_findDrifts 12 = .ok (.iconst 0, 1) := by decide +kernel
theorem dX5_findDrifts_13 : decode cX5_findDrifts 13 = .ok (.istore 4, 2) := by decide +kernel
theorem dX5_findDrifts_15 : decode cX5_findDrifts 15 = .ok (.iload 4, 2) := by decide +kernel
theorem dX5_findDrifts_17 : decode cX5_findDrifts 17 = .ok (.bipush 10, 2) := by decide +kernel
theorem dX5_findDrifts_19 : decode cX5_findDrifts 19 = .ok (.if_icmp .ge 66, 3) := by decide +kernel
theorem dX5_findDrifts_22 : decode cX5_findDrifts 22 = .ok (.iload_n 1, 1) := by decide +kernel
theorem dX5_findDrifts_23 : decode cX5_findDrifts 23 = .ok (.iconst (-1), 1) := by decide +kernel
theorem dX5_findDrifts_24 : decode cX5_findDrifts 24 = .ok (.if_icmp .eq 61, 3) := by decide +kernel
theorem dX5_findDrifts_27 : decode cX5_findDrifts 27 = .ok (.aload_n 0, 1) := by decide +kernel
theorem dX5_findDrifts_28 : decode cX5_findDrifts 28 = .ok (.iload 4, 2) := by decide +kernel
theorem dX5_findDrifts_30 : decode cX5_findDrifts 30 = .ok (.iload_n 1, 1) := by decide +kernel
theorem dX5_findDrifts_31 : decode cX5_findDrifts 31 = .ok (.invokevirtual 84, 3) := by decide +kernel
theorem dX5_findDrifts_34 : decode cX5_findDrifts 34 = .ok (.istore 5, 2) := by decide +kernel
theorem dX5_findDrifts_36 : decode cX5_findDrifts 36 = .ok (.iload 5, 2) := by decide +kernel
theorem dX5_findDrifts_38 : decode cX5_findDrifts 38 = .ok (.ifCond .le 41, 3) := by decide +kernel
theorem dX5_findDrifts_41 : decode cX5_findDrifts 41 = .ok (.aload_n 0, 1) := by decide +kernel
theorem dX5_findDrifts_42 : decode cX5_findDrifts 42 = .ok (.iload 4, 2) := by decide +kernel
theorem dX5_findDrifts_44 : decode cX5_findDrifts 44 = .ok (.iload_n 1, 1) := by decide +kernel
theorem dX5_findDrifts_45 : decode cX5_findDrifts 45 = .ok (.invokevirtual 87, 3) := by decide +kernel
theorem dX5_findDrifts_48 : decode cX5_findDrifts 48 = .ok (.iload 5, 2) := by decide +kernel
theorem dX5_findDrifts_50 : decode cX5_findDrifts 50 = .ok (.invokestatic 90, 3) := by decide +kernel
theorem dX5_findDrifts_53 : decode cX5_findDrifts 53 = .ok (.istore 6, 2) := by decide +kernel
theorem dX5_findDrifts_55 : decode cX5_findDrifts 55 = .ok (.iload_n 2, 1) := by decide +kernel
theorem dX5_findDrifts_56 : decode cX5_findDrifts 56 = .ok (.ifCond .eq 7, 3) := by decide +kernel
theorem dX5_findDrifts_59 : decode cX5_findDrifts 59 = .ok (.iload_n 3, 1) := by decide +kernel
theorem dX5_findDrifts_60 : decode cX5_findDrifts 60 = .ok (.goto 5, 3) := by decide +kernel
theorem dX5_findDrifts_63 : decode cX5_findDrifts 63 = .ok (.iload 6, 2) := by decide +kernel
theorem dX5_findDrifts_65 : decode cX5_findDrifts 65 = .ok (.istore_n 3, 1) := by decide +kernel
theorem dX5_findDrifts_66 : decode cX5_findDrifts 66 = .ok (.iconst 1, 1) := by decide +kernel
theorem dX5_findDrifts_67 : decode cX5_findDrifts 67 = .ok (.istore_n 2, 1) := by decide +kernel
theorem dX5_findDrifts_68 : decode cX5_findDrifts 68 = .ok (.aload_n 0, 1) := by decide +kernel
theorem dX5_findDrifts_69 : decode cX5_findDrifts 69 = .ok (.getfield 21, 3) := by decide +kernel
theorem dX5_findDrifts_72 : decode cX5_findDrifts 72 = .ok (.iload 4, 2) := by decide +kernel
theorem dX5_findDrifts_74 : decode cX5_findDrifts 74 = .ok (.iload 6, 2) := by decide +kernel
theorem dX5_findDrifts_76 : decode cX5_findDrifts 76 = .ok (.iload_n 3, 1) := by decide +kernel
theorem dX5_findDrifts_77 : decode cX5_findDrifts 77 = .ok (.isub, 1) := by decide +kernel
theorem dX5_findDrifts_78 : decode cX5_findDrifts 78 = .ok (.iastore, 1) := by decide +kernel
theorem dX5_findDrifts_79 : decode cX5_findDrifts 79 = .ok (.iinc 4 1, 3) := by decide +kernel
theorem dX5_findDrifts_82 : decode cX5_findDrifts 82 = .ok (.goto (-67), 3) := by decide +kernel
theorem dX5_findDrifts_85 : decode cX5_findDrifts 85 = .ok (.return_, 1) := by decide +kernel
theorem dX5_countIn_0 : decode cX5_countIn 0 = .ok (.iconst 0, 1) := by decide +kernel
theorem dX5_countIn_1 : decode cX5_countIn 1 = .ok (.istore_n 3, 1) := by decide +kernel
theorem dX5_countIn_2 : decode cX5_countIn 2 = .ok (.iconst 0, 1) := by decide +kernel
theorem dX5_countIn_3 : decode cX5_countIn 3 = .ok (.istore 4, 2) := by decide +kernel
theorem dX5_countIn_5 : decode cX5_countIn 5 = .ok (.iload 4, 2) := by decide +kernel
theorem dX5_countIn_7 : decode cX5_countIn 7 = .ok (.bipush 30, 2) := by decide +kernel
theorem dX5_countIn_9 : decode cX5_countIn 9 = .ok (.if_icmp .ge 24, 3) := by decide +kernel
theorem dX5_countIn_12 : decode cX5_countIn 12 = .ok (.aload_n 0, 1) := by decide +kernel
theorem dX5_countIn_13 : decode cX5_countIn 13 = .ok (.iload 4, 2) := by decide +kernel
theorem dX5_countIn_15 : decode cX5_countIn 15 = .ok (.iload_n 1, 1) := by decide +kernel
theorem dX5_countIn_16 : decode cX5_countIn 16 = .ok (.iload_n 2, 1) := by decide +kernel
theorem dX5_countIn_17 : decode cX5_countIn 17 = .ok (.invokevirtual 93, 3) := by decide +kernel
theorem dX5_countIn_20 : decode cX5_countIn 20 = .ok (.iconst (-1), 1) := by decide +kernel
theorem dX5_countIn_21 : decode cX5_countIn 21 = .ok (.if_icmp .eq 6, 3) := by decide +kernel
theorem dX5_countIn_24 : decode cX5_countIn 24 = .ok (.iinc 3 1, 3) := by decide +kernel
theorem dX5_countIn_27 : decode cX5_countIn 27 = .ok (.iinc 4 1, 3) := by decide +kernel
theorem dX5_countIn_30 : decode cX5_countIn 30 = .ok (.goto (-25), 3) := by decide +kernel
theorem dX5_countIn_33 : decode cX5_countIn 33 = .ok (.iload_n 3, 1) := by decide +kernel
theorem dX5_countIn_34 : decode cX5_countIn 34 = .ok (.ireturn, 1) := by decide +kernel
theorem dX5_sumIn_0 : decode cX5_sumIn 0 = .ok (.iconst 0, 1) := by decide +kernel
theorem dX5_sumIn_1 : decode cX5_sumIn 1 = .ok (.istore_n 3, 1) := by decide +kernel
theorem dX5_sumIn_2 : decode cX5_sumIn 2 = .ok (.iconst 0, 1) := by decide +kernel
theorem dX5_sumIn_3 : decode cX5_sumIn 3 = .ok (.istore 4, 2) := by decide +kernel
theorem dX5_sumIn_5 : decode cX5_sumIn 5 = .ok (.iload 4, 2) := by decide +kernel
theorem dX5_sumIn_7 : decode cX5_sumIn 7 = .ok (.bipush 30, 2) := by decide +kernel
theorem dX5_sumIn_9 : decode cX5_sumIn 9 = .ok (.if_icmp .ge 34, 3) := by decide +kernel
theorem dX5_sumIn_12 : decode cX5_sumIn 12 = .ok (.aload_n 0, 1) := by decide +kernel
theorem dX5_sumIn_13 : decode cX5_sumIn 13 = .ok (.iload 4, 2) := by decide +kernel
theorem dX5_sumIn_15 : decode cX5_sumIn 15 = .ok (.iload_n 1, 1) := by decide +kernel
theorem dX5_sumIn_16 : decode cX5_sumIn 16 = .ok (.iload_n 2, 1) := by decide +kernel
theorem dX5_sumIn_17 : decode cX5_sumIn 17 = .ok (.invokevirtual 93, 3) := by decide +kernel
theorem dX5_sumIn_20 : decode cX5_sumIn 20 = .ok (.istore 5, 2) := by decide +kernel
theorem dX5_sumIn_22 : decode cX5_sumIn 22 = .ok (.iload_n 3, 1) := by decide +kernel
theorem dX5_sumIn_23 : decode cX5_sumIn 23 = .ok (.iload 5, 2) := by decide +kernel
theorem dX5_sumIn_25 : decode cX5_sumIn 25 = .ok (.iconst (-1), 1) := by decide +kernel
theorem dX5_sumIn_26 : decode cX5_sumIn 26 = .ok (.if_icmp .ne 7, 3) := by decide +kernel
theorem dX5_sumIn_29 : decode cX5_sumIn 29 = .ok (.iconst 0, 1) := by decide +kernel
theorem dX5_sumIn_30 : decode cX5_sumIn 30 = .ok (.goto 5, 3) := by decide +kernel
theorem dX5_sumIn_33 : decode cX5_sumIn 33 = .ok (.iload 5, 2) := by decide +kernel
theorem dX5_sumIn_35 : decode cX5_sumIn 35 = .ok (.iadd, 1) := by decide +kernel
theorem dX5_sumIn_36 : decode cX5_sumIn 36 = .ok (.istore_n 3, 1) := by decide +kernel
theorem dX5_sumIn_37 : decode cX5_sumIn 37 = .ok (.iinc 4 1, 3) := by decide +kernel
theorem dX5_sumIn_40 : decode cX5_sumIn 40 = .ok (.goto (-35), 3) := by decide +kernel
theorem dX5_sumIn_43 : decode cX5_sumIn 43 = .ok (.iload_n 3, 1) := by decide +kernel
theorem dX5_sumIn_44 : decode cX5_sumIn 44 = .ok (.ireturn, 1) := by decide +kernel
theorem dX5_meanOf_0 : decode cX5_meanOf 0 = .ok (.iconst 0, 1) := by decide +kernel
theorem dX5_meanOf_1 : decode cX5_meanOf 1 = .ok (.istore_n 2, 1) := by decide +kernel
theorem dX5_meanOf_2 : decode cX5_meanOf 2 = .ok (.iconst 0, 1) := by decide +kernel
theorem dX5_meanOf_3 : decode cX5_meanOf 3 = .ok (.istore_n 3, 1) := by decide +kernel
theorem dX5_meanOf_4 : decode cX5_meanOf 4 = .ok (.iconst 0, 1) := by decide +kernel
theorem dX5_meanOf_5 : decode cX5_meanOf 5 = .ok (.istore 4, 2) := by decide +kernel
theorem dX5_meanOf_7 : decode cX5_meanOf 7 = .ok (.iload 4, 2) := by decide +kernel
theorem dX5_meanOf_9 : decode cX5_meanOf 9 = .ok (.bipush 10, 2) := by decide +kernel
theorem dX5_meanOf_11 : decode cX5_meanOf 11 = .ok (.if_icmp .ge 44, 3) := by decide +kernel
theorem dX5_meanOf_14 : decode cX5_meanOf 14 = .ok (.aload_n 0, 1) := by decide +kernel
theorem dX5_meanOf_15 : decode cX5_meanOf 15 = .ok (.iload 4, 2) := by decide +kernel
theorem dX5_meanOf_17 : decode cX5_meanOf 17 = .ok (.iload_n 1, 1) := by decide +kernel
theorem dX5_meanOf_18 : decode cX5_meanOf 18 = .ok (.invokevirtual 84, 3) := by decide +kernel
theorem dX5_meanOf_21 : decode cX5_meanOf 21 = .ok (.istore 5, 2) := by decide +kernel
theorem dX5_meanOf_23 : decode cX5_meanOf 23 = .ok (.iload_n 2, 1) := by decide +kernel
theorem dX5_meanOf_24 : decode cX5_meanOf 24 = .ok (.iload 5, 2) := by decide +kernel
theorem dX5_meanOf_26 : decode cX5_meanOf 26 = .ok (.iadd, 1) := by decide +kernel
theorem dX5_meanOf_27 : decode cX5_meanOf 27 = .ok (.istore_n 2, 1) := by decide +kernel
theorem dX5_meanOf_28 : decode cX5_meanOf 28 = .ok (.iload_n 3, 1) := by decide +kernel
theorem dX5_meanOf_29 : decode cX5_meanOf 29 = .ok (.aload_n 0, 1) := by decide +kernel
theorem dX5_meanOf_30 : decode cX5_meanOf 30 = .ok (.iload 4, 2) := by decide +kernel
theorem dX5_meanOf_32 : decode cX5_meanOf 32 = .ok (.iload_n 1, 1) := by decide +kernel
theorem dX5_meanOf_33 : decode cX5_meanOf 33 = .ok (.invokevirtual 87, 3) := by decide +kernel
theorem dX5_meanOf_36 : decode cX5_meanOf 36 = .ok (.iload 5, 2) := by decide +kernel
theorem dX5_meanOf_38 : decode cX5_meanOf 38 = .ok (.aload_n 0, 1) := by decide +kernel
theorem dX5_meanOf_39 : decode cX5_meanOf 39 = .ok (.getfield 21, 3) := by decide +kernel
theorem dX5_meanOf_42 : decode cX5_meanOf 42 = .ok (.iload 4, 2) := by decide +kernel
theorem dX5_meanOf_44 : decode cX5_meanOf 44 = .ok (.iaload, 1) := by decide +kernel
theorem dX5_meanOf_45 : decode cX5_meanOf 45 = .ok (.imul, 1) := by decide +kernel
theorem dX5_meanOf_46 : decode cX5_meanOf 46 = .ok (.isub, 1) := by decide +kernel
theorem dX5_meanOf_47 : decode cX5_meanOf 47 = .ok (.iadd, 1) := by decide +kernel
theorem dX5_meanOf_48 : decode cX5_meanOf 48 = .ok (.istore_n 3, 1) := by decide +kernel
theorem dX5_meanOf_49 : decode cX5_meanOf 49 = .ok (.iinc 4 1, 3) := by decide +kernel
theorem dX5_meanOf_52 : decode cX5_meanOf 52 = .ok (.goto (-45), 3) := by decide +kernel
theorem dX5_meanOf_55 : decode cX5_meanOf 55 = .ok (.iload_n 2, 1) := by decide +kernel
theorem dX5_meanOf_56 : decode cX5_meanOf 56 = .ok (.iconst 1, 1) := by decide +kernel
theorem dX5_meanOf_57 : decode cX5_meanOf 57 = .ok (.if_icmp .ge 8, 3) := by decide +kernel
theorem dX5_meanOf_60 : decode cX5_meanOf 60 = .ok (.ldc 96, 2) := by decide +kernel
theorem dX5_meanOf_62 : decode cX5_meanOf 62 = .ok (.goto 8, 3) := by decide +kernel
theorem dX5_meanOf_65 : decode cX5_meanOf 65 = .ok (.iload_n 3, 1) := by decide +kernel
theorem dX5_meanOf_66 : decode cX5_meanOf 66 = .ok (.iload_n 2, 1) := by decide +kernel
theorem dX5_meanOf_67 : decode cX5_meanOf 67 = .ok (.invokestatic 90, 3) := by decide +kernel
theorem dX5_meanOf_70 : decode cX5_meanOf 70 = .ok (.ireturn, 1) := by decide +kernel
theorem dX6_init_0 : decode cX6_init 0 = .ok (.aload_n 0, 1) := by decide +kernel
theorem dX6_init_1 : decode cX6_init 1 = .ok (.invokespecial 3, 3) := by decide +kernel
theorem dX6_init_4 : decode cX6_init 4 = .ok (.aload_n 0, 1) := by decide +kernel
theorem dX6_init_5 : decode cX6_init 5 = .ok (.sipush 150, 3) := by decide +kernel
theorem dX6_init_8 : decode cX6_init 8 = .ok (.newarray .int, 2) := by decide +kernel
theorem dX6_init_10 : decode cX6_init 10 = .ok (.putfield 11, 3) := by decide +kernel
theorem dX6_init_13 : decode cX6_init 13 = .ok (.aload_n 0, 1) := by decide +kernel
theorem dX6_init_14 : decode cX6_init 14 = .ok (.bipush 25, 2) := by decide +kernel
theorem dX6_init_16 : decode cX6_init 16 = .ok (.newarray .int, 2) := by decide +kernel
theorem dX6_init_18 : decode cX6_init 18 = .ok (.putfield 15, 3) := by decide +kernel
theorem dX6_init_21 : decode cX6_init 21 = .ok (.aload_n 0, 1) := by decide +kernel
theorem dX6_init_22 : decode cX6_init 22 = .ok (.bipush 25, 2) := by decide +kernel
theorem dX6_init_24 : decode cX6_init 24 = .ok (.newarray .int, 2) := by decide +kernel
theorem dX6_init_26 : decode cX6_init 26 = .ok (.putfield 18, 3) := by decide +kernel
theorem dX6_init_29 : decode cX6_init 29 = .ok (.aload_n 0, 1) := by decide +kernel
theorem dX6_init_30 : decode cX6_init 30 = .ok (.iconst 5, 1) := by decide +kernel
theorem dX6_init_31 : decode cX6_init 31 = .ok (.newarray .int, 2) := by decide +kernel
theorem dX6_init_33 : decode cX6_init 33 = .ok (.putfield 21, 3) := by decide +kernel
theorem dX6_init_36 : decode cX6_init 36 = .ok (.aload_n 0, 1) := by decide +kernel
theorem dX6_init_37 : decode cX6_init 37 = .ok (.iconst 5, 1) := by decide +kernel
theorem dX6_init_38 : decode cX6_init 38 = .ok (.newarray .int, 2) := by decide +kernel
theorem dX6_init_40 : decode cX6_init 40 = .ok (.putfield 24, 3) := by decide +kernel
theorem dX6_init_43 : decode cX6_init 43 = .ok (.return_, 1) := by decide +kernel
theorem dX6_lay_0 : decode cX6_lay 0 = .ok (.aload_n 0, 1) := by decide +kernel
theorem dX6_lay_1 : decode cX6_lay 1 = .ok (.iload_n 1, 1) := by decide +kernel
theorem dX6_lay_2 : decode cX6_lay 2 = .ok (.putfield 27, 3) := by decide +kernel
theorem dX6_lay_5 : decode cX6_lay 5 = .ok (.aload_n 0, 1) := by decide +kernel
theorem dX6_lay_6 : decode cX6_lay 6 = .ok (.iconst 0, 1) := by decide +kernel
theorem dX6_lay_7 : decode cX6_lay 7 = .ok (.putfield 31, 3) := by decide +kernel
theorem dX6_lay_10 : decode cX6_lay 10 = .ok (.aload_n 0, 1) := by decide +kernel
theorem dX6_lay_11 : decode cX6_lay 11 = .ok (.getfield 15, 3) := by decide +kernel
theorem dX6_lay_14 : decode cX6_lay 14 = .ok (.iconst 0, 1) := by decide +kernel
theorem dX6_lay_15 : decode cX6_lay 15 = .ok (.invokestatic 34, 3) := by decide +kernel
theorem dX6_lay_18 : decode cX6_lay 18 = .ok (.aload_n 0, 1) := by decide +kernel
theorem dX6_lay_19 : decode cX6_lay 19 = .ok (.getfield 18, 3) := by decide +kernel
theorem dX6_lay_22 : decode cX6_lay 22 = .ok (.iconst 0, 1) := by decide +kernel
theorem dX6_lay_23 : decode cX6_lay 23 = .ok (.invokestatic 34, 3) := by decide +kernel
theorem dX6_lay_26 : decode cX6_lay 26 = .ok (.iconst 0, 1) := by decide +kernel
theorem dX6_lay_27 : decode cX6_lay 27 = .ok (.istore_n 3, 1) := by decide +kernel
theorem dX6_lay_28 : decode cX6_lay 28 = .ok (.iload_n 3, 1) := by decide +kernel
theorem dX6_lay_29 : decode cX6_lay 29 = .ok (.iload_n 2, 1) := by decide +kernel
theorem dX6_lay_30 : decode cX6_lay 30 = .ok (.if_icmp .ge 21, 3) := by decide +kernel
theorem dX6_lay_33 : decode cX6_lay 33 = .ok (.aload_n 0, 1) := by decide +kernel
theorem dX6_lay_34 : decode cX6_lay 34 = .ok (.invokevirtual 40, 3) := by decide +kernel
theorem dX6_lay_37 : decode cX6_lay 37 = .ok (.aload_n 0, 1) := by decide +kernel
theorem dX6_lay_38 : decode cX6_lay 38 = .ok (.aload_n 0, 1) := by decide +kernel
theorem dX6_lay_39 : decode cX6_lay 39 = .ok (.getfield 24, 3) := by decide +kernel
theorem dX6_lay_42 : decode cX6_lay 42 = .ok (.invokevirtual 43, 3) := by decide +kernel
theorem dX6_lay_45 : decode cX6_lay 45 = .ok (.iinc 3 1, 3) := by decide +kernel
theorem dX6_lay_48 : decode cX6_lay 48 = .ok (.goto (-20), 3) := by decide +kernel
theorem dX6_lay_51 : decode cX6_lay 51 = .ok (.aload_n 0, 1) := by decide +kernel
theorem dX6_lay_52 : decode cX6_lay 52 = .ok (.invokevirtual 47, 3) := by decide +kernel
theorem dX6_lay_55 : decode cX6_lay 55 = .ok (.ireturn, 1) := by decide +kernel
theorem dX6_layByHand_0 : decode cX6_layByHand 0 = .ok (.iconst 0, 1) := by decide +kernel
theorem dX6_layByHand_1 : decode cX6_layByHand 1 = .ok (.istore_n 2, 1) := by decide +kernel
theorem dX6_layByHand_2 : decode cX6_layByHand 2 = .ok (.iconst 0, 1) := by decide +kernel
theorem dX6_layByHand_3 : decode cX6_layByHand 3 = .ok (.istore_n 3, 1) := by decide +kernel
theorem dX6_layByHand_4 : decode cX6_layByHand 4 = .ok (.iload_n 3, 1) := by decide +kernel
theorem dX6_layByHand_5 : decode cX6_layByHand 5 = .ok (.aload_n 0, 1) := by decide +kernel
theorem dX6_layByHand_6 : decode cX6_layByHand 6 = .ok (.getfield 27, 3) := by decide +kernel
theorem dX6_layByHand_9 : decode cX6_layByHand 9 = .ok (.if_icmp .ge 34, 3) := by decide +kernel
theorem dX6_layByHand_12 : decode cX6_layByHand 12 = .ok (.aload_n 0, 1) := by decide +kernel
theorem dX6_layByHand_13 : decode cX6_layByHand 13 = .ok (.getfield 21, 3) := by decide +kernel
theorem dX6_layByHand_16 : decode cX6_layByHand 16 = .ok (.iload_n 3, 1) := by decide +kernel
theorem dX6_layByHand_17 : decode cX6_layByHand 17 = .ok (.iload_n 1, 1) := by decide +kernel
theorem dX6_layByHand_18 : decode cX6_layByHand 18 = .ok (.iconst 4, 1) := by decide +kernel
theorem dX6_layByHand_19 : decode cX6_layByHand 19 = .ok (.iload_n 3, 1) := by decide +kernel
theorem dX6_layByHand_20 : decode cX6_layByHand 20 = .ok (.imul, 1) := by decide +kernel
theorem dX6_layByHand_21 : decode cX6_layByHand 21 = .ok (.iushr, 1) := by decide +kernel
theorem dX6_layByHand_22 : decode cX6_layByHand 22 = .ok (.bipush 15, 2) := by decide +kernel
theorem dX6_layByHand_24 : decode cX6_layByHand 24 = .ok (.iand, 1) := by decide +kernel
theorem dX6_layByHand_25 : decode cX6_layByHand 25 = .ok (.iastore, 1) := by decide +kernel
theorem dX6_layByHand_26 : decode cX6_layByHand 26 = .ok (.iload_n 2, 1) := by decide +kernel
theorem dX6_layByHand_27 : decode cX6_layByHand 27 = .ok (.iconst 1, 1) := by decide +kernel
theorem dX6_layByHand_28 : decode cX6_layByHand 28 = .ok (.aload_n 0, 1) := by decide +kernel
theorem dX6_layByHand_29 : decode cX6_layByHand 29 = .ok (.getfield 21, 3) := by decide +kernel
theorem dX6_layByHand_32 : decode cX6_layByHand 32 = .ok (.iload_n 3, 1) := by decide +kernel
theorem dX6_layByHand_33 : decode cX6_layByHand 33 = .ok (.iaload, 1) := by decide +kernel
theorem dX6_layByHand_34 : decode cX6_layByHand 34 = .ok (.ishl, 1) := by decide +kernel
theorem dX6_layByHand_35 : decode cX6_layByHand 35 = .ok (.ior, 1) := by decide +kernel
theorem dX6_layByHand_36 : decode cX6_layByHand 36 = .ok (.istore_n 2, 1) := by decide +kernel
theorem dX6_layByHand_37 : decode cX6_layByHand 37 = .ok (.iinc 3 1, 3) := by decide +kernel
theorem dX6_layByHand_40 : decode cX6_layByHand 40 = .ok (.goto (-36), 3) := by decide +kernel
theorem dX6_layByHand_43 : decode cX6_layByHand 43 = .ok (.iload_n 1, 1) := by decide +kernel
theorem dX6_layByHand_44 : decode cX6_layByHand 44 = .ok (.iconst 4, 1) := by decide +kernel
theorem dX6_layByHand_45 : decode cX6_layByHand 45 = .ok (.aload_n 0, 1) := by decide +kernel
theorem dX6_layByHand_46 : decode cX6_layByHand 46 = .ok (.getfield 27, 3) := by decide +kernel
theorem dX6_layByHand_49 : decode cX6_layByHand 49 = .ok (.imul, 1) := by decide +kernel
theorem dX6_layByHand_50 : decode cX6_layByHand 50 = .ok (.iushr, 1) := by decide +kernel
theorem dX6_layByHand_51 : decode cX6_layByHand 51 = .ok (.ifCond .ne 15, 3) := by decide +kernel
theorem dX6_layByHand_54 : decode cX6_layByHand 54 = .ok (.iload_n 2, 1) := by decide +kernel
theorem dX6_layByHand_55 : decode cX6_layByHand 55 = .ok (.iconst 1, 1) := by decide +kernel
theorem dX6_layByHand_56 : decode cX6_layByHand 56 = .ok (.aload_n 0, 1) := by decide +kernel
theorem dX6_layByHand_57 : decode cX6_layByHand 57 = .ok (.getfield 27, 3) := by decide +kernel
theorem dX6_layByHand_60 : decode cX6_layByHand 60 = .ok (.ishl, 1) := by decide +kernel
theorem dX6_layByHand_61 : decode cX6_layByHand 61 = .ok (.iconst 1, 1) := by decide +kernel
theorem dX6_layByHand_62 : decode cX6_layByHand 62 = .ok (.isub, 1) := by decide +kernel
theorem dX6_layByHand_63 : decode cX6_layByHand 63 = .ok (.if_icmp .eq 5, 3) := by decide +kernel
theorem dX6_layByHand_66 : decode cX6_layByHand 66 = .ok (.iconst (-1), 1) := by decide +kernel
theorem dX6_layByHand_67 : decode cX6_layByHand 67 = .ok (.ireturn, 1) := by decide +kernel
theorem dX6_layByHand_68 : decode cX6_layByHand 68 = .ok (.aload_n 0, 1) := by decide +kernel
theorem dX6_layByHand_69 : decode cX6_layByHand 69 = .ok (.aload_n 0, 1) := by decide +kernel
theorem dX6_layByHand_70 : decode cX6_layByHand 70 = .ok (.getfield 21, 3) := by decide +kernel
theorem dX6_layByHand_73 : decode cX6_layByHand 73 = .ok (.invokevirtual 43, 3) := by decide +kernel
theorem dX6_layByHand_76 : decode cX6_layByHand 76 = .ok (.aload_n 0, 1) := by decide +kernel
theorem dX6_layByHand_77 : decode cX6_layByHand 77 = .ok (.invokevirtual 47, 3) := by decide +kernel
theorem dX6_layByHand_80 : decode cX6_layByHand 80 = .ok (.ireturn, 1) := by decide +kernel
theorem dX6_findBest_0 : decode cX6_findBest 0 = .ok (.iconst 0, 1) := by decide +kernel
theorem dX6_findBest_1 : decode cX6_findBest 1 = .ok (.istore_n 1, 1) := by decide +kernel
theorem dX6_findBest_2 : decode cX6_findBest 2 = .ok (.iload_n 1, 1) := by decide +kernel
theorem dX6_findBest_3 : decode cX6_findBest 3 = .ok (.aload_n 0, 1) := by decide +kernel
theorem dX6_findBest_4 : decode cX6_findBest 4 = .ok (.getfield 27, 3) := by decide +kernel
theorem dX6_findBest_7 : decode cX6_findBest 7 = .ok (.if_icmp .ge 16, 3) := by decide +kernel
theorem dX6_findBest_10 : decode cX6_findBest 10 = .ok (.aload_n 0, 1) := by decide +kernel
theorem dX6_findBest_11 : decode cX6_findBest 11 = .ok (.getfield 21, 3) := by decide +kernel
theorem dX6_findBest_14 : decode cX6_findBest 14 = .ok (.iload_n 1, 1) := by decide +kernel
theorem dX6_findBest_15 : decode cX6_findBest 15 = .ok (.iload_n 1, 1) := by decide +kernel
theorem dX6_findBest_16 : decode cX6_findBest 16 = .ok (.iastore, 1) := by decide +kernel
theorem dX6_findBest_17 : decode cX6_findBest 17 = .ok (.iinc 1 1, 3) := by decide +kernel
theorem dX6_findBest_20 : decode cX6_findBest 20 = .ok (.goto (-18), 3) := by decide +kernel
theorem dX6_findBest_23 : decode cX6_findBest 23 = .ok (.ldc 53, 2) := by decide +kernel
theorem dX6_findBest_25 : decode cX6_findBest 25 = .ok (.istore_n 1, 1) := by decide +kernel
theorem dX6_findBest_26 : decode cX6_findBest 26 = .ok (.iconst 1, 1) := by decide +kernel
theorem dX6_findBest_27 : decode cX6_findBest 27 = .ok (.istore_n 2, 1) := by decide +kernel
theorem dX6_findBest_28 : decode cX6_findBest 28 = .ok (.iconst 0, 1) := by decide +kernel
theorem dX6_findBest_29 : decode cX6_findBest 29 = .ok (.istore_n 3, 1) := by decide +kernel
theorem dX6_findBest_30 : decode cX6_findBest 30 = .ok (.iload_n 3, 1) := by decide +kernel
theorem dX6_findBest_31 : decode cX6_findBest 31 = .ok (.bipush 120, 2) := by decide +kernel
theorem dX6_findBest_33 : decode cX6_findBest 33 = .ok (.if_icmp .ge 47, 3) := by decide +kernel
theorem dX6_findBest_36 : decode cX6_findBest 36 = .ok (.iload_n 2, 1) := by decide +kernel
theorem dX6_findBest_37 : decode cX6_findBest 37 = .ok (.ifCond .eq 43, 3) := by decide +kernel
theorem dX6_findBest_40 : decode cX6_findBest 40 = .ok (.aload_n 0, 1) := by decide +kernel
theorem dX6_findBest_41 : decode cX6_findBest 41 = .ok (.invokevirtual 54, 3) := by decide +kernel
theorem dX6_findBest_44 : decode cX6_findBest 44 = .ok (.istore 4, 2) := by decide +kernel
theorem dX6_findBest_46 : decode cX6_findBest 46 = .ok (.iload 4, 2) := by decide +kernel
theorem dX6_findBest_48 : decode cX6_findBest 48 = .ok (.iload_n 1, 1) := by decide +kernel
theorem dX6_findBest_49 : decode cX6_findBest 49 = .ok (.if_icmp .ge 20, 3) := by decide +kernel
theorem dX6_findBest_52 : decode cX6_findBest 52 = .ok (.iload 4, 2) := by decide +kernel
theorem dX6_findBest_54 : decode cX6_findBest 54 = .ok (.istore_n 1, 1) := by decide +kernel
theorem dX6_findBest_55 : decode cX6_findBest 55 = .ok (.aload_n 0, 1) := by decide +kernel
theorem dX6_findBest_56 : decode cX6_findBest 56 = .ok (.getfield 21, 3) := by decide +kernel
theorem dX6_findBest_59 : decode cX6_findBest 59 = .ok (.iconst 0, 1) := by decide +kernel
theorem dX6_findBest_60 : decode cX6_findBest 60 = .ok (.aload_n 0, 1) := by decide +kernel
theorem dX6_findBest_61 : decode cX6_findBest 61 = .ok (.getfield 24, 3) := by decide +kernel
theorem dX6_findBest_64 : decode cX6_findBest 64 = .ok (.iconst 0, 1) := by decide +kernel
theorem dX6_findBest_65 : decode cX6_findBest 65 = .ok (.iconst 5, 1) := by decide +kernel
theorem dX6_findBest_66 : decode cX6_findBest 66 = .ok (.invokestatic 57, 3) := by decide +kernel
theorem dX6_findBest_69 : decode cX6_findBest 69 = .ok (.aload_n 0, 1) := by decide +kernel
theorem dX6_findBest_70 : decode cX6_findBest 70 = .ok (.invokevirtual 63, 3) := by decide +kernel
theorem dX6_findBest_73 : decode cX6_findBest 73 = .ok (.istore_n 2, 1) := by decide +kernel
theorem dX6_findBest_74 : decode cX6_findBest 74 = .ok (.iinc 3 1, 3) := by decide +kernel
theorem dX6_findBest_77 : decode cX6_findBest 77 = .ok (.goto (-47), 3) := by decide +kernel
theorem dX6_findBest_80 : decode cX6_findBest 80 = .ok (.return_, 1) := by decide +kernel
theorem dX6_sumOfCounts_0 : decode cX6_sumOfCounts 0 = .ok (.iconst 0, 1) := by decide +kernel
theorem dX6_sumOfCounts_1 : decode cX6_sumOfCounts 1 = .ok (.istore_n 1, 1) := by decide +kernel
theorem dX6_sumOfCounts_2 : decode cX6_sumOfCounts 2 = .ok (.iconst 0, 1) := by decide +kernel
theorem dX6_sumOfCounts_3 : decode cX6_sumOfCounts 3 = .ok (.istore_n 2, 1) := by decide +kernel
theorem dX6_sumOfCounts_4 : decode cX6_sumOfCounts 4 = .ok (.iload_n 2, 1) := by decide +kernel
theorem dX6_sumOfCounts_5 : decode cX6_sumOfCounts 5 = .ok (.aload_n 0, 1) := by decide +kernel
theorem dX6_sumOfCounts_6 : decode cX6_sumOfCounts 6 = .ok (.getfield 27, 3) := by decide +kernel
theorem dX6_sumOfCounts_9 : decode cX6_sumOfCounts 9 = .ok (.if_icmp .ge 56, 3) := by decide +kernel
theorem dX6_sumOfCounts_12 : decode cX6_sumOfCounts 12 = .ok (.iload_n 1, 1) := by decide +kernel
theorem dX6_sumOfCounts_13 : decode cX6_sumOfCounts 13 = .ok (.aload_n 0, 1) := by decide +kernel
theorem dX6_sumOfCounts_14 : decode cX6_sumOfCounts 14 = .ok (.getfield 15, 3) := by decide +kernel
theorem dX6_sumOfCounts_17 : decode cX6_sumOfCounts 17 = .ok (.aload_n 0, 1) := by decide +kernel
theorem dX6_sumOfCounts_18 : decode cX6_sumOfCounts 18 = .ok (.getfield 21, 3) := by decide +kernel
theorem dX6_sumOfCounts_21 : decode cX6_sumOfCounts 21 = .ok (.iload_n 2, 1) := by decide +kernel
theorem dX6_sumOfCounts_22 : decode cX6_sumOfCounts 22 = .ok (.iaload, 1) := by decide +kernel
theorem dX6_sumOfCounts_23 : decode cX6_sumOfCounts 23 = .ok (.iconst 5, 1) := by decide +kernel
theorem dX6_sumOfCounts_24 : decode cX6_sumOfCounts 24 = .ok (.imul, 1) := by decide +kernel
theorem dX6_sumOfCounts_25 : decode cX6_sumOfCounts 25 = .ok (.iload_n 2, 1) := by decide +kernel
theorem dX6_sumOfCounts_26 : decode cX6_sumOfCounts 26 = .ok (.iadd, 1) := by decide +kernel
theorem dX6_sumOfCounts_27 : decode cX6_sumOfCounts 27 = .ok (.iaload, 1) := by decide +kernel
theorem dX6_sumOfCounts_28 : decode cX6_sumOfCounts 28 = .ok (.iadd, 1) := by decide +kernel
theorem dX6_sumOfCounts_29 : decode cX6_sumOfCounts 29 = .ok (.istore_n 1, 1) := by decide +kernel
theorem dX6_sumOfCounts_30 : decode cX6_sumOfCounts 30 = .ok (.iload_n 2, 1) := by decide +kernel
theorem dX6_sumOfCounts_31 : decode cX6_sumOfCounts 31 = .ok (.ifCond .le 28, 3) := by decide +kernel
theorem dX6_sumOfCounts_34 : decode cX6_sumOfCounts 34 = .ok (.iload_n 1, 1) := by decide +kernel
theorem dX6_sumOfCounts_35 : decode cX6_sumOfCounts 35 = .ok (.aload_n 0, 1) := by decide +kernel
theorem dX6_sumOfCounts_36 : decode cX6_sumOfCounts 36 = .ok (.getfield 18, 3) := by decide +kernel
theorem dX6_sumOfCounts_39 : decode cX6_sumOfCounts 39 = .ok (.aload_n 0, 1) := by decide +kernel
theorem dX6_sumOfCounts_40 : decode cX6_sumOfCounts 40 = .ok (.getfield 21, 3) := by decide +kernel
theorem dX6_sumOfCounts_43 : decode cX6_sumOfCounts 43 = .ok (.iload_n 2, 1) := by decide +kernel
theorem dX6_sumOfCounts_44 : decode cX6_sumOfCounts 44 = .ok (.iconst 1, 1) := by decide +kernel
theorem dX6_sumOfCounts_45 : decode cX6_sumOfCounts 45 = .ok (.isub, 1) := by decide +kernel
theorem dX6_sumOfCounts_46 : decode cX6_sumOfCounts 46 = .ok (.iaload, 1) := by decide +kernel
theorem dX6_sumOfCounts_47 : decode cX6_sumOfCounts 47 = .ok (.iconst 5, 1) := by decide +kernel
theorem dX6_sumOfCounts_48 : decode cX6_sumOfCounts 48 = .ok (.imul, 1) := by decide +kernel
theorem dX6_sumOfCounts_49 : decode cX6_sumOfCounts 49 = .ok (.aload_n 0, 1) := by decide +kernel
theorem dX6_sumOfCounts_50 : decode cX6_sumOfCounts 50 = .ok (.getfield 21, 3) := by decide +kernel
theorem dX6_sumOfCounts_53 : decode cX6_sumOfCounts 53 = .ok (.iload_n 2, 1) := by decide +kernel
theorem dX6_sumOfCounts_54 : decode cX6_sumOfCounts 54 = .ok (.iaload, 1) := by decide +kernel
theorem dX6_sumOfCounts_55 : decode cX6_sumOfCounts 55 = .ok (.iadd, 1) := by decide +kernel
theorem dX6_sumOfCounts_56 : decode cX6_sumOfCounts 56 = .ok (.iaload, 1) := by decide +kernel
theorem dX6_sumOfCounts_57 : decode cX6_sumOfCounts 57 = .ok (.iadd, 1) := by decide +kernel
theorem dX6_sumOfCounts_58 : decode cX6_sumOfCounts 58 = .ok (.istore_n 1, 1) := by decide +kernel
theorem dX6_sumOfCounts_59 : decode cX6_sumOfCounts 59 = .ok (.iinc 2 1, 3) := by decide +kernel
theorem dX6_sumOfCounts_62 : decode cX6_sumOfCounts 62 = .ok (.goto (-58), 3) := by decide +kernel
theorem dX6_sumOfCounts_65 : decode cX6_sumOfCounts 65 = .ok (.iload_n 1, 1) := by decide +kernel
theorem dX6_sumOfCounts_66 : decode cX6_sumOfCounts 66 = .ok (.ireturn, 1) := by decide +kernel
theorem dX6_nextRow_0 : decode cX6_nextRow 0 = .ok (.aload_n 0, 1) := by decide +kernel
theorem dX6_nextRow_1 : decode cX6_nextRow 1 = .ok (.getfield 27, 3) := by decide +kernel
theorem dX6_nextRow_4 : decode cX6_nextRow 4 = .ok (.iconst 2, 1) := by decide +kernel
theorem dX6_nextRow_5 : decode cX6_nextRow 5 = .ok (.isub, 1) := by decide +kernel
theorem dX6_nextRow_6 : decode cX6_nextRow 6 = .ok (.istore_n 1, 1) := by decide +kernel
theorem dX6_nextRow_7 : decode cX6_nextRow 7 = .ok (.iload_n 1, 1) := by decide +kernel
theorem dX6_nextRow_8 : decode cX6_nextRow 8 = .ok (.ifCond .lt 26, 3) := by decide +kernel
theorem dX6_nextRow_11 : decode cX6_nextRow 11 = .ok (.aload_n 0, 1) := by decide +kernel
theorem dX6_nextRow_12 : decode cX6_nextRow 12 = .ok (.getfield 21, 3) := by decide +kernel
theorem dX6_nextRow_15 : decode cX6_nextRow 15 = .ok (.iload_n 1, 1) := by decide +kernel
theorem dX6_nextRow_16 : decode cX6_nextRow 16 = .ok (.iaload, 1) := by decide +kernel
theorem dX6_nextRow_17 : decode cX6_nextRow 17 = .ok (.aload_n 0, 1) := by decide +kernel
theorem dX6_nextRow_18 : decode cX6_nextRow 18 = .ok (.getfield 21, 3) := by decide +kernel
theorem dX6_nextRow_21 : decode cX6_nextRow 21 = .ok (.iload_n 1, 1) := by decide +kernel
theorem dX6_nextRow_22 : decode cX6_nextRow 22 = .ok (.iconst 1, 1) := by decide +kernel
theorem dX6_nextRow_23 : decode cX6_nextRow 23 = .ok (.iadd, 1) := by decide +kernel
theorem dX6_nextRow_24 : decode cX6_nextRow 24 = .ok (.iaload, 1) := by decide +kernel
theorem dX6_nextRow_25 : decode cX6_nextRow 25 = .ok (.if_icmp .le 9, 3) := by decide +kernel
theorem dX6_nextRow_28 : decode cX6_nextRow 28 = .ok (.iinc 1 (-1), 3) := by decide +kernel
theorem dX6_nextRow_31 : decode cX6_nextRow 31 = .ok (.goto (-24), 3) := by decide +kernel
theorem dX6_nextRow_34 : decode cX6_nextRow 34 = .ok (.iload_n 1, 1) := by decide +kernel
theorem dX6_nextRow_35 : decode cX6_nextRow 35 = .ok (.ifCond .ge 5, 3) := by decide +kernel
theorem dX6_nextRow_38 : decode cX6_nextRow 38 = .ok (.iconst 0, 1) := by decide +kernel
theorem dX6_nextRow_39 : decode cX6_nextRow 39 = .ok (.ireturn, 1) := by decide +kernel
theorem dX6_nextRow_40 : decode cX6_nextRow 40 = .ok (.aload_n 0, 1) := by decide +kernel
theorem dX6_nextRow_41 : decode cX6_nextRow 41 = .ok (.getfield 27, 3) := by decide +kernel
theorem dX6_nextRow_44 : decode cX6_nextRow 44 = .ok (.iconst 1, 1) := by decide +kernel
theorem dX6_nextRow_45 : decode cX6_nextRow 45 = .ok (.isub, 1) := by decide +kernel
theorem dX6_nextRow_46 : decode cX6_nextRow 46 = .ok (.istore_n 2, 1) := by decide +kernel
theorem dX6_nextRow_47 : decode cX6_nextRow 47 = .ok (.iload_n 2, 1) := by decide +kernel
theorem dX6_nextRow_48 : decode cX6_nextRow 48 = .ok (.iload_n 1, 1) := by decide +kernel
theorem dX6_nextRow_49 : decode cX6_nextRow 49 = .ok (.if_icmp .le 24, 3) := by decide +kernel
theorem dX6_nextRow_52 : decode cX6_nextRow 52 = .ok (.aload_n 0, 1) := by decide +kernel
theorem dX6_nextRow_53 : decode cX6_nextRow 53 = .ok (.getfield 21, 3) := by decide +kernel
theorem dX6_nextRow_56 : decode cX6_nextRow 56 = .ok (.iload_n 2, 1) := by decide +kernel
theorem dX6_nextRow_57 : decode cX6_nextRow 57 = .ok (.iaload, 1) := by decide +kernel
theorem dX6_nextRow_58 : decode cX6_nextRow 58 = .ok (.aload_n 0, 1) := by decide +kernel
theorem dX6_nextRow_59 : decode cX6_nextRow 59 = .ok (.getfield 21, 3) := by decide +kernel
theorem dX6_nextRow_62 : decode cX6_nextRow 62 = .ok (.iload_n 1, 1) := by decide +kernel
theorem dX6_nextRow_63 : decode cX6_nextRow 63 = .ok (.iaload, 1) := by decide +kernel
theorem dX6_nextRow_64 : decode cX6_nextRow 64 = .ok (.if_icmp .ge 9, 3) := by decide +kernel
theorem dX6_nextRow_67 : decode cX6_nextRow 67 = .ok (.iinc 2 (-1), 3) := by decide +kernel
theorem dX6_nextRow_70 : decode cX6_nextRow 70 = .ok (.goto (-23), 3) := by decide +kernel
theorem dX6_nextRow_73 : decode cX6_nextRow 73 = .ok (.aload_n 0, 1) := by decide +kernel
theorem dX6_nextRow_74 : decode cX6_nextRow 74 = .ok (.iload_n 1, 1) := by decide +kernel
theorem dX6_nextRow_75 : decode cX6_nextRow 75 = .ok (.iload_n 2, 1) := by decide +kernel
theorem dX6_nextRow_76 : decode cX6_nextRow 76 = .ok (.invokevirtual 67, 3) := by decide +kernel
theorem dX6_nextRow_79 : decode cX6_nextRow 79 = .ok (.aload_n 0, 1) := by decide +kernel
theorem dX6_nextRow_80 : decode cX6_nextRow 80 = .ok (.getfield 27, 3) := by decide +kernel
theorem dX6_nextRow_83 : decode cX6_nextRow 83 = .ok (.iconst 1, 1) := by decide +kernel
theorem dX6_nextRow_84 : decode cX6_nextRow 84 = .ok (.isub, 1) := by decide +kernel
theorem dX6_nextRow_85 : decode cX6_nextRow 85 = .ok (.istore_n 3, 1) := by decide +kernel
theorem dX6_nextRow_86 : decode cX6_nextRow 86 = .ok (.iload_n 1, 1) := by decide +kernel
theorem dX6_nextRow_87 : decode cX6_nextRow 87 = .ok (.iconst 1, 1) := by decide +kernel
theorem dX6_nextRow_88 : decode cX6_nextRow 88 = .ok (.iadd, 1) := by decide +kernel
theorem dX6_nextRow_89 : decode cX6_nextRow 89 = .ok (.istore 4, 2) := by decide +kernel
theorem dX6_nextRow_91 : decode cX6_nextRow 91 = .ok (.iload 4, 2) := by decide +kernel
theorem dX6_nextRow_93 : decode cX6_nextRow 93 = .ok (.iload_n 3, 1) := by decide +kernel
theorem dX6_nextRow_94 : decode cX6_nextRow 94 = .ok (.if_icmp .ge 19, 3) := by decide +kernel
theorem dX6_nextRow_97 : decode cX6_nextRow 97 = .ok (.aload_n 0, 1) := by decide +kernel
theorem dX6_nextRow_98 : decode cX6_nextRow 98 = .ok (.iload 4, 2) := by decide +kernel
theorem dX6_nextRow_100 : decode cX6_nextRow 100 = .ok (.iload_n 3, 1) := by decide +kernel
theorem dX6_nextRow_101 : decode cX6_nextRow 101 = .ok (.invokevirtual 67, 3) := by decide +kernel
theorem dX6_nextRow_104 : decode cX6_nextRow 104 = .ok (.iinc 3 (-1), 3) := by decide +kernel
theorem dX6_nextRow_107 : decode cX6_nextRow 107 = .ok (.iinc 4 1, 3) := by decide +kernel
theorem dX6_nextRow_110 : decode cX6_nextRow 110 = .ok (.goto (-19), 3) := by decide +kernel
theorem dX6_nextRow_113 : decode cX6_nextRow 113 = .ok (.iconst 1, 1) := by decide +kernel
theorem dX6_nextRow_114 : decode cX6_nextRow 114 = .ok (.ireturn, 1) := by decide +kernel
theorem dX6_exchange_0 : decode cX6_exchange 0 = .ok (.aload_n 0, 1) := by decide +kernel
theorem dX6_exchange_1 : decode cX6_exchange 1 = .ok (.getfield 21, 3) := by decide +kernel
theorem dX6_exchange_4 : decode cX6_exchange 4 = .ok (.iload_n 1, 1) := by decide +kernel
theorem dX6_exchange_5 : decode cX6_exchange 5 = .ok (.iaload, 1) := by decide +kernel
theorem dX6_exchange_6 : decode cX6_exchange 6 = .ok (.istore_n 3, 1) := by decide +kernel
theorem dX6_exchange_7 : decode cX6_exchange 7 = .ok (.aload_n 0, 1) := by decide +kernel
theorem dX6_exchange_8 : decode cX6_exchange 8 = .ok (.getfield 21, 3) := by decide +kernel
theorem dX6_exchange_11 : decode cX6_exchange 11 = .ok (.iload_n 1, 1) := by decide +kernel
theorem dX6_exchange_12 : decode cX6_exchange 12 = .ok (.aload_n 0, 1) := by decide +kernel
theorem dX6_exchange_13 : decode cX6_exchange 13 = .ok (.getfield 21, 3) := by decide +kernel
theorem dX6_exchange_16 : decode cX6_exchange 16 = .ok (.iload_n 2, 1) := by decide +kernel
theorem dX6_exchange_17 : decode cX6_exchange 17 = .ok (.iaload, 1) := by decide +kernel
theorem dX6_exchange_18 : decode cX6_exchange 18 = .ok (.iastore, 1) := by decide +kernel
theorem dX6_exchange_19 : decode cX6_exchange 19 = .ok (.aload_n 0, 1) := by decide +kernel
theorem dX6_exchange_20 : decode cX6_exchange 20 = .ok (.getfield 21, 3) := by decide +kernel
theorem dX6_exchange_23 : decode cX6_exchange 23 = .ok (.iload_n 2, 1) := by decide +kernel
theorem dX6_exchange_24 : decode cX6_exchange 24 = .ok (.iload_n 3, 1) := by decide +kernel
theorem dX6_exchange_25 : decode cX6_exchange 25 = .ok (.iastore, 1) := by decide +kernel
theorem dX6_exchange_26 : decode cX6_exchange 26 = .ok (.return_, 1) := by decide +kernel
theorem dX6_append_0 : decode cX6_append 0 = .ok (.aload_n 0, 1) := by decide +kernel
theorem dX6_append_1 : decode cX6_append 1 = .ok (.getfield 31, 3) := by decide +kernel
theorem dX6_append_4 : decode cX6_append 4 = .ok (.bipush 30, 2) := by decide +kernel
theorem dX6_append_6 : decode cX6_append 6 = .ok (.if_icmp .lt 4, 3) := by decide +kernel
theorem dX6_append_9 : decode cX6_append 9 = .ok (.return_, 1) := by decide +kernel
theorem dX6_append_10 : decode cX6_append 10 = .ok (.iconst 0, 1) := by decide +kernel
theorem dX6_append_11 : decode cX6_append 11 = .ok (.istore_n 2, 1) := by decide +kernel
theorem dX6_append_12 : decode cX6_append 12 = .ok (.iload_n 2, 1) := by decide +kernel
theorem dX6_append_13 : decode cX6_append 13 = .ok (.aload_n 0, 1) := by decide +kernel
theorem dX6_append_14 : decode cX6_append 14 = .ok (.getfield 27, 3) := by decide +kernel
theorem dX6_append_17 : decode cX6_append 17 = .ok (.if_icmp .ge 65, 3) := by decide +kernel
theorem dX6_append_20 : decode cX6_append 20 = .ok (.aload_n 0, 1) := by decide +kernel
theorem dX6_append_21 : decode cX6_append 21 = .ok (.getfield 11, 3) := by decide +kernel
theorem dX6_append_24 : decode cX6_append 24 = .ok (.aload_n 0, 1) := by decide +kernel
theorem dX6_append_25 : decode cX6_append 25 = .ok (.getfield 31, 3) := by decide +kernel
theorem dX6_append_28 : decode cX6_append 28 = .ok (.iconst 5, 1) := by decide +kernel
theorem dX6_append_29 : decode cX6_append 29 = .ok (.imul, 1) := by decide +kernel
theorem dX6_append_30 : decode cX6_append 30 = .ok (.iload_n 2, 1) := by decide +kernel
theorem dX6_append_31 : decode cX6_append 31 = .ok (.iadd, 1) := by decide +kernel
theorem dX6_append_32 : decode cX6_append 32 = .ok (.aload_n 1, 1) := by decide +kernel
theorem dX6_append_33 : decode cX6_append 33 = .ok (.iload_n 2, 1) := by decide +kernel
theorem dX6_append_34 : decode cX6_append 34 = .ok (.iaload, 1) := by decide +kernel
theorem dX6_append_35 : decode cX6_append 35 = .ok (.iastore, 1) := by decide +kernel
theorem dX6_append_36 : decode cX6_append 36 = .ok (.aload_n 0, 1) := by decide +kernel
theorem dX6_append_37 : decode cX6_append 37 = .ok (.getfield 15, 3) := by decide +kernel
theorem dX6_append_40 : decode cX6_append 40 = .ok (.aload_n 1, 1) := by decide +kernel
theorem dX6_append_41 : decode cX6_append 41 = .ok (.iload_n 2, 1) := by decide +kernel
theorem dX6_append_42 : decode cX6_append 42 = .ok (.iaload, 1) := by decide +kernel
theorem dX6_append_43 : decode cX6_append 43 = .ok (.iconst 5, 1) := by decide +kernel
theorem dX6_append_44 : decode cX6_append 44 = .ok (.imul, 1) := by decide +kernel
theorem dX6_append_45 : decode cX6_append 45 = .ok (.iload_n 2, 1) := by decide +kernel
theorem dX6_append_46 : decode cX6_append 46 = .ok (.iadd, 1) := by decide +kernel
theorem dX6_append_47 : decode cX6_append 47 = .ok (.dup2, 1) := by decide +kernel
theorem dX6_append_48 : decode cX6_append 48 = .ok (.iaload, 1) := by decide +kernel
theorem dX6_append_49 : decode cX6_append 49 = .ok (.iconst 1, 1) := by decide +kernel
theorem dX6_append_50 : decode cX6_append 50 = .ok (.iadd, 1) := by decide +kernel
theorem dX6_append_51 : decode cX6_append 51 = .ok (.iastore, 1) := by decide +kernel
theorem dX6_append_52 : decode cX6_append 52 = .ok (.iload_n 2, 1) := by decide +kernel
theorem dX6_append_53 : decode cX6_append 53 = .ok (.ifCond .le 23, 3) := by decide +kernel
theorem dX6_append_56 : decode cX6_append 56 = .ok (.aload_n 0, 1) := by decide +kernel
theorem dX6_append_57 : decode cX6_append 57 = .ok (.getfield 18, 3) := by decide +kernel
theorem dX6_append_60 : decode cX6_append 60 = .ok (.aload_n 1, 1) := by decide +kernel
theorem dX6_append_61 : decode cX6_append 61 = .ok (.iload_n 2, 1) := by decide +kernel
theorem dX6_append_62 : decode cX6_append 62 = .ok (.iconst 1, 1) := by decide +kernel
theorem dX6_append_63 : decode cX6_append 63 = .ok (.isub, 1) := by decide +kernel
theorem dX6_append_64 : decode cX6_append 64 = .ok (.iaload, 1) := by decide +kernel
theorem dX6_append_65 : decode cX6_append 65 = .ok (.iconst 5, 1) := by decide +kernel
theorem dX6_append_66 : decode cX6_append 66 = .ok (.imul, 1) := by decide +kernel
theorem dX6_append_67 : decode cX6_append 67 = .ok (.aload_n 1, 1) := by decide +kernel
theorem dX6_append_68 : decode cX6_append 68 = .ok (.iload_n 2, 1) := by decide +kernel
theorem dX6_append_69 : decode cX6_append 69 = .ok (.iaload, 1) := by decide +kernel
theorem dX6_append_70 : decode cX6_append 70 = .ok (.iadd, 1) := by decide +kernel
theorem dX6_append_71 : decode cX6_append 71 = .ok (.dup2, 1) := by decide +kernel
theorem dX6_append_72 : decode cX6_append 72 = .ok (.iaload, 1) := by decide +kernel
theorem dX6_append_73 : decode cX6_append 73 = .ok (.iconst 1, 1) := by decide +kernel
theorem dX6_append_74 : decode cX6_append 74 = .ok (.iadd, 1) := by decide +kernel
theorem dX6_append_75 : decode cX6_append 75 = .ok (.iastore, 1) := by decide +kernel
theorem dX6_append_76 : decode cX6_append 76 = .ok (.iinc 2 1, 3) := by decide +kernel
theorem dX6_append_79 : decode cX6_append 79 = .ok (.goto (-67), 3) := by decide +kernel
theorem dX6_append_82 : decode cX6_append 82 = .ok (.aload_n 0, 1) := by decide +kernel
theorem dX6_append_83 : decode cX6_append 83 = .ok (.dup, 1) := by decide +kernel
theorem dX6_append_84 : decode cX6_append 84 = .ok (.getfield 31, 3) := by decide +kernel
theorem dX6_append_87 : decode cX6_append 87 = .ok (.iconst 1, 1) := by decide +kernel
theorem dX6_append_88 : decode cX6_append 88 = .ok (.iadd, 1) := by decide +kernel
theorem dX6_append_89 : decode cX6_append 89 = .ok (.putfield 31, 3) := by decide +kernel
theorem dX6_append_92 : decode cX6_append 92 = .ok (.return_, 1) := by decide +kernel
theorem dX6_unevenness_0 : decode cX6_unevenness 0 = .ok (.iconst 0, 1) := by decide +kernel
theorem dX6_unevenness_1 : decode cX6_unevenness 1 = .ok (.istore_n 1, 1) := by decide +kernel
theorem dX6_unevenness_2 : decode cX6_unevenness 2 = .ok (.iconst 0, 1) := by decide +kernel
theorem dX6_unevenness_3 : decode cX6_unevenness 3 = .ok (.istore_n 2, 1) := by decide +kernel
theorem dX6_unevenness_4 : decode cX6_unevenness 4 = .ok (.iload_n 2, 1) := by decide +kernel
theorem dX6_unevenness_5 : decode cX6_unevenness 5 = .ok (.aload_n 0, 1) := by decide +kernel
theorem dX6_unevenness_6 : decode cX6_unevenness 6 = .ok (.getfield 27, 3) := by decide +kernel
theorem dX6_unevenness_9 : decode cX6_unevenness 9 = .ok (.if_icmp .ge 69, 3) := by decide +kernel
theorem dX6_unevenness_12 : decode cX6_unevenness 12 = .ok (.iconst 0, 1) := by decide +kernel
theorem dX6_unevenness_13 : decode cX6_unevenness 13 = .ok (.istore_n 3, 1) := by decide +kernel
theorem dX6_unevenness_14 : decode cX6_unevenness 14 = .ok (.iload_n 3, 1) := by decide +kernel
theorem dX6_unevenness_15 : decode cX6_unevenness 15 = .ok (.aload_n 0, 1) := by decide +kernel
theorem dX6_unevenness_16 : decode cX6_unevenness 16 = .ok (.getfield 27, 3) := by decide +kernel
theorem dX6_unevenness_19 : decode cX6_unevenness 19 = .ok (.if_icmp .ge 53, 3) := by decide +kernel
theorem dX6_unevenness_22 : decode cX6_unevenness 22 = .ok (.iload_n 2, 1) := by decide +kernel
theorem dX6_unevenness_23 : decode cX6_unevenness 23 = .ok (.iconst 5, 1) := by decide +kernel
theorem dX6_unevenness_24 : decode cX6_unevenness 24 = .ok (.imul, 1) := by decide +kernel
theorem dX6_unevenness_25 : decode cX6_unevenness 25 = .ok (.iload_n 3, 1) := by decide +kernel
theorem dX6_unevenness_26 : decode cX6_unevenness 26 = .ok (.iadd, 1) := by decide +kernel
theorem dX6_unevenness_27 : decode cX6_unevenness 27 = .ok (.istore 4, 2) := by decide +kernel
theorem dX6_unevenness_29 : decode cX6_unevenness 29 = .ok (.iload_n 1, 1) := by decide +kernel
theorem dX6_unevenness_30 : decode cX6_unevenness 30 = .ok (.aload_n 0, 1) := by decide +kernel
theorem dX6_unevenness_31 : decode cX6_unevenness 31 = .ok (.aload_n 0, 1) := by decide +kernel
theorem dX6_unevenness_32 : decode cX6_unevenness 32 = .ok (.getfield 15, 3) := by decide +kernel
theorem dX6_unevenness_35 : decode cX6_unevenness 35 = .ok (.iload 4, 2) := by decide +kernel
theorem dX6_unevenness_37 : decode cX6_unevenness 37 = .ok (.iaload, 1) := by decide +kernel
theorem dX6_unevenness_38 : decode cX6_unevenness 38 = .ok (.invokevirtual 71, 3) := by decide +kernel
theorem dX6_unevenness_41 : decode cX6_unevenness 41 = .ok (.iadd, 1) := by decide +kernel
theorem dX6_unevenness_42 : decode cX6_unevenness 42 = .ok (.istore_n 1, 1) := by decide +kernel
theorem dX6_unevenness_43 : decode cX6_unevenness 43 = .ok (.iload_n 1, 1) := by decide +kernel
theorem dX6_unevenness_44 : decode cX6_unevenness 44 = .ok (.iload_n 2, 1) := by decide +kernel
theorem dX6_unevenness_45 : decode cX6_unevenness 45 = .ok (.iload_n 3, 1) := by decide +kernel
theorem dX6_unevenness_46 : decode cX6_unevenness 46 = .ok (.if_icmp .ne 7, 3) := by decide +kernel
theorem dX6_unevenness_49 : decode cX6_unevenness 49 = .ok (.iconst 0, 1) := by decide +kernel
theorem dX6_unevenness_50 : decode cX6_unevenness 50 = .ok (.goto 14, 3) := by decide +kernel
theorem dX6_unevenness_53 : decode cX6_unevenness 53 = .ok (.aload_n 0, 1) := by decide +kernel
theorem dX6_unevenness_54 : decode cX6_unevenness 54 = .ok (.aload_n 0, 1) := by decide +kernel
theorem dX6_unevenness_55 : decode cX6_unevenness 55 = .ok (.getfield 18, 3) := by decide +kernel
theorem dX6_unevenness_58 : decode cX6_unevenness 58 = .ok (.iload 4, 2) := by decide +kernel
theorem dX6_unevenness_60 : decode cX6_unevenness 60 = .ok (.iaload, 1) := by decide +kernel
theorem dX6_unevenness_61 : decode cX6_unevenness 61 = .ok (.invokevirtual 71, 3) := by decide +kernel
theorem dX6_unevenness_64 : decode cX6_unevenness 64 = .ok (.iadd, 1) := by decide +kernel
theorem dX6_unevenness_65 : decode cX6_unevenness 65 = .ok (.istore_n 1, 1) := by decide +kernel
theorem dX6_unevenness_66 : decode cX6_unevenness 66 = .ok (.iinc 3 1, 3) := by decide +kernel
theorem dX6_unevenness_69 : decode cX6_unevenness 69 = .ok (.goto (-55), 3) := by decide +kernel
theorem dX6_unevenness_72 : decode cX6_unevenness 72 = .ok (.iinc 2 1, 3) := by decide +kernel
theorem dX6_unevenness_75 : decode cX6_unevenness 75 = .ok (.goto (-71), 3) := by decide +kernel
theorem dX6_unevenness_78 : decode cX6_unevenness 78 = .ok (.iload_n 1, 1) := by decide +kernel
theorem dX6_unevenness_79 : decode cX6_unevenness 79 = .ok (.ireturn, 1) := by decide +kernel
theorem dX6_squareOfGap_0 : decode cX6_squareOfGap 0 = .ok (.iload_n 1, 1) := by decide +kernel
theorem dX6_squareOfGap_1 : decode cX6_squareOfGap 1 = .ok (.aload_n 0, 1) := by decide +kernel
theorem dX6_squareOfGap_2 : decode cX6_squareOfGap 2 = .ok (.getfield 27, 3) := by decide +kernel
theorem dX6_squareOfGap_5 : decode cX6_squareOfGap 5 = .ok (.imul, 1) := by decide +kernel
theorem dX6_squareOfGap_6 : decode cX6_squareOfGap 6 = .ok (.aload_n 0, 1) := by decide +kernel
theorem dX6_squareOfGap_7 : decode cX6_squareOfGap 7 = .ok (.getfield 31, 3) := by decide +kernel
theorem dX6_squareOfGap_10 : decode cX6_squareOfGap 10 = .ok (.isub, 1) := by decide +kernel
theorem dX6_squareOfGap_11 : decode cX6_squareOfGap 11 = .ok (.istore_n 2, 1) := by decide +kernel
theorem dX6_squareOfGap_12 : decode cX6_squareOfGap 12 = .ok (.iload_n 2, 1) := by decide +kernel
theorem dX6_squareOfGap_13 : decode cX6_squareOfGap 13 = .ok (.iload_n 2, 1) := by decide +kernel
theorem dX6_squareOfGap_14 : decode cX6_squareOfGap 14 = .ok (.imul, 1) := by decide +kernel
theorem dX6_squareOfGap_15 : decode cX6_squareOfGap 15 = .ok (.ireturn, 1) := by decide +kernel
theorem dX7_init_0 : decode cX7_init 0 = .ok (.aload_n 0, 1) := by decide +kernel
theorem dX7_init_1 : decode cX7_init 1 = .ok (.invokespecial 3, 3) := by decide +kernel
theorem dX7_init_4 : decode cX7_init 4 = .ok (.aload_n 0, 1) := by decide +kernel
theorem dX7_init_5 : decode cX7_init 5 = .ok (.bipush 90, 2) := by decide +kernel
theorem dX7_init_7 : decode cX7_init 7 = .ok (.newarray .int, 2) := by decide +kernel
theorem dX7_init_9 : decode cX7_init 9 = .ok (.putfield 9, 3) := by decide +kernel
theorem dX7_init_12 : decode cX7_init 12 = .ok (.aload_n 0, 1) := by decide +kernel
theorem dX7_init_13 : decode cX7_init 13 = .ok (.bipush 30, 2) := by decide +kernel
theorem dX7_init_15 : decode cX7_init 15 = .ok (.newarray .boolean, 2) := by decide +kernel
theorem dX7_init_17 : decode cX7_init 17 = .ok (.putfield 15, 3) := by decide +kernel
theorem dX7_init_20 : decode cX7_init 20 = .ok (.aload_n 0, 1) := by decide +kernel
theorem dX7_init_21 : decode cX7_init 21 = .ok (.aload_n 1, 1) := by decide +kernel
theorem dX7_init_22 : decode cX7_init 22 = .ok (.putfield 19, 3) := by decide +kernel
theorem dX7_init_25 : decode cX7_init 25 = .ok (.aload_n 0, 1) := by decide +kernel
theorem dX7_init_26 : decode cX7_init 26 = .ok (.aload_n 2, 1) := by decide +kernel
theorem dX7_init_27 : decode cX7_init 27 = .ok (.putfield 23, 3) := by decide +kernel
theorem dX7_init_30 : decode cX7_init 30 = .ok (.return_, 1) := by decide +kernel
theorem dX7_contentOf_0 : decode cX7_contentOf 0 = .ok (.aload_n 0, 1) := by decide +kernel
theorem dX7_contentOf_1 : decode cX7_contentOf 1 = .ok (.aload_n 1, 1) := by decide +kernel
theorem dX7_contentOf_2 : decode cX7_contentOf 2 = .ok (.iload_n 2, 1) := by decide +kernel
theorem dX7_contentOf_3 : decode cX7_contentOf 3 = .ok (.iload_n 3, 1) := by decide +kernel
theorem dX7_contentOf_4 : decode cX7_contentOf 4 = .ok (.invokevirtual 27, 3) := by decide +kernel
theorem dX7_contentOf_7 : decode cX7_contentOf 7 = .ok (.iload 4, 2) := by decide +kernel
theorem dX7_contentOf_9 : decode cX7_contentOf 9 = .ok (.ifCond .lt 20, 3) := by decide +kernel
theorem dX7_contentOf_12 : decode cX7_contentOf 12 = .ok (.iload 4, 2) := by decide +kernel
theorem dX7_contentOf_14 : decode cX7_contentOf 14 = .ok (.bipush 90, 2) := by decide +kernel
theorem dX7_contentOf_16 : decode cX7_contentOf 16 = .ok (.if_icmp .ge 13, 3) := by decide +kernel
theorem dX7_contentOf_19 : decode cX7_contentOf 19 = .ok (.aload_n 0, 1) := by decide +kernel
theorem dX7_contentOf_20 : decode cX7_contentOf 20 = .ok (.getfield 9, 3) := by decide +kernel
theorem dX7_contentOf_23 : decode cX7_contentOf 23 = .ok (.iload 4, 2) := by decide +kernel
theorem dX7_contentOf_25 : decode cX7_contentOf 25 = .ok (.iaload, 1) := by decide +kernel
theorem dX7_contentOf_26 : decode cX7_contentOf 26 = .ok (.goto 4, 3) := by decide +kernel
theorem dX7_contentOf_29 : decode cX7_contentOf 29 = .ok (.iconst (-1), 1) := by decide +kernel
theorem dX7_contentOf_30 : decode cX7_contentOf 30 = .ok (.ireturn, 1) := by decide +kernel
theorem dX7_pour_0 : decode cX7_pour 0 = .ok (.aload_n 1, 1) := by decide +kernel
theorem dX7_pour_1 : decode cX7_pour 1 = .ok (.getfield 31, 3) := by decide +kernel
theorem dX7_pour_4 : decode cX7_pour 4 = .ok (.iload_n 2, 1) := by decide +kernel
theorem dX7_pour_5 : decode cX7_pour 5 = .ok (.baload, 1) := by decide +kernel
theorem dX7_pour_6 : decode cX7_pour 6 = .ok (.ifCond .eq 9, 3) := by decide +kernel
theorem dX7_pour_9 : decode cX7_pour 9 = .ok (.getstatic 36, 3) := by decide +kernel
theorem dX7_pour_12 : decode cX7_pour 12 = .ok (.goto 6, 3) := by decide +kernel
theorem dX7_pour_15 : decode cX7_pour 15 = .ok (.getstatic 39, 3) := by decide +kernel
theorem dX7_pour_18 : decode cX7_pour 18 = .ok (.astore 4, 2) := by decide +kernel
theorem dX7_pour_20 : decode cX7_pour 20 = .ok (.iconst 0, 1) := by decide +kernel
theorem dX7_pour_21 : decode cX7_pour 21 = .ok (.istore 5, 2) := by decide +kernel
theorem dX7_pour_23 : decode cX7_pour 23 = .ok (.iload 5, 2) := by decide +kernel
theorem dX7_pour_25 : decode cX7_pour 25 = .ok (.aload_n 1, 1) := by decide +kernel
theorem dX7_pour_26 : decode cX7_pour 26 = .ok (.iload_n 2, 1) := by decide +kernel
theorem dX7_pour_27 : decode cX7_pour 27 = .ok (.invokevirtual 42, 3) := by decide +kernel
theorem dX7_pour_30 : decode cX7_pour 30 = .ok (.if_icmp .ge 25, 3) := by decide +kernel
theorem dX7_pour_33 : decode cX7_pour 33 = .ok (.aload_n 0, 1) := by decide +kernel
theorem dX7_pour_34 : decode cX7_pour 34 = .ok (.getfield 9, 3) := by decide +kernel
theorem dX7_pour_37 : decode cX7_pour 37 = .ok (.iload 5, 2) := by decide +kernel
theorem dX7_pour_39 : decode cX7_pour 39 = .ok (.aload 4, 2) := by decide +kernel
theorem dX7_pour_41 : decode cX7_pour 41 = .ok (.iload 5, 2) := by decide +kernel
theorem dX7_pour_43 : decode cX7_pour 43 = .ok (.aload 4, 2) := by decide +kernel
theorem dX7_pour_45 : decode cX7_pour 45 = .ok (.arraylength, 1) := by decide +kernel
theorem dX7_pour_46 : decode cX7_pour 46 = .ok (.irem, 1) := by decide +kernel
theorem dX7_pour_47 : decode cX7_pour 47 = .ok (.iaload, 1) := by decide +kernel
theorem dX7_pour_48 : decode cX7_pour 48 = .ok (.iastore, 1) := by decide +kernel
theorem dX7_pour_49 : decode cX7_pour 49 = .ok (.iinc 5 1, 3) := by decide +kernel
theorem dX7_pour_52 : decode cX7_pour 52 = .ok (.goto (-29), 3) := by decide +kernel
theorem dX7_pour_55 : decode cX7_pour 55 = .ok (.iconst 1, 1) := by decide +kernel
theorem dX7_pour_56 : decode cX7_pour 56 = .ok (.istore 5, 2) := by decide +kernel
theorem dX7_pour_58 : decode cX7_pour 58 = .ok (.iload 5, 2) := by decide +kernel
theorem dX7_pour_60 : decode cX7_pour 60 = .ok (.iload_n 3, 1) := by decide +kernel
theorem dX7_pour_61 : decode cX7_pour 61 = .ok (.if_icmp .gt 61, 3) := by decide +kernel
theorem dX7_pour_64 : decode cX7_pour 64 = .ok (.aload_n 0, 1) := by decide +kernel
theorem dX7_pour_65 : decode cX7_pour 65 = .ok (.getfield 19, 3) := by decide +kernel
theorem dX7_pour_68 : decode cX7_pour 68 = .ok (.iload 5, 2) := by decide +kernel
theorem dX7_pour_70 : decode cX7_pour 70 = .ok (.iconst 3, 1) := by decide +kernel
theorem dX7_pour_71 : decode cX7_pour 71 = .ok (.iload_n 3, 1) := by decide +kernel
theorem dX7_pour_72 : decode cX7_pour 72 = .ok (.invokevirtual 48, 3) := by decide +kernel
theorem dX7_pour_75 : decode cX7_pour 75 = .ok (.ifCond .eq 41, 3) := by decide +kernel
theorem dX7_pour_78 : decode cX7_pour 78 = .ok (.aload_n 0, 1) := by decide +kernel
theorem dX7_pour_79 : decode cX7_pour 79 = .ok (.getfield 19, 3) := by decide +kernel
theorem dX7_pour_82 : decode cX7_pour 82 = .ok (.getfield 52, 3) := by decide +kernel
theorem dX7_pour_85 : decode cX7_pour 85 = .ok (.iload 5, 2) := by decide +kernel
theorem dX7_pour_87 : decode cX7_pour 87 = .ok (.iaload, 1) := by decide +kernel
theorem dX7_pour_88 : decode cX7_pour 88 = .ok (.iload_n 2, 1) := by decide +kernel
theorem dX7_pour_89 : decode cX7_pour 89 = .ok (.if_icmp .ne 27, 3) := by decide +kernel
theorem dX7_pour_92 : decode cX7_pour 92 = .ok (.aload_n 0, 1) := by decide +kernel
theorem dX7_pour_93 : decode cX7_pour 93 = .ok (.aload_n 0, 1) := by decide +kernel
theorem dX7_pour_94 : decode cX7_pour 94 = .ok (.getfield 19, 3) := by decide +kernel
theorem dX7_pour_97 : decode cX7_pour 97 = .ok (.getfield 55, 3) := by decide +kernel
theorem dX7_pour_100 : decode cX7_pour 100 = .ok (.iload 5, 2) := by decide +kernel
theorem dX7_pour_102 : decode cX7_pour 102 = .ok (.iaload, 1) := by decide +kernel
theorem dX7_pour_103 : decode cX7_pour 103 = .ok (.aload_n 0, 1) := by decide +kernel
theorem dX7_pour_104 : decode cX7_pour 104 = .ok (.getfield 19, 3) := by decide +kernel
theorem dX7_pour_107 : decode cX7_pour 107 = .ok (.getfield 58, 3) := by decide +kernel
theorem dX7_pour_110 : decode cX7_pour 110 = .ok (.iload 5, 2) := by decide +kernel
theorem dX7_pour_112 : decode cX7_pour 112 = .ok (.iaload, 1) := by decide +kernel
theorem dX7_pour_113 : decode cX7_pour 113 = .ok (.invokevirtual 61, 3) := by decide +kernel
theorem dX7_pour_116 : decode cX7_pour 116 = .ok (.iinc 5 1, 3) := by decide +kernel
theorem dX7_pour_119 : decode cX7_pour 119 = .ok (.goto (-61), 3) := by decide +kernel
theorem dX7_pour_122 : decode cX7_pour 122 = .ok (.return_, 1) := by decide +kernel
theorem dX7_exchange_0 : decode cX7_exchange 0 = .ok (.aload_n 0, 1) := by decide +kernel
theorem dX7_exchange_1 : decode cX7_exchange 1 = .ok (.getfield 9, 3) := by decide +kernel
theorem dX7_exchange_4 : decode cX7_exchange 4 = .ok (.iload_n 1, 1) := by decide +kernel
theorem dX7_exchange_5 : decode cX7_exchange 5 = .ok (.iaload, 1) := by decide +kernel
theorem dX7_exchange_6 : decode cX7_exchange 6 = .ok (.istore_n 3, 1) := by decide +kernel
theorem dX7_exchange_7 : decode cX7_exchange 7 = .ok (.aload_n 0, 1) := by decide +kernel
theorem dX7_exchange_8 : decode cX7_exchange 8 = .ok (.getfield 9, 3) := by decide +kernel
theorem dX7_exchange_11 : decode cX7_exchange 11 = .ok (.iload_n 1, 1) := by decide +kernel
theorem dX7_exchange_12 : decode cX7_exchange 12 = .ok (.aload_n 0, 1) := by decide +kernel
theorem dX7_exchange_13 : decode cX7_exchange 13 = .ok (.getfield 9, 3) := by decide +kernel
theorem dX7_exchange_16 : decode cX7_exchange 16 = .ok (.iload_n 2, 1) := by decide +kernel
theorem dX7_exchange_17 : decode cX7_exchange 17 = .ok (.iaload, 1) := by decide +kernel
theorem dX7_exchange_18 : decode cX7_exchange 18 = .ok (.iastore, 1) := by decide +kernel
theorem dX7_exchange_19 : decode cX7_exchange 19 = .ok (.aload_n 0, 1) := by decide +kernel
theorem dX7_exchange_20 : decode cX7_exchange 20 = .ok (.getfield 9, 3) := by decide +kernel
theorem dX7_exchange_23 : decode cX7_exchange 23 = .ok (.iload_n 2, 1) := by decide +kernel
theorem dX7_exchange_24 : decode cX7_exchange 24 = .ok (.iload_n 3, 1) := by decide +kernel
theorem dX7_exchange_25 : decode cX7_exchange 25 = .ok (.iastore, 1) := by decide +kernel
theorem dX7_exchange_26 : decode cX7_exchange 26 = .ok (.return_, 1) := by decide +kernel
theorem dX7_tally_0 : decode cX7_tally 0 = .ok (.aload_n 0, 1) := by decide +kernel
theorem dX7_tally_1 : decode cX7_tally 1 = .ok (.aload_n 1, 1) := by decide +kernel
theorem dX7_tally_2 : decode cX7_tally 2 = .ok (.iload_n 2, 1) := by decide +kernel
theorem dX7_tally_3 : decode cX7_tally 3 = .ok (.iload_n 3, 1) := by decide +kernel
theorem dX7_tally_4 : decode cX7_tally 4 = .ok (.invokevirtual 27, 3) := by decide +kernel
theorem dX7_tally_7 : decode cX7_tally 7 = .ok (.aload_n 0, 1) := by decide +kernel
theorem dX7_tally_8 : decode cX7_tally 8 = .ok (.invokevirtual 65, 3) := by decide +kernel
theorem dX7_tally_11 : decode cX7_tally 11 = .ok (.iconst 1, 1) := by decide +kernel
theorem dX7_tally_12 : decode cX7_tally 12 = .ok (.istore 5, 2) := by decide +kernel
theorem dX7_tally_14 : decode cX7_tally 14 = .ok (.iload 5, 2) := by decide +kernel
theorem dX7_tally_16 : decode cX7_tally 16 = .ok (.iload_n 3, 1) := by decide +kernel
theorem dX7_tally_17 : decode cX7_tally 17 = .ok (.if_icmp .gt 137, 3) := by decide +kernel
theorem dX7_tally_20 : decode cX7_tally 20 = .ok (.aload_n 0, 1) := by decide +kernel
theorem dX7_tally_21 : decode cX7_tally 21 = .ok (.getfield 68, 3) := by decide +kernel
theorem dX7_tally_24 : decode cX7_tally 24 = .ok (.ifCond .ne 130, 3) := by decide +kernel
theorem dX7_tally_27 : decode cX7_tally 27 = .ok (.aload_n 0, 1) := by decide +kernel
theorem dX7_tally_28 : decode cX7_tally 28 = .ok (.getfield 19, 3) := by decide +kernel
theorem dX7_tally_31 : decode cX7_tally 31 = .ok (.iload 5, 2) := by decide +kernel
theorem dX7_tally_33 : decode cX7_tally 33 = .ok (.iconst 1, 1) := by decide +kernel
theorem dX7_tally_34 : decode cX7_tally 34 = .ok (.iload_n 3, 1) := by decide +kernel
theorem dX7_tally_35 : decode cX7_tally 35 = .ok (.invokevirtual 48, 3) := by decide +kernel
theorem dX7_tally_38 : decode cX7_tally 38 = .ok (.ifCond .eq 110, 3) := by decide +kernel
theorem dX7_tally_41 : decode cX7_tally 41 = .ok (.aload_n 0, 1) := by decide +kernel
theorem dX7_tally_42 : decode cX7_tally 42 = .ok (.getfield 19, 3) := by decide +kernel
theorem dX7_tally_45 : decode cX7_tally 45 = .ok (.getfield 52, 3) := by decide +kernel
theorem dX7_tally_48 : decode cX7_tally 48 = .ok (.iload 5, 2) := by decide +kernel
theorem dX7_tally_50 : decode cX7_tally 50 = .ok (.iaload, 1) := by decide +kernel
theorem dX7_tally_51 : decode cX7_tally 51 = .ok (.iload_n 2, 1) := by decide +kernel
theorem dX7_tally_52 : decode cX7_tally 52 = .ok (.if_icmp .eq 6, 3) := by decide +kernel
theorem dX7_tally_55 : decode cX7_tally 55 = .ok (.goto 93, 3) := by decide +kernel
theorem dX7_tally_58 : decode cX7_tally 58 = .ok (.aload_n 0, 1) := by decide +kernel
theorem dX7_tally_59 : decode cX7_tally 59 = .ok (.getfield 19, 3) := by decide +kernel
theorem dX7_tally_62 : decode cX7_tally 62 = .ok (.getfield 55, 3) := by decide +kernel
theorem dX7_tally_65 : decode cX7_tally 65 = .ok (.iload 5, 2) := by decide +kernel
theorem dX7_tally_67 : decode cX7_tally 67 = .ok (.iaload, 1) := by decide +kernel
theorem dX7_tally_68 : decode cX7_tally 68 = .ok (.istore 6, 2) := by decide +kernel
theorem dX7_tally_70 : decode cX7_tally 70 = .ok (.aload_n 0, 1) := by decide +kernel
theorem dX7_tally_71 : decode cX7_tally 71 = .ok (.getfield 15, 3) := by decide +kernel
theorem dX7_tally_74 : decode cX7_tally 74 = .ok (.iload 6, 2) := by decide +kernel
theorem dX7_tally_76 : decode cX7_tally 76 = .ok (.baload, 1) := by decide +kernel
theorem dX7_tally_77 : decode cX7_tally 77 = .ok (.ifCond .ne 71, 3) := by decide +kernel
theorem dX7_tally_80 : decode cX7_tally 80 = .ok (.aload_n 0, 1) := by decide +kernel
theorem dX7_tally_81 : decode cX7_tally 81 = .ok (.getfield 15, 3) := by decide +kernel
theorem dX7_tally_84 : decode cX7_tally 84 = .ok (.iload 6, 2) := by decide +kernel
theorem dX7_tally_86 : decode cX7_tally 86 = .ok (.iconst 1, 1) := by decide +kernel
theorem dX7_tally_87 : decode cX7_tally 87 = .ok (.bastore, 1) := by decide +kernel
theorem dX7_tally_88 : decode cX7_tally 88 = .ok (.aload_n 0, 1) := by decide +kernel
theorem dX7_tally_89 : decode cX7_tally 89 = .ok (.aload_n 1, 1) := by decide +kernel
theorem dX7_tally_90 : decode cX7_tally 90 = .ok (.getfield 31, 3) := by decide +kernel
theorem dX7_tally_93 : decode cX7_tally 93 = .ok (.iload_n 2, 1) := by decide +kernel
theorem dX7_tally_94 : decode cX7_tally 94 = .ok (.baload, 1) := by decide +kernel
theorem dX7_tally_95 : decode cX7_tally 95 = .ok (.iload 6, 2) := by decide +kernel
theorem dX7_tally_97 : decode cX7_tally 97 = .ok (.aload_n 0, 1) := by decide +kernel
theorem dX7_tally_98 : decode cX7_tally 98 = .ok (.getfield 19, 3) := by decide +kernel
theorem dX7_tally_101 : decode cX7_tally 101 = .ok (.getfield 58, 3) := by decide +kernel
theorem dX7_tally_104 : decode cX7_tally 104 = .ok (.iload 5, 2) := by decide +kernel
theorem dX7_tally_106 : decode cX7_tally 106 = .ok (.iaload, 1) := by decide +kernel
theorem dX7_tally_107 : decode cX7_tally 107 = .ok (.invokevirtual 72, 3) := by decide +kernel
theorem dX7_tally_110 : decode cX7_tally 110 = .ok (.aload_n 0, 1) := by decide +kernel
theorem dX7_tally_111 : decode cX7_tally 111 = .ok (.getfield 76, 3) := by decide +kernel
theorem dX7_tally_114 : decode cX7_tally 114 = .ok (.istore 7, 2) := by decide +kernel
theorem dX7_tally_116 : decode cX7_tally 116 = .ok (.aload_n 0, 1) := by decide +kernel
theorem dX7_tally_117 : decode cX7_tally 117 = .ok (.aload_n 1, 1) := by decide +kernel
theorem dX7_tally_118 : decode cX7_tally 118 = .ok (.getfield 79, 3) := by decide +kernel
theorem dX7_tally_121 : decode cX7_tally 121 = .ok (.invokevirtual 82, 3) := by decide +kernel
theorem dX7_tally_124 : decode cX7_tally 124 = .ok (.iload 4, 2) := by decide +kernel
theorem dX7_tally_126 : decode cX7_tally 126 = .ok (.ifCond .eq 22, 3) := by decide +kernel
theorem dX7_tally_129 : decode cX7_tally 129 = .ok (.aload_n 0, 1) := by decide +kernel
theorem dX7_tally_130 : decode cX7_tally 130 = .ok (.getfield 76, 3) := by decide +kernel
theorem dX7_tally_133 : decode cX7_tally 133 = .ok (.iload 7, 2) := by decide +kernel
theorem dX7_tally_135 : decode cX7_tally 135 = .ok (.if_icmp .le 13, 3) := by decide +kernel
theorem dX7_tally_138 : decode cX7_tally 138 = .ok (.aload_n 0, 1) := by decide +kernel
theorem dX7_tally_139 : decode cX7_tally 139 = .ok (.aload_n 0, 1) := by decide +kernel
theorem dX7_tally_140 : decode cX7_tally 140 = .ok (.aload_n 1, 1) := by decide +kernel
theorem dX7_tally_141 : decode cX7_tally 141 = .ok (.iload_n 2, 1) := by decide +kernel
theorem dX7_tally_142 : decode cX7_tally 142 = .ok (.invokevirtual 86, 3) := by decide +kernel
theorem dX7_tally_145 : decode cX7_tally 145 = .ok (.putfield 68, 3) := by decide +kernel
theorem dX7_tally_148 : decode cX7_tally 148 = .ok (.iinc 5 1, 3) := by decide +kernel
theorem dX7_tally_151 : decode cX7_tally 151 = .ok (.goto (-137), 3) := by decide +kernel
theorem dX7_tally_154 : decode cX7_tally 154 = .ok (.return_, 1) := by decide +kernel
theorem dX7_clear_0 : decode cX7_clear 0 = .ok (.iconst 0, 1) := by decide +kernel
theorem dX7_clear_1 : decode cX7_clear 1 = .ok (.istore_n 1, 1) := by decide +kernel
theorem dX7_clear_2 : decode cX7_clear 2 = .ok (.iload_n 1, 1) := by decide +kernel
theorem dX7_clear_3 : decode cX7_clear 3 = .ok (.bipush 30, 2) := by decide +kernel
theorem dX7_clear_5 : decode cX7_clear 5 = .ok (.if_icmp .ge 16, 3) := by decide +kernel
theorem dX7_clear_8 : decode cX7_clear 8 = .ok (.aload_n 0, 1) := by decide +kernel
theorem dX7_clear_9 : decode cX7_clear 9 = .ok (.getfield 15, 3) := by decide +kernel
theorem dX7_clear_12 : decode cX7_clear 12 = .ok (.iload_n 1, 1) := by decide +kernel
theorem dX7_clear_13 : decode cX7_clear 13 = .ok (.iconst 0, 1) := by decide +kernel
theorem dX7_clear_14 : decode cX7_clear 14 = .ok (.bastore, 1) := by decide +kernel
theorem dX7_clear_15 : decode cX7_clear 15 = .ok (.iinc 1 1, 3) := by decide +kernel
theorem dX7_clear_18 : decode cX7_clear 18 = .ok (.goto (-16), 3) := by decide +kernel
theorem dX7_clear_21 : decode cX7_clear 21 = .ok (.aload_n 0, 1) := by decide +kernel
theorem dX7_clear_22 : decode cX7_clear 22 = .ok (.iconst 0, 1) := by decide +kernel
theorem dX7_clear_23 : decode cX7_clear 23 = .ok (.putfield 90, 3) := by decide +kernel
theorem dX7_clear_26 : decode cX7_clear 26 = .ok (.aload_n 0, 1) := by decide +kernel
theorem dX7_clear_27 : decode cX7_clear 27 = .ok (.iconst 0, 1) := by decide +kernel
theorem dX7_clear_28 : decode cX7_clear 28 = .ok (.putfield 93, 3) := by decide +kernel
theorem dX7_clear_31 : decode cX7_clear 31 = .ok (.aload_n 0, 1) := by decide +kernel
theorem dX7_clear_32 : decode cX7_clear 32 = .ok (.iconst 0, 1) := by decide +kernel
theorem dX7_clear_33 : decode cX7_clear 33 = .ok (.putfield 96, 3) := by decide +kernel
theorem dX7_clear_36 : decode cX7_clear 36 = .ok (.aload_n 0, 1) := by decide +kernel
theorem dX7_clear_37 : decode cX7_clear 37 = .ok (.iconst 0, 1) := by decide +kernel
theorem dX7_clear_38 : decode cX7_clear 38 = .ok (.putfield 99, 3) := by decide +kernel
theorem dX7_clear_41 : decode cX7_clear 41 = .ok (.aload_n 0, 1) := by decide +kernel
theorem dX7_clear_42 : decode cX7_clear 42 = .ok (.iconst 0, 1) := by decide +kernel
theorem dX7_clear_43 : decode cX7_clear 43 = .ok (.putfield 68, 3) := by decide +kernel
theorem dX7_clear_46 : decode cX7_clear 46 = .ok (.aload_n 0, 1) := by decide +kernel
theorem dX7_clear_47 : decode cX7_clear 47 = .ok (.iconst 0, 1) := by decide +kernel
theorem dX7_clear_48 : decode cX7_clear 48 = .ok (.putfield 76, 3) := by decide +kernel
theorem dX7_clear_51 : decode cX7_clear 51 = .ok (.aload_n 0, 1) := by decide +kernel
theorem dX7_clear_52 : decode cX7_clear 52 = .ok (.iconst 0, 1) := by decide +kernel
theorem dX7_clear_53 : decode cX7_clear 53 = .ok (.putfield 102, 3) := by decide +kernel
theorem dX7_clear_56 : decode cX7_clear 56 = .ok (.return_, 1) := by decide +kernel
theorem dX7_hear_0 : decode cX7_hear 0 = .ok (.iload_n 1, 1) := by decide +kernel
theorem dX7_hear_1 : decode cX7_hear 1 = .ok (.ifCond .eq 7, 3) := by decide +kernel
theorem dX7_hear_4 : decode cX7_hear 4 = .ok (.iconst 3, 1) := by decide +kernel
theorem dX7_hear_5 : decode cX7_hear 5 = .ok (.goto 4, 3) := by decide +kernel
theorem dX7_hear_8 : decode cX7_hear 8 = .ok (.iconst 2, 1) := by decide +kernel
theorem dX7_hear_9 : decode cX7_hear 9 = .ok (.istore 4, 2) := by decide +kernel
theorem dX7_hear_11 : decode cX7_hear 11 = .ok (.iload_n 2, 1) := by decide +kernel
theorem dX7_hear_12 : decode cX7_hear 12 = .ok (.iload 4, 2) := by decide +kernel
theorem dX7_hear_14 : decode cX7_hear 14 = .ok (.imul, 1) := by decide +kernel
theorem dX7_hear_15 : decode cX7_hear 15 = .ok (.istore 5, 2) := by decide +kernel
theorem dX7_hear_17 : decode cX7_hear 17 = .ok (.aload_n 0, 1) := by decide +kernel
theorem dX7_hear_18 : decode cX7_hear 18 = .ok (.iload 5, 2) := by decide +kernel
theorem dX7_hear_20 : decode cX7_hear 20 = .ok (.iload 5, 2) := by decide +kernel
theorem dX7_hear_22 : decode cX7_hear 22 = .ok (.iload 4, 2) := by decide +kernel
theorem dX7_hear_24 : decode cX7_hear 24 = .ok (.invokevirtual 105, 3) := by decide +kernel
theorem dX7_hear_27 : decode cX7_hear 27 = .ok (.iload 4, 2) := by decide +kernel
theorem dX7_hear_29 : decode cX7_hear 29 = .ok (.if_icmp .ne 16, 3) := by decide +kernel
theorem dX7_hear_32 : decode cX7_hear 32 = .ok (.aload_n 0, 1) := by decide +kernel
theorem dX7_hear_33 : decode cX7_hear 33 = .ok (.dup, 1) := by decide +kernel
theorem dX7_hear_34 : decode cX7_hear 34 = .ok (.getfield 99, 3) := by decide +kernel
theorem dX7_hear_37 : decode cX7_hear 37 = .ok (.iconst 1, 1) := by decide +kernel
theorem dX7_hear_38 : decode cX7_hear 38 = .ok (.iadd, 1) := by decide +kernel
theorem dX7_hear_39 : decode cX7_hear 39 = .ok (.putfield 99, 3) := by decide +kernel
theorem dX7_hear_42 : decode cX7_hear 42 = .ok (.goto 74, 3) := by decide +kernel
theorem dX7_hear_45 : decode cX7_hear 45 = .ok (.iload_n 3, 1) := by decide +kernel
theorem dX7_hear_46 : decode cX7_hear 46 = .ok (.iconst (-1), 1) := by decide +kernel
theorem dX7_hear_47 : decode cX7_hear 47 = .ok (.if_icmp .ne 16, 3) := by decide +kernel
theorem dX7_hear_50 : decode cX7_hear 50 = .ok (.aload_n 0, 1) := by decide +kernel
theorem dX7_hear_51 : decode cX7_hear 51 = .ok (.dup, 1) := by decide +kernel
theorem dX7_hear_52 : decode cX7_hear 52 = .ok (.getfield 96, 3) := by decide +kernel
theorem dX7_hear_55 : decode cX7_hear 55 = .ok (.iconst 1, 1) := by decide +kernel
theorem dX7_hear_56 : decode cX7_hear 56 = .ok (.iadd, 1) := by decide +kernel
theorem dX7_hear_57 : decode cX7_hear 57 = .ok (.putfield 96, 3) := by decide +kernel
theorem dX7_hear_60 : decode cX7_hear 60 = .ok (.goto 56, 3) := by decide +kernel
theorem dX7_hear_63 : decode cX7_hear 63 = .ok (.iload_n 1, 1) := by decide +kernel
theorem dX7_hear_64 : decode cX7_hear 64 = .ok (.ifCond .eq 19, 3) := by decide +kernel
theorem dX7_hear_67 : decode cX7_hear 67 = .ok (.aload_n 0, 1) := by decide +kernel
theorem dX7_hear_68 : decode cX7_hear 68 = .ok (.iload_n 3, 1) := by decide +kernel
theorem dX7_hear_69 : decode cX7_hear 69 = .ok (.iload 5, 2) := by decide +kernel
theorem dX7_hear_71 : decode cX7_hear 71 = .ok (.iload 4, 2) := by decide +kernel
theorem dX7_hear_73 : decode cX7_hear 73 = .ok (.invokevirtual 105, 3) := by decide +kernel
theorem dX7_hear_76 : decode cX7_hear 76 = .ok (.iconst 1, 1) := by decide +kernel
theorem dX7_hear_77 : decode cX7_hear 77 = .ok (.if_icmp .ne 29, 3) := by decide +kernel
theorem dX7_hear_80 : decode cX7_hear 80 = .ok (.goto 13, 3) := by decide +kernel
theorem dX7_hear_83 : decode cX7_hear 83 = .ok (.aload_n 0, 1) := by decide +kernel
theorem dX7_hear_84 : decode cX7_hear 84 = .ok (.getfield 9, 3) := by decide +kernel
theorem dX7_hear_87 : decode cX7_hear 87 = .ok (.iload_n 3, 1) := by decide +kernel
theorem dX7_hear_88 : decode cX7_hear 88 = .ok (.iaload, 1) := by decide +kernel
theorem dX7_hear_89 : decode cX7_hear 89 = .ok (.iconst 1, 1) := by decide +kernel
theorem dX7_hear_90 : decode cX7_hear 90 = .ok (.if_icmp .ne 16, 3) := by decide +kernel
theorem dX7_hear_93 : decode cX7_hear 93 = .ok (.aload_n 0, 1) := by decide +kernel
theorem dX7_hear_94 : decode cX7_hear 94 = .ok (.dup, 1) := by decide +kernel
theorem dX7_hear_95 : decode cX7_hear 95 = .ok (.getfield 90, 3) := by decide +kernel
theorem dX7_hear_98 : decode cX7_hear 98 = .ok (.iconst 1, 1) := by decide +kernel
theorem dX7_hear_99 : decode cX7_hear 99 = .ok (.iadd, 1) := by decide +kernel
theorem dX7_hear_100 : decode cX7_hear 100 = .ok (.putfield 90, 3) := by decide +kernel
theorem dX7_hear_103 : decode cX7_hear 103 = .ok (.goto 13, 3) := by decide +kernel
theorem dX7_hear_106 : decode cX7_hear 106 = .ok (.aload_n 0, 1) := by decide +kernel
theorem dX7_hear_107 : decode cX7_hear 107 = .ok (.dup, 1) := by decide +kernel
theorem dX7_hear_108 : decode cX7_hear 108 = .ok (.getfield 93, 3) := by decide +kernel
theorem dX7_hear_111 : decode cX7_hear 111 = .ok (.iconst 1, 1) := by decide +kernel
theorem dX7_hear_112 : decode cX7_hear 112 = .ok (.iadd, 1) := by decide +kernel
theorem dX7_hear_113 : decode cX7_hear 113 = .ok (.putfield 93, 3) := by decide +kernel
theorem dX7_hear_116 : decode cX7_hear 116 = .ok (.return_, 1) := by decide +kernel
theorem dX7_likeCups_0 : decode cX7_likeCups 0 = .ok (.iconst 0, 1) := by decide +kernel
theorem dX7_likeCups_1 : decode cX7_likeCups 1 = .ok (.istore 4, 2) := by decide +kernel
theorem dX7_likeCups_3 : decode cX7_likeCups 3 = .ok (.iload_n 2, 1) := by decide +kernel
theorem dX7_likeCups_4 : decode cX7_likeCups 4 = .ok (.istore 5, 2) := by decide +kernel
theorem dX7_likeCups_6 : decode cX7_likeCups 6 = .ok (.iload 5, 2) := by decide +kernel
theorem dX7_likeCups_8 : decode cX7_likeCups 8 = .ok (.iload_n 2, 1) := by decide +kernel
theorem dX7_likeCups_9 : decode cX7_likeCups 9 = .ok (.iload_n 3, 1) := by decide +kernel
theorem dX7_likeCups_10 : decode cX7_likeCups 10 = .ok (.iadd, 1) := by decide +kernel
theorem dX7_likeCups_11 : decode cX7_likeCups 11 = .ok (.if_icmp .ge 28, 3) := by decide +kernel
theorem dX7_likeCups_14 : decode cX7_likeCups 14 = .ok (.aload_n 0, 1) := by decide +kernel
theorem dX7_likeCups_15 : decode cX7_likeCups 15 = .ok (.getfield 9, 3) := by decide +kernel
theorem dX7_likeCups_18 : decode cX7_likeCups 18 = .ok (.iload 5, 2) := by decide +kernel
theorem dX7_likeCups_20 : decode cX7_likeCups 20 = .ok (.iaload, 1) := by decide +kernel
theorem dX7_likeCups_21 : decode cX7_likeCups 21 = .ok (.aload_n 0, 1) := by decide +kernel
theorem dX7_likeCups_22 : decode cX7_likeCups 22 = .ok (.getfield 9, 3) := by decide +kernel
theorem dX7_likeCups_25 : decode cX7_likeCups 25 = .ok (.iload_n 1, 1) := by decide +kernel
theorem dX7_likeCups_26 : decode cX7_likeCups 26 = .ok (.iaload, 1) := by decide +kernel
theorem dX7_likeCups_27 : decode cX7_likeCups 27 = .ok (.if_icmp .ne 6, 3) := by decide +kernel
theorem dX7_likeCups_30 : decode cX7_likeCups 30 = .ok (.iinc 4 1, 3) := by decide +kernel
theorem dX7_likeCups_33 : decode cX7_likeCups 33 = .ok (.iinc 5 1, 3) := by decide +kernel
theorem dX7_likeCups_36 : decode cX7_likeCups 36 = .ok (.goto (-30), 3) := by decide +kernel
theorem dX7_likeCups_39 : decode cX7_likeCups 39 = .ok (.iload 4, 2) := by decide +kernel
theorem dX7_likeCups_41 : decode cX7_likeCups 41 = .ok (.ireturn, 1) := by decide +kernel
theorem dX7_count_0 : decode cX7_count 0 = .ok (.aload_n 0, 1) := by decide +kernel
theorem dX7_count_1 : decode cX7_count 1 = .ok (.aload_n 0, 1) := by decide +kernel
theorem dX7_count_2 : decode cX7_count 2 = .ok (.getfield 90, 3) := by decide +kernel
theorem dX7_count_5 : decode cX7_count 5 = .ok (.aload_n 0, 1) := by decide +kernel
theorem dX7_count_6 : decode cX7_count 6 = .ok (.getfield 93, 3) := by decide +kernel
theorem dX7_count_9 : decode cX7_count 9 = .ok (.iadd, 1) := by decide +kernel
theorem dX7_count_10 : decode cX7_count 10 = .ok (.iload_n 1, 1) := by decide +kernel
theorem dX7_count_11 : decode cX7_count 11 = .ok (.bipush 9, 2) := by decide +kernel
theorem dX7_count_13 : decode cX7_count 13 = .ok (.if_icmp .ne 7, 3) := by decide +kernel
theorem dX7_count_16 : decode cX7_count 16 = .ok (.iconst 0, 1) := by decide +kernel
theorem dX7_count_17 : decode cX7_count 17 = .ok (.goto 7, 3) := by decide +kernel
theorem dX7_count_20 : decode cX7_count 20 = .ok (.aload_n 0, 1) := by decide +kernel
theorem dX7_count_21 : decode cX7_count 21 = .ok (.getfield 96, 3) := by decide +kernel
theorem dX7_count_24 : decode cX7_count 24 = .ok (.iadd, 1) := by decide +kernel
theorem dX7_count_25 : decode cX7_count 25 = .ok (.putfield 76, 3) := by decide +kernel
theorem dX7_count_28 : decode cX7_count 28 = .ok (.aload_n 0, 1) := by decide +kernel
theorem dX7_count_29 : decode cX7_count 29 = .ok (.aload_n 0, 1) := by decide +kernel
theorem dX7_count_30 : decode cX7_count 30 = .ok (.getfield 90, 3) := by decide +kernel
theorem dX7_count_33 : decode cX7_count 33 = .ok (.iload_n 1, 1) := by decide +kernel
theorem dX7_count_34 : decode cX7_count 34 = .ok (.bipush 8, 2) := by decide +kernel
theorem dX7_count_36 : decode cX7_count 36 = .ok (.if_icmp .ne 12, 3) := by decide +kernel
theorem dX7_count_39 : decode cX7_count 39 = .ok (.aload_n 0, 1) := by decide +kernel
theorem dX7_count_40 : decode cX7_count 40 = .ok (.getfield 96, 3) := by decide +kernel
theorem dX7_count_43 : decode cX7_count 43 = .ok (.iconst 2, 1) := by decide +kernel
theorem dX7_count_44 : decode cX7_count 44 = .ok (.idiv, 1) := by decide +kernel
theorem dX7_count_45 : decode cX7_count 45 = .ok (.goto 4, 3) := by decide +kernel
theorem dX7_count_48 : decode cX7_count 48 = .ok (.iconst 0, 1) := by decide +kernel
theorem dX7_count_49 : decode cX7_count 49 = .ok (.iadd, 1) := by decide +kernel
theorem dX7_count_50 : decode cX7_count 50 = .ok (.putfield 102, 3) := by decide +kernel
theorem dX7_count_53 : decode cX7_count 53 = .ok (.return_, 1) := by decide +kernel
theorem dX7_lookThatStops_0 : decode cX7_lookThatStops 0 = .ok (.iconst 0, 1) := by decide +kernel
theorem dX7_lookThatStops_1 : decode cX7_lookThatStops 1 = .ok (.istore_n 3, 1) := by decide +kernel
theorem dX7_lookThatStops_2 : decode cX7_lookThatStops 2 = .ok (.iload_n 3, 1) := by decide +kernel
theorem dX7_lookThatStops_3 : decode cX7_lookThatStops 3 = .ok (.aload_n 1, 1) := by decide +kernel
theorem dX7_lookThatStops_4 : decode cX7_lookThatStops 4 = .ok (.getfield 109, 3) := by decide +kernel
theorem dX7_lookThatStops_7 : decode cX7_lookThatStops 7 = .ok (.iload_n 2, 1) := by decide +kernel
theorem dX7_lookThatStops_8 : decode cX7_lookThatStops 8 = .ok (.iaload, 1) := by decide +kernel
theorem dX7_lookThatStops_9 : decode cX7_lookThatStops 9 = .ok (.if_icmp .ge 80, 3) := by decide +kernel
theorem dX7_lookThatStops_12 : decode cX7_lookThatStops 12 = .ok (.iload_n 2, 1) := by decide +kernel
theorem dX7_lookThatStops_13 : decode cX7_lookThatStops 13 = .ok (.iconst 5, 1) := by decide +kernel
theorem dX7_lookThatStops_14 : decode cX7_lookThatStops 14 = .ok (.imul, 1) := by decide +kernel
theorem dX7_lookThatStops_15 : decode cX7_lookThatStops 15 = .ok (.iload_n 3, 1) := by decide +kernel
theorem dX7_lookThatStops_16 : decode cX7_lookThatStops 16 = .ok (.iadd, 1) := by decide +kernel
theorem dX7_lookThatStops_17 : decode cX7_lookThatStops 17 = .ok (.istore 4, 2) := by decide +kernel
theorem dX7_lookThatStops_19 : decode cX7_lookThatStops 19 = .ok (.aload_n 1, 1) := by decide +kernel
theorem dX7_lookThatStops_20 : decode cX7_lookThatStops 20 = .ok (.getfield 112, 3) := by decide +kernel
theorem dX7_lookThatStops_23 : decode cX7_lookThatStops 23 = .ok (.iload 4, 2) := by decide +kernel
theorem dX7_lookThatStops_25 : decode cX7_lookThatStops 25 = .ok (.iaload, 1) := by decide +kernel
theorem dX7_lookThatStops_26 : decode cX7_lookThatStops 26 = .ok (.aload_n 0, 1) := by decide +kernel
theorem dX7_lookThatStops_27 : decode cX7_lookThatStops 27 = .ok (.getfield 76, 3) := by decide +kernel
theorem dX7_lookThatStops_30 : decode cX7_lookThatStops 30 = .ok (.if_icmp .ne 53, 3) := by decide +kernel
theorem dX7_lookThatStops_33 : decode cX7_lookThatStops 33 = .ok (.aload_n 0, 1) := by decide +kernel
theorem dX7_lookThatStops_34 : decode cX7_lookThatStops 34 = .ok (.getfield 23, 3) := by decide +kernel
theorem dX7_lookThatStops_37 : decode cX7_lookThatStops 37 = .ok (.aload_n 1, 1) := by decide +kernel
theorem dX7_lookThatStops_38 : decode cX7_lookThatStops 38 = .ok (.getfield 31, 3) := by decide +kernel
theorem dX7_lookThatStops_41 : decode cX7_lookThatStops 41 = .ok (.iload_n 2, 1) := by decide +kernel
theorem dX7_lookThatStops_42 : decode cX7_lookThatStops 42 = .ok (.baload, 1) := by decide +kernel
theorem dX7_lookThatStops_43 : decode cX7_lookThatStops 43 = .ok (.aload_n 0, 1) := by decide +kernel
theorem dX7_lookThatStops_44 : decode cX7_lookThatStops 44 = .ok (.getfield 102, 3) := by decide +kernel
theorem dX7_lookThatStops_47 : decode cX7_lookThatStops 47 = .ok (.aload_n 0, 1) := by decide +kernel
theorem dX7_lookThatStops_48 : decode cX7_lookThatStops 48 = .ok (.getfield 76, 3) := by decide +kernel
theorem dX7_lookThatStops_51 : decode cX7_lookThatStops 51 = .ok (.aload_n 1, 1) := by decide +kernel
theorem dX7_lookThatStops_52 : decode cX7_lookThatStops 52 = .ok (.getfield 115, 3) := by decide +kernel
theorem dX7_lookThatStops_55 : decode cX7_lookThatStops 55 = .ok (.iload 4, 2) := by decide +kernel
theorem dX7_lookThatStops_57 : decode cX7_lookThatStops 57 = .ok (.iaload, 1) := by decide +kernel
theorem dX7_lookThatStops_58 : decode cX7_lookThatStops 58 = .ok (.aload_n 1, 1) := by decide +kernel
theorem dX7_lookThatStops_59 : decode cX7_lookThatStops 59 = .ok (.getfield 118, 3) := by decide +kernel
theorem dX7_lookThatStops_62 : decode cX7_lookThatStops 62 = .ok (.iload 4, 2) := by decide +kernel
theorem dX7_lookThatStops_64 : decode cX7_lookThatStops 64 = .ok (.iaload, 1) := by decide +kernel
theorem dX7_lookThatStops_65 : decode cX7_lookThatStops 65 = .ok (.invokevirtual 121, 3) := by decide +kernel
theorem dX7_lookThatStops_68 : decode cX7_lookThatStops 68 = .ok (.istore 5, 2) := by decide +kernel
theorem dX7_lookThatStops_70 : decode cX7_lookThatStops 70 = .ok (.iload 5, 2) := by decide +kernel
theorem dX7_lookThatStops_72 : decode cX7_lookThatStops 72 = .ok (.ifCond .eq 9, 3) := by decide +kernel
theorem dX7_lookThatStops_75 : decode cX7_lookThatStops 75 = .ok (.iload_n 3, 1) := by decide +kernel
theorem dX7_lookThatStops_76 : decode cX7_lookThatStops 76 = .ok (.iconst 1, 1) := by decide +kernel
theorem dX7_lookThatStops_77 : decode cX7_lookThatStops 77 = .ok (.iadd, 1) := by decide +kernel
theorem dX7_lookThatStops_78 : decode cX7_lookThatStops 78 = .ok (.goto 4, 3) := by decide +kernel
theorem dX7_lookThatStops_81 : decode cX7_lookThatStops 81 = .ok (.iconst 0, 1) := by decide +kernel
theorem dX7_lookThatStops_82 : decode cX7_lookThatStops 82 = .ok (.ireturn, 1) := by decide +kernel
theorem dX7_lookThatStops_83 : decode cX7_lookThatStops 83 = .ok (.iinc 3 1, 3) := by decide +kernel
theorem dX7_lookThatStops_86 : decode cX7_lookThatStops 86 = .ok (.goto (-84), 3) := by decide +kernel
theorem dX7_lookThatStops_89 : decode cX7_lookThatStops 89 = .ok (.iconst 0, 1) := by decide +kernel
theorem dX7_lookThatStops_90 : decode cX7_lookThatStops 90 = .ok (.ireturn, 1) := by decide +kernel
theorem dX7_measure_0 : decode cX7_measure 0 = .ok (.aload_n 0, 1) := by decide +kernel
theorem dX7_measure_1 : decode cX7_measure 1 = .ok (.aload_n 1, 1) := by decide +kernel
theorem dX7_measure_2 : decode cX7_measure 2 = .ok (.iload_n 2, 1) := by decide +kernel
theorem dX7_measure_3 : decode cX7_measure 3 = .ok (.iload_n 3, 1) := by decide +kernel
theorem dX7_measure_4 : decode cX7_measure 4 = .ok (.iconst 1, 1) := by decide +kernel
theorem dX7_measure_5 : decode cX7_measure 5 = .ok (.invokevirtual 127, 3) := by decide +kernel
theorem dX7_measure_8 : decode cX7_measure 8 = .ok (.aload_n 1, 1) := by decide +kernel
theorem dX7_measure_9 : decode cX7_measure 9 = .ok (.getfield 31, 3) := by decide +kernel
theorem dX7_measure_12 : decode cX7_measure 12 = .ok (.iload_n 2, 1) := by decide +kernel
theorem dX7_measure_13 : decode cX7_measure 13 = .ok (.baload, 1) := by decide +kernel
theorem dX7_measure_14 : decode cX7_measure 14 = .ok (.istore 5, 2) := by decide +kernel
theorem dX7_measure_16 : decode cX7_measure 16 = .ok (.iload 4, 2) := by decide +kernel
theorem dX7_measure_18 : decode cX7_measure 18 = .ok (.tableswitch 143 0 9 #[54, 59, 64, 69, 74, 79, 84, 89, 107, 125], 54) := by decide +kernel
theorem dX7_measure_72 : decode cX7_measure 72 = .ok (.aload_n 0, 1) := by decide +kernel
theorem dX7_measure_73 : decode cX7_measure 73 = .ok (.getfield 90, 3) := by decide +kernel
theorem dX7_measure_76 : decode cX7_measure 76 = .ok (.ireturn, 1) := by decide +kernel
theorem dX7_measure_77 : decode cX7_measure 77 = .ok (.aload_n 0, 1) := by decide +kernel
theorem dX7_measure_78 : decode cX7_measure 78 = .ok (.getfield 93, 3) := by decide +kernel
theorem dX7_measure_81 : decode cX7_measure 81 = .ok (.ireturn, 1) := by decide +kernel
theorem dX7_measure_82 : decode cX7_measure 82 = .ok (.aload_n 0, 1) := by decide +kernel
theorem dX7_measure_83 : decode cX7_measure 83 = .ok (.getfield 96, 3) := by decide +kernel
theorem dX7_measure_86 : decode cX7_measure 86 = .ok (.ireturn, 1) := by decide +kernel
theorem dX7_measure_87 : decode cX7_measure 87 = .ok (.aload_n 0, 1) := by decide +kernel
theorem dX7_measure_88 : decode cX7_measure 88 = .ok (.getfield 76, 3) := by decide +kernel
theorem dX7_measure_91 : decode cX7_measure 91 = .ok (.ireturn, 1) := by decide +kernel
theorem dX7_measure_92 : decode cX7_measure 92 = .ok (.aload_n 0, 1) := by decide +kernel
theorem dX7_measure_93 : decode cX7_measure 93 = .ok (.getfield 102, 3) := by decide +kernel
theorem dX7_measure_96 : decode cX7_measure 96 = .ok (.ireturn, 1) := by decide +kernel
theorem dX7_measure_97 : decode cX7_measure 97 = .ok (.aload_n 0, 1) := by decide +kernel
theorem dX7_measure_98 : decode cX7_measure 98 = .ok (.getfield 68, 3) := by decide +kernel
theorem dX7_measure_101 : decode cX7_measure 101 = .ok (.ireturn, 1) := by decide +kernel
theorem dX7_measure_102 : decode cX7_measure 102 = .ok (.aload_n 0, 1) := by decide +kernel
theorem dX7_measure_103 : decode cX7_measure 103 = .ok (.getfield 99, 3) := by decide +kernel
theorem dX7_measure_106 : decode cX7_measure 106 = .ok (.ireturn, 1) := by decide +kernel
theorem dX7_measure_107 : decode cX7_measure 107 = .ok (.aload_n 0, 1) := by decide +kernel
theorem dX7_measure_108 : decode cX7_measure 108 = .ok (.getfield 23, 3) := by decide +kernel
theorem dX7_measure_111 : decode cX7_measure 111 = .ok (.iload 5, 2) := by decide +kernel
theorem dX7_measure_113 : decode cX7_measure 113 = .ok (.aload_n 0, 1) := by decide +kernel
theorem dX7_measure_114 : decode cX7_measure 114 = .ok (.getfield 102, 3) := by decide +kernel
theorem dX7_measure_117 : decode cX7_measure 117 = .ok (.aload_n 0, 1) := by decide +kernel
theorem dX7_measure_118 : decode cX7_measure 118 = .ok (.getfield 76, 3) := by decide +kernel
theorem dX7_measure_121 : decode cX7_measure 121 = .ok (.invokevirtual 131, 3) := by decide +kernel
theorem dX7_measure_124 : decode cX7_measure 124 = .ok (.ireturn, 1) := by decide +kernel
theorem dX7_measure_125 : decode cX7_measure 125 = .ok (.aload_n 0, 1) := by decide +kernel
theorem dX7_measure_126 : decode cX7_measure 126 = .ok (.getfield 23, 3) := by decide +kernel
theorem dX7_measure_129 : decode cX7_measure 129 = .ok (.iload 5, 2) := by decide +kernel
theorem dX7_measure_131 : decode cX7_measure 131 = .ok (.aload_n 0, 1) := by decide +kernel
theorem dX7_measure_132 : decode cX7_measure 132 = .ok (.getfield 102, 3) := by decide +kernel
theorem dX7_measure_135 : decode cX7_measure 135 = .ok (.aload_n 0, 1) := by decide +kernel
theorem dX7_measure_136 : decode cX7_measure 136 = .ok (.getfield 76, 3) := by decide +kernel
theorem dX7_measure_139 : decode cX7_measure 139 = .ok (.invokevirtual 135, 3) := by decide +kernel
theorem dX7_measure_142 : decode cX7_measure 142 = .ok (.ireturn, 1) := by decide +kernel
theorem dX7_measure_143 : decode cX7_measure 143 = .ok (.aload_n 0, 1) := by decide +kernel
theorem dX7_measure_144 : decode cX7_measure 144 = .ok (.getfield 23, 3) := by decide +kernel
theorem dX7_measure_147 : decode cX7_measure 147 = .ok (.iload 5, 2) := by decide +kernel
theorem dX7_measure_149 : decode cX7_measure 149 = .ok (.aload_n 0, 1) := by decide +kernel
theorem dX7_measure_150 : decode cX7_measure 150 = .ok (.getfield 102, 3) := by decide +kernel
theorem dX7_measure_153 : decode cX7_measure 153 = .ok (.aload_n 0, 1) := by decide +kernel
theorem dX7_measure_154 : decode cX7_measure 154 = .ok (.getfield 76, 3) := by decide +kernel
theorem dX7_measure_157 : decode cX7_measure 157 = .ok (.invokevirtual 138, 3) := by decide +kernel
theorem dX7_measure_160 : decode cX7_measure 160 = .ok (.ireturn, 1) := by decide +kernel
theorem dX7_measure_161 : decode cX7_measure 161 = .ok (.iconst (-1), 1) := by decide +kernel
theorem dX7_measure_162 : decode cX7_measure 162 = .ok (.ireturn, 1) := by decide +kernel
theorem dX8_init_0 : decode cX8_init 0 = .ok (.aload_n 0, 1) := by decide +kernel
theorem dX8_init_1 : decode cX8_init 1 = .ok (.invokespecial 3, 3) := by decide +kernel
theorem dX8_init_4 : decode cX8_init 4 = .ok (.new 9, 3) := by decide +kernel
theorem dX8_init_7 : decode cX8_init 7 = .ok (.dup, 1) := by decide +kernel
theorem dX8_init_8 : decode cX8_init 8 = .ok (.invokespecial 11, 3) := by decide +kernel
theorem dX8_init_11 : decode cX8_init 11 = .ok (.astore_n 1, 1) := by decide +kernel
theorem dX8_init_12 : decode cX8_init 12 = .ok (.new 12, 3) := by decide +kernel
theorem dX8_init_15 : decode cX8_init 15 = .ok (.dup, 1) := by decide +kernel
theorem dX8_init_16 : decode cX8_init 16 = .ok (.invokespecial 14, 3) := by decide +kernel
theorem dX8_init_19 : decode cX8_init 19 = .ok (.astore_n 2, 1) := by decide +kernel
theorem dX8_init_20 : decode cX8_init 20 = .ok (.new 15, 3) := by decide +kernel
theorem dX8_init_23 : decode cX8_init 23 = .ok (.dup, 1) := by decide +kernel
theorem dX8_init_24 : decode cX8_init 24 = .ok (.aload_n 1, 1) := by decide +kernel
theorem dX8_init_25 : decode cX8_init 25 = .ok (.aload_n 2, 1) := by decide +kernel
theorem dX8_init_26 : decode cX8_init 26 = .ok (.invokespecial 17, 3) := by decide +kernel
theorem dX8_init_29 : decode cX8_init 29 = .ok (.astore_n 3, 1) := by decide +kernel
theorem dX8_init_30 : decode cX8_init 30 = .ok (.new 20, 3) := by decide +kernel
theorem dX8_init_33 : decode cX8_init 33 = .ok (.dup, 1) := by decide +kernel
theorem dX8_init_34 : decode cX8_init 34 = .ok (.aload_n 1, 1) := by decide +kernel
theorem dX8_init_35 : decode cX8_init 35 = .ok (.invokespecial 22, 3) := by decide +kernel
theorem dX8_init_38 : decode cX8_init 38 = .ok (.astore 4, 2) := by decide +kernel
theorem dX8_init_40 : decode cX8_init 40 = .ok (.aload_n 0, 1) := by decide +kernel
theorem dX8_init_41 : decode cX8_init 41 = .ok (.aload_n 1, 1) := by decide +kernel
theorem dX8_init_42 : decode cX8_init 42 = .ok (.putfield 25, 3) := by decide +kernel
theorem dX8_init_45 : decode cX8_init 45 = .ok (.aload_n 0, 1) := by decide +kernel
theorem dX8_init_46 : decode cX8_init 46 = .ok (.aload_n 2, 1) := by decide +kernel
theorem dX8_init_47 : decode cX8_init 47 = .ok (.putfield 29, 3) := by decide +kernel
theorem dX8_init_50 : decode cX8_init 50 = .ok (.aload_n 0, 1) := by decide +kernel
theorem dX8_init_51 : decode cX8_init 51 = .ok (.aload_n 3, 1) := by decide +kernel
theorem dX8_init_52 : decode cX8_init 52 = .ok (.putfield 33, 3) := by decide +kernel
theorem dX8_init_55 : decode cX8_init 55 = .ok (.aload_n 0, 1) := by decide +kernel
theorem dX8_init_56 : decode cX8_init 56 = .ok (.aload 4, 2) := by decide +kernel
theorem dX8_init_58 : decode cX8_init 58 = .ok (.putfield 37, 3) := by decide +kernel
theorem dX8_init_61 : decode cX8_init 61 = .ok (.aload_n 0, 1) := by decide +kernel
theorem dX8_init_62 : decode cX8_init 62 = .ok (.new 41, 3) := by decide +kernel
theorem dX8_init_65 : decode cX8_init 65 = .ok (.dup, 1) := by decide +kernel
theorem dX8_init_66 : decode cX8_init 66 = .ok (.aload_n 3, 1) := by decide +kernel
theorem dX8_init_67 : decode cX8_init 67 = .ok (.aload 4, 2) := by decide +kernel
theorem dX8_init_69 : decode cX8_init 69 = .ok (.invokespecial 43, 3) := by decide +kernel
theorem dX8_init_72 : decode cX8_init 72 = .ok (.putfield 46, 3) := by decide +kernel
theorem dX8_init_75 : decode cX8_init 75 = .ok (.aload_n 0, 1) := by decide +kernel
theorem dX8_init_76 : decode cX8_init 76 = .ok (.new 50, 3) := by decide +kernel
theorem dX8_init_79 : decode cX8_init 79 = .ok (.dup, 1) := by decide +kernel
theorem dX8_init_80 : decode cX8_init 80 = .ok (.new 52, 3) := by decide +kernel
theorem dX8_init_83 : decode cX8_init 83 = .ok (.dup, 1) := by decide +kernel
theorem dX8_init_84 : decode cX8_init 84 = .ok (.invokespecial 54, 3) := by decide +kernel
theorem dX8_init_87 : decode cX8_init 87 = .ok (.invokespecial 55, 3) := by decide +kernel
theorem dX8_init_90 : decode cX8_init 90 = .ok (.putfield 58, 3) := by decide +kernel
theorem dX8_init_93 : decode cX8_init 93 = .ok (.aload_n 0, 1) := by decide +kernel
theorem dX8_init_94 : decode cX8_init 94 = .ok (.new 62, 3) := by decide +kernel
theorem dX8_init_97 : decode cX8_init 97 = .ok (.dup, 1) := by decide +kernel
theorem dX8_init_98 : decode cX8_init 98 = .ok (.invokespecial 64, 3) := by decide +kernel
theorem dX8_init_101 : decode cX8_init 101 = .ok (.putfield 65, 3) := by decide +kernel
theorem dX8_init_104 : decode cX8_init 104 = .ok (.aload_n 0, 1) := by decide +kernel
theorem dX8_init_105 : decode cX8_init 105 = .ok (.new 52, 3) := by decide +kernel
theorem dX8_init_108 : decode cX8_init 108 = .ok (.dup, 1) := by decide +kernel
theorem dX8_init_109 : decode cX8_init 109 = .ok (.invokespecial 54, 3) := by decide +kernel
theorem dX8_init_112 : decode cX8_init 112 = .ok (.putfield 69, 3) := by decide +kernel
theorem dX8_init_115 : decode cX8_init 115 = .ok (.aload_n 0, 1) := by decide +kernel
theorem dX8_init_116 : decode cX8_init 116 = .ok (.iconst 0, 1) := by decide +kernel
theorem dX8_init_117 : decode cX8_init 117 = .ok (.putfield 73, 3) := by decide +kernel
theorem dX8_init_120 : decode cX8_init 120 = .ok (.aload_n 0, 1) := by decide +kernel
theorem dX8_init_121 : decode cX8_init 121 = .ok (.iconst 0, 1) := by decide +kernel
theorem dX8_init_122 : decode cX8_init 122 = .ok (.putfield 77, 3) := by decide +kernel
theorem dX8_init_125 : decode cX8_init 125 = .ok (.aload_n 0, 1) := by decide +kernel
theorem dX8_init_126 : decode cX8_init 126 = .ok (.iconst (-1), 1) := by decide +kernel
theorem dX8_init_127 : decode cX8_init 127 = .ok (.putfield 80, 3) := by decide +kernel
theorem dX8_init_130 : decode cX8_init 130 = .ok (.return_, 1) := by decide +kernel
theorem dX8_feed_0 : decode cX8_feed 0 = .ok (.aload_n 0, 1) := by decide +kernel
theorem dX8_feed_1 : decode cX8_feed 1 = .ok (.getfield 58, 3) := by decide +kernel
theorem dX8_feed_4 : decode cX8_feed 4 = .ok (.getfield 84, 3) := by decide +kernel
theorem dX8_feed_7 : decode cX8_feed 7 = .ok (.bipush 20, 2) := by decide +kernel
theorem dX8_feed_9 : decode cX8_feed 9 = .ok (.iadd, 1) := by decide +kernel
theorem dX8_feed_10 : decode cX8_feed 10 = .ok (.sipush 700, 3) := by decide +kernel
theorem dX8_feed_13 : decode cX8_feed 13 = .ok (.if_icmp .le 5, 3) := by decide +kernel
theorem dX8_feed_16 : decode cX8_feed 16 = .ok (.iconst (-1), 1) := by decide +kernel
theorem dX8_feed_17 : decode cX8_feed 17 = .ok (.ireturn, 1) := by decide +kernel
theorem dX8_feed_18 : decode cX8_feed 18 = .ok (.aload_n 0, 1) := by decide +kernel
theorem dX8_feed_19 : decode cX8_feed 19 = .ok (.getfield 58, 3) := by decide +kernel
theorem dX8_feed_22 : decode cX8_feed 22 = .ok (.iload_n 1, 1) := by decide +kernel
theorem dX8_feed_23 : decode cX8_feed 23 = .ok (.invokevirtual 87, 3) := by decide +kernel
theorem dX8_feed_26 : decode cX8_feed 26 = .ok (.aload_n 0, 1) := by decide +kernel
theorem dX8_feed_27 : decode cX8_feed 27 = .ok (.getfield 58, 3) := by decide +kernel
theorem dX8_feed_30 : decode cX8_feed 30 = .ok (.iload_n 2, 1) := by decide +kernel
theorem dX8_feed_31 : decode cX8_feed 31 = .ok (.invokevirtual 87, 3) := by decide +kernel
theorem dX8_feed_34 : decode cX8_feed 34 = .ok (.aload_n 0, 1) := by decide +kernel
theorem dX8_feed_35 : decode cX8_feed 35 = .ok (.getfield 58, 3) := by decide +kernel
theorem dX8_feed_38 : decode cX8_feed 38 = .ok (.iload_n 3, 1) := by decide +kernel
theorem dX8_feed_39 : decode cX8_feed 39 = .ok (.invokevirtual 87, 3) := by decide +kernel
theorem dX8_feed_42 : decode cX8_feed 42 = .ok (.aload_n 0, 1) := by decide +kernel
theorem dX8_feed_43 : decode cX8_feed 43 = .ok (.getfield 58, 3) := by decide +kernel
theorem dX8_feed_46 : decode cX8_feed 46 = .ok (.iload 4, 2) := by decide +kernel
theorem dX8_feed_48 : decode cX8_feed 48 = .ok (.invokevirtual 87, 3) := by decide +kernel
theorem dX8_feed_51 : decode cX8_feed 51 = .ok (.aload_n 0, 1) := by decide +kernel
theorem dX8_feed_52 : decode cX8_feed 52 = .ok (.getfield 58, 3) := by decide +kernel
theorem dX8_feed_55 : decode cX8_feed 55 = .ok (.iload 5, 2) := by decide +kernel
theorem dX8_feed_57 : decode cX8_feed 57 = .ok (.invokevirtual 87, 3) := by decide +kernel
theorem dX8_feed_60 : decode cX8_feed 60 = .ok (.aload_n 0, 1) := by decide +kernel
theorem dX8_feed_61 : decode cX8_feed 61 = .ok (.getfield 58, 3) := by decide +kernel
theorem dX8_feed_64 : decode cX8_feed 64 = .ok (.getfield 84, 3) := by decide +kernel
theorem dX8_feed_67 : decode cX8_feed 67 = .ok (.ireturn, 1) := by decide +kernel
theorem dX8_end_0 : decode cX8_end 0 = .ok (.iload_n 1, 1) := by decide +kernel
theorem dX8_end_1 : decode cX8_end 1 = .ok (.ifCond .lt 14, 3) := by decide +kernel
theorem dX8_end_4 : decode cX8_end 4 = .ok (.iload_n 1, 1) := by decide +kernel
theorem dX8_end_5 : decode cX8_end 5 = .ok (.aload_n 0, 1) := by decide +kernel
theorem dX8_end_6 : decode cX8_end 6 = .ok (.getfield 58, 3) := by decide +kernel
theorem dX8_end_9 : decode cX8_end 9 = .ok (.getfield 84, 3) := by decide +kernel
theorem dX8_end_12 : decode cX8_end 12 = .ok (.if_icmp .le 5, 3) := by decide +kernel
theorem dX8_end_15 : decode cX8_end 15 = .ok (.iconst 0, 1) := by decide +kernel
theorem dX8_end_16 : decode cX8_end 16 = .ok (.ireturn, 1) := by decide +kernel
theorem dX8_end_17 : decode cX8_end 17 = .ok (.aload_n 0, 1) := by decide +kernel
theorem dX8_end_18 : decode cX8_end 18 = .ok (.getfield 58, 3) := by decide +kernel
theorem dX8_end_21 : decode cX8_end 21 = .ok (.iload_n 1, 1) := by decide +kernel
theorem dX8_end_22 : decode cX8_end 22 = .ok (.putfield 84, 3) := by decide +kernel
theorem dX8_end_25 : decode cX8_end 25 = .ok (.iconst 1, 1) := by decide +kernel
theorem dX8_end_26 : decode cX8_end 26 = .ok (.ireturn, 1) := by decide +kernel
theorem dX8_plan_0 : decode cX8_plan 0 = .ok (.iload_n 1, 1) := by decide +kernel
theorem dX8_plan_1 : decode cX8_plan 1 = .ok (.ifCond .ge 6, 3) := by decide +kernel
theorem dX8_plan_4 : decode cX8_plan 4 = .ok (.bipush (-2), 2) := by decide +kernel
theorem dX8_plan_6 : decode cX8_plan 6 = .ok (.ireturn, 1) := by decide +kernel
theorem dX8_plan_7 : decode cX8_plan 7 = .ok (.aload_n 0, 1) := by decide +kernel
theorem dX8_plan_8 : decode cX8_plan 8 = .ok (.getfield 58, 3) := by decide +kernel
theorem dX8_plan_11 : decode cX8_plan 11 = .ok (.invokevirtual 91, 3) := by decide +kernel
theorem dX8_plan_14 : decode cX8_plan 14 = .ok (.istore_n 2, 1) := by decide +kernel
theorem dX8_plan_15 : decode cX8_plan 15 = .ok (.iload_n 2, 1) := by decide +kernel
theorem dX8_plan_16 : decode cX8_plan 16 = .ok (.iconst (-1), 1) := by decide +kernel
theorem dX8_plan_17 : decode cX8_plan 17 = .ok (.if_icmp .ne 5, 3) := by decide +kernel
theorem dX8_plan_20 : decode cX8_plan 20 = .ok (.iconst (-1), 1) := by decide +kernel
theorem dX8_plan_21 : decode cX8_plan 21 = .ok (.ireturn, 1) := by decide +kernel
theorem dX8_plan_22 : decode cX8_plan 22 = .ok (.aload_n 0, 1) := by decide +kernel
theorem dX8_plan_23 : decode cX8_plan 23 = .ok (.aload_n 0, 1) := by decide +kernel
theorem dX8_plan_24 : decode cX8_plan 24 = .ok (.getfield 58, 3) := by decide +kernel
theorem dX8_plan_27 : decode cX8_plan 27 = .ok (.aload_n 0, 1) := by decide +kernel
theorem dX8_plan_28 : decode cX8_plan 28 = .ok (.getfield 69, 3) := by decide +kernel
theorem dX8_plan_31 : decode cX8_plan 31 = .ok (.invokevirtual 95, 3) := by decide +kernel
theorem dX8_plan_34 : decode cX8_plan 34 = .ok (.putfield 69, 3) := by decide +kernel
theorem dX8_plan_37 : decode cX8_plan 37 = .ok (.aload_n 0, 1) := by decide +kernel
theorem dX8_plan_38 : decode cX8_plan 38 = .ok (.getfield 69, 3) := by decide +kernel
theorem dX8_plan_41 : decode cX8_plan 41 = .ok (.iload_n 1, 1) := by decide +kernel
theorem dX8_plan_42 : decode cX8_plan 42 = .ok (.invokevirtual 99, 3) := by decide +kernel
theorem dX8_plan_45 : decode cX8_plan 45 = .ok (.aload_n 0, 1) := by decide +kernel
theorem dX8_plan_46 : decode cX8_plan 46 = .ok (.getfield 25, 3) := by decide +kernel
theorem dX8_plan_49 : decode cX8_plan 49 = .ok (.invokevirtual 102, 3) := by decide +kernel
theorem dX8_plan_52 : decode cX8_plan 52 = .ok (.aload_n 0, 1) := by decide +kernel
theorem dX8_plan_53 : decode cX8_plan 53 = .ok (.iconst 1, 1) := by decide +kernel
theorem dX8_plan_54 : decode cX8_plan 54 = .ok (.putfield 73, 3) := by decide +kernel
theorem dX8_plan_57 : decode cX8_plan 57 = .ok (.aload_n 0, 1) := by decide +kernel
theorem dX8_plan_58 : decode cX8_plan 58 = .ok (.iconst 0, 1) := by decide +kernel
theorem dX8_plan_59 : decode cX8_plan 59 = .ok (.putfield 77, 3) := by decide +kernel
theorem dX8_plan_62 : decode cX8_plan 62 = .ok (.aload_n 0, 1) := by decide +kernel
theorem dX8_plan_63 : decode cX8_plan 63 = .ok (.iconst (-1), 1) := by decide +kernel
theorem dX8_plan_64 : decode cX8_plan 64 = .ok (.putfield 80, 3) := by decide +kernel
theorem dX8_plan_67 : decode cX8_plan 67 = .ok (.iload_n 2, 1) := by decide +kernel
theorem dX8_plan_68 : decode cX8_plan 68 = .ok (.ireturn, 1) := by decide +kernel
theorem dX8_fault_0 : decode cX8_fault 0 = .ok (.iload_n 1, 1) := by decide +kernel
theorem dX8_fault_1 : decode cX8_fault 1 = .ok (.ifCond .ne 11, 3) := by decide +kernel
theorem dX8_fault_4 : decode cX8_fault 4 = .ok (.aload_n 0, 1) := by decide +kernel
theorem dX8_fault_5 : decode cX8_fault 5 = .ok (.getfield 58, 3) := by decide +kernel
theorem dX8_fault_8 : decode cX8_fault 8 = .ok (.getfield 105, 3) := by decide +kernel
theorem dX8_fault_11 : decode cX8_fault 11 = .ok (.ireturn, 1) := by decide +kernel
theorem dX8_fault_12 : decode cX8_fault 12 = .ok (.iload_n 1, 1) := by decide +kernel
theorem dX8_fault_13 : decode cX8_fault 13 = .ok (.iconst 1, 1) := by decide +kernel
theorem dX8_fault_14 : decode cX8_fault 14 = .ok (.if_icmp .ne 13, 3) := by decide +kernel
theorem dX8_fault_17 : decode cX8_fault 17 = .ok (.aload_n 0, 1) := by decide +kernel
theorem dX8_fault_18 : decode cX8_fault 18 = .ok (.getfield 58, 3) := by decide +kernel
theorem dX8_fault_21 : decode cX8_fault 21 = .ok (.getfield 108, 3) := by decide +kernel
theorem dX8_fault_24 : decode cX8_fault 24 = .ok (.goto 4, 3) := by decide +kernel
theorem dX8_fault_27 : decode cX8_fault 27 = .ok (.iconst (-1), 1) := by decide +kernel
theorem dX8_fault_28 : decode cX8_fault 28 = .ok (.ireturn, 1) := by decide +kernel
theorem dX8_code_0 : decode cX8_code 0 = .ok (.aload_n 0, 1) := by decide +kernel
theorem dX8_code_1 : decode cX8_code 1 = .ok (.iload_n 1, 1) := by decide +kernel
theorem dX8_code_2 : decode cX8_code 2 = .ok (.invokevirtual 111, 3) := by decide +kernel
theorem dX8_code_5 : decode cX8_code 5 = .ok (.ifCond .eq 26, 3) := by decide +kernel
theorem dX8_code_8 : decode cX8_code 8 = .ok (.iload_n 2, 1) := by decide +kernel
theorem dX8_code_9 : decode cX8_code 9 = .ok (.invokestatic 115, 3) := by decide +kernel
theorem dX8_code_12 : decode cX8_code 12 = .ok (.ifCond .eq 19, 3) := by decide +kernel
theorem dX8_code_15 : decode cX8_code 15 = .ok (.iload_n 3, 1) := by decide +kernel
theorem dX8_code_16 : decode cX8_code 16 = .ok (.ifCond .lt 15, 3) := by decide +kernel
theorem dX8_code_19 : decode cX8_code 19 = .ok (.iload_n 3, 1) := by decide +kernel
theorem dX8_code_20 : decode cX8_code 20 = .ok (.aload_n 0, 1) := by decide +kernel
theorem dX8_code_21 : decode cX8_code 21 = .ok (.getfield 69, 3) := by decide +kernel
theorem dX8_code_24 : decode cX8_code 24 = .ok (.iload_n 1, 1) := by decide +kernel
theorem dX8_code_25 : decode cX8_code 25 = .ok (.invokevirtual 118, 3) := by decide +kernel
theorem dX8_code_28 : decode cX8_code 28 = .ok (.if_icmp .lt 5, 3) := by decide +kernel
theorem dX8_code_31 : decode cX8_code 31 = .ok (.iconst (-1), 1) := by decide +kernel
theorem dX8_code_32 : decode cX8_code 32 = .ok (.ireturn, 1) := by decide +kernel
theorem dX8_code_33 : decode cX8_code 33 = .ok (.aload_n 0, 1) := by decide +kernel
theorem dX8_code_34 : decode cX8_code 34 = .ok (.getfield 69, 3) := by decide +kernel
theorem dX8_code_37 : decode cX8_code 37 = .ok (.getfield 122, 3) := by decide +kernel
theorem dX8_code_40 : decode cX8_code 40 = .ok (.iload_n 1, 1) := by decide +kernel
theorem dX8_code_41 : decode cX8_code 41 = .ok (.bipush 90, 2) := by decide +kernel
theorem dX8_code_43 : decode cX8_code 43 = .ok (.imul, 1) := by decide +kernel
theorem dX8_code_44 : decode cX8_code 44 = .ok (.iload_n 2, 1) := by decide +kernel
theorem dX8_code_45 : decode cX8_code 45 = .ok (.aload_n 0, 1) := by decide +kernel
theorem dX8_code_46 : decode cX8_code 46 = .ok (.getfield 69, 3) := by decide +kernel
theorem dX8_code_49 : decode cX8_code 49 = .ok (.iload_n 1, 1) := by decide +kernel
theorem dX8_code_50 : decode cX8_code 50 = .ok (.invokevirtual 118, 3) := by decide +kernel
theorem dX8_code_53 : decode cX8_code 53 = .ok (.imul, 1) := by decide +kernel
theorem dX8_code_54 : decode cX8_code 54 = .ok (.iadd, 1) := by decide +kernel
theorem dX8_code_55 : decode cX8_code 55 = .ok (.iload_n 3, 1) := by decide +kernel
theorem dX8_code_56 : decode cX8_code 56 = .ok (.iadd, 1) := by decide +kernel
theorem dX8_code_57 : decode cX8_code 57 = .ok (.iaload, 1) := by decide +kernel
theorem dX8_code_58 : decode cX8_code 58 = .ok (.ireturn, 1) := by decide +kernel
theorem dX8_answer_0 : decode cX8_answer 0 = .ok (.aload_n 0, 1) := by decide +kernel
theorem dX8_answer_1 : decode cX8_answer 1 = .ok (.getfield 77, 3) := by decide +kernel
theorem dX8_answer_4 : decode cX8_answer 4 = .ok (.ifCond .ne 28, 3) := by decide +kernel
theorem dX8_answer_7 : decode cX8_answer 7 = .ok (.aload_n 0, 1) := by decide +kernel
theorem dX8_answer_8 : decode cX8_answer 8 = .ok (.getfield 25, 3) := by decide +kernel
theorem dX8_answer_11 : decode cX8_answer 11 = .ok (.invokevirtual 126, 3) := by decide +kernel
theorem dX8_answer_14 : decode cX8_answer 14 = .ok (.ifCond .ne 18, 3) := by decide +kernel
theorem dX8_answer_17 : decode cX8_answer 17 = .ok (.aload_n 0, 1) := by decide +kernel
theorem dX8_answer_18 : decode cX8_answer 18 = .ok (.iload_n 1, 1) := by decide +kernel
theorem dX8_answer_19 : decode cX8_answer 19 = .ok (.invokevirtual 111, 3) := by decide +kernel
theorem dX8_answer_22 : decode cX8_answer 22 = .ok (.ifCond .eq 10, 3) := by decide +kernel
theorem dX8_answer_25 : decode cX8_answer 25 = .ok (.iload_n 2, 1) := by decide +kernel
theorem dX8_answer_26 : decode cX8_answer 26 = .ok (.invokestatic 115, 3) := by decide +kernel
theorem dX8_answer_29 : decode cX8_answer 29 = .ok (.ifCond .ne 5, 3) := by decide +kernel
theorem dX8_answer_32 : decode cX8_answer 32 = .ok (.iconst (-1), 1) := by decide +kernel
theorem dX8_answer_33 : decode cX8_answer 33 = .ok (.ireturn, 1) := by decide +kernel
theorem dX8_answer_34 : decode cX8_answer 34 = .ok (.iload_n 3, 1) := by decide +kernel
theorem dX8_answer_35 : decode cX8_answer 35 = .ok (.ifCond .ne 32, 3) := by decide +kernel
theorem dX8_answer_38 : decode cX8_answer 38 = .ok (.aload_n 0, 1) := by decide +kernel
theorem dX8_answer_39 : decode cX8_answer 39 = .ok (.getfield 69, 3) := by decide +kernel
theorem dX8_answer_42 : decode cX8_answer 42 = .ok (.getfield 130, 3) := by decide +kernel
theorem dX8_answer_45 : decode cX8_answer 45 = .ok (.iload_n 1, 1) := by decide +kernel
theorem dX8_answer_46 : decode cX8_answer 46 = .ok (.baload, 1) := by decide +kernel
theorem dX8_answer_47 : decode cX8_answer 47 = .ok (.ifCond .eq 7, 3) := by decide +kernel
theorem dX8_answer_50 : decode cX8_answer 50 = .ok (.iconst (-1), 1) := by decide +kernel
theorem dX8_answer_51 : decode cX8_answer 51 = .ok (.goto 15, 3) := by decide +kernel
theorem dX8_answer_54 : decode cX8_answer 54 = .ok (.aload_n 0, 1) := by decide +kernel
theorem dX8_answer_55 : decode cX8_answer 55 = .ok (.getfield 25, 3) := by decide +kernel
theorem dX8_answer_58 : decode cX8_answer 58 = .ok (.iconst 1, 1) := by decide +kernel
theorem dX8_answer_59 : decode cX8_answer 59 = .ok (.iload_n 1, 1) := by decide +kernel
theorem dX8_answer_60 : decode cX8_answer 60 = .ok (.iload_n 2, 1) := by decide +kernel
theorem dX8_answer_61 : decode cX8_answer 61 = .ok (.iconst (-1), 1) := by decide +kernel
theorem dX8_answer_62 : decode cX8_answer 62 = .ok (.iconst 0, 1) := by decide +kernel
theorem dX8_answer_63 : decode cX8_answer 63 = .ok (.invokevirtual 134, 3) := by decide +kernel
theorem dX8_answer_66 : decode cX8_answer 66 = .ok (.ireturn, 1) := by decide +kernel
theorem dX8_answer_67 : decode cX8_answer 67 = .ok (.aload_n 0, 1) := by decide +kernel
theorem dX8_answer_68 : decode cX8_answer 68 = .ok (.getfield 69, 3) := by decide +kernel
theorem dX8_answer_71 : decode cX8_answer 71 = .ok (.iload_n 1, 1) := by decide +kernel
theorem dX8_answer_72 : decode cX8_answer 72 = .ok (.iload_n 3, 1) := by decide +kernel
theorem dX8_answer_73 : decode cX8_answer 73 = .ok (.invokevirtual 138, 3) := by decide +kernel
theorem dX8_answer_76 : decode cX8_answer 76 = .ok (.istore 4, 2) := by decide +kernel
theorem dX8_answer_78 : decode cX8_answer 78 = .ok (.iload 4, 2) := by decide +kernel
theorem dX8_answer_80 : decode cX8_answer 80 = .ok (.iconst (-1), 1) := by decide +kernel
theorem dX8_answer_81 : decode cX8_answer 81 = .ok (.if_icmp .eq 18, 3) := by decide +kernel
theorem dX8_answer_84 : decode cX8_answer 84 = .ok (.iload 4, 2) := by decide +kernel
theorem dX8_answer_86 : decode cX8_answer 86 = .ok (.aload_n 0, 1) := by decide +kernel
theorem dX8_answer_87 : decode cX8_answer 87 = .ok (.getfield 69, 3) := by decide +kernel
theorem dX8_answer_90 : decode cX8_answer 90 = .ok (.iload_n 1, 1) := by decide +kernel
theorem dX8_answer_91 : decode cX8_answer 91 = .ok (.invokevirtual 118, 3) := by decide +kernel
theorem dX8_answer_94 : decode cX8_answer 94 = .ok (.idiv, 1) := by decide +kernel
theorem dX8_answer_95 : decode cX8_answer 95 = .ok (.iload_n 2, 1) := by decide +kernel
theorem dX8_answer_96 : decode cX8_answer 96 = .ok (.if_icmp .eq 5, 3) := by decide +kernel
theorem dX8_answer_99 : decode cX8_answer 99 = .ok (.iconst (-1), 1) := by decide +kernel
theorem dX8_answer_100 : decode cX8_answer 100 = .ok (.ireturn, 1) := by decide +kernel
theorem dX8_answer_101 : decode cX8_answer 101 = .ok (.aload_n 0, 1) := by decide +kernel
theorem dX8_answer_102 : decode cX8_answer 102 = .ok (.getfield 25, 3) := by decide +kernel
theorem dX8_answer_105 : decode cX8_answer 105 = .ok (.iconst 1, 1) := by decide +kernel
theorem dX8_answer_106 : decode cX8_answer 106 = .ok (.iload_n 1, 1) := by decide +kernel
theorem dX8_answer_107 : decode cX8_answer 107 = .ok (.iload_n 2, 1) := by decide +kernel
theorem dX8_answer_108 : decode cX8_answer 108 = .ok (.iload 4, 2) := by decide +kernel
theorem dX8_answer_110 : decode cX8_answer 110 = .ok (.iconst 0, 1) := by decide +kernel
theorem dX8_answer_111 : decode cX8_answer 111 = .ok (.invokevirtual 134, 3) := by decide +kernel
theorem dX8_answer_114 : decode cX8_answer 114 = .ok (.ireturn, 1) := by decide +kernel
theorem dX8_score_0 : decode cX8_score 0 = .ok (.aload_n 0, 1) := by decide +kernel
theorem dX8_score_1 : decode cX8_score 1 = .ok (.getfield 77, 3) := by decide +kernel
theorem dX8_score_4 : decode cX8_score 4 = .ok (.ifCond .ne 35, 3) := by decide +kernel
theorem dX8_score_7 : decode cX8_score 7 = .ok (.aload_n 0, 1) := by decide +kernel
theorem dX8_score_8 : decode cX8_score 8 = .ok (.getfield 25, 3) := by decide +kernel
theorem dX8_score_11 : decode cX8_score 11 = .ok (.invokevirtual 126, 3) := by decide +kernel
theorem dX8_score_14 : decode cX8_score 14 = .ok (.ifCond .ne 25, 3) := by decide +kernel
theorem dX8_score_17 : decode cX8_score 17 = .ok (.iload_n 1, 1) := by decide +kernel
theorem dX8_score_18 : decode cX8_score 18 = .ok (.invokestatic 115, 3) := by decide +kernel
theorem dX8_score_21 : decode cX8_score 21 = .ok (.ifCond .eq 18, 3) := by decide +kernel
theorem dX8_score_24 : decode cX8_score 24 = .ok (.iload_n 2, 1) := by decide +kernel
theorem dX8_score_25 : decode cX8_score 25 = .ok (.invokestatic 142, 3) := by decide +kernel
theorem dX8_score_28 : decode cX8_score 28 = .ok (.ifCond .eq 11, 3) := by decide +kernel
theorem dX8_score_31 : decode cX8_score 31 = .ok (.aload_n 0, 1) := by decide +kernel
theorem dX8_score_32 : decode cX8_score 32 = .ok (.iload_n 3, 1) := by decide +kernel
theorem dX8_score_33 : decode cX8_score 33 = .ok (.invokevirtual 145, 3) := by decide +kernel
theorem dX8_score_36 : decode cX8_score 36 = .ok (.ifCond .ne 5, 3) := by decide +kernel
theorem dX8_score_39 : decode cX8_score 39 = .ok (.iconst (-1), 1) := by decide +kernel
theorem dX8_score_40 : decode cX8_score 40 = .ok (.ireturn, 1) := by decide +kernel
theorem dX8_score_41 : decode cX8_score 41 = .ok (.iload 4, 2) := by decide +kernel
theorem dX8_score_43 : decode cX8_score 43 = .ok (.ifCond .lt 10, 3) := by decide +kernel
theorem dX8_score_46 : decode cX8_score 46 = .ok (.iload 4, 2) := by decide +kernel
theorem dX8_score_48 : decode cX8_score 48 = .ok (.bipush 100, 2) := by decide +kernel
theorem dX8_score_50 : decode cX8_score 50 = .ok (.if_icmp .le 5, 3) := by decide +kernel
theorem dX8_score_53 : decode cX8_score 53 = .ok (.iconst (-1), 1) := by decide +kernel
theorem dX8_score_54 : decode cX8_score 54 = .ok (.ireturn, 1) := by decide +kernel
theorem dX8_score_55 : decode cX8_score 55 = .ok (.aload_n 0, 1) := by decide +kernel
theorem dX8_score_56 : decode cX8_score 56 = .ok (.getfield 25, 3) := by decide +kernel
theorem dX8_score_59 : decode cX8_score 59 = .ok (.iconst 2, 1) := by decide +kernel
theorem dX8_score_60 : decode cX8_score 60 = .ok (.iload_n 1, 1) := by decide +kernel
theorem dX8_score_61 : decode cX8_score 61 = .ok (.iload_n 2, 1) := by decide +kernel
theorem dX8_score_62 : decode cX8_score 62 = .ok (.iload_n 3, 1) := by decide +kernel
theorem dX8_score_63 : decode cX8_score 63 = .ok (.iload 4, 2) := by decide +kernel
theorem dX8_score_65 : decode cX8_score 65 = .ok (.invokevirtual 134, 3) := by decide +kernel
theorem dX8_score_68 : decode cX8_score 68 = .ok (.ireturn, 1) := by decide +kernel
theorem dX8_swap_0 : decode cX8_swap 0 = .ok (.aload_n 0, 1) := by decide +kernel
theorem dX8_swap_1 : decode cX8_swap 1 = .ok (.getfield 25, 3) := by decide +kernel
theorem dX8_swap_4 : decode cX8_swap 4 = .ok (.invokevirtual 126, 3) := by decide +kernel
theorem dX8_swap_7 : decode cX8_swap 7 = .ok (.ifCond .ne 16, 3) := by decide +kernel
theorem dX8_swap_10 : decode cX8_swap 10 = .ok (.aload_n 0, 1) := by decide +kernel
theorem dX8_swap_11 : decode cX8_swap 11 = .ok (.iload_n 1, 1) := by decide +kernel
theorem dX8_swap_12 : decode cX8_swap 12 = .ok (.invokevirtual 111, 3) := by decide +kernel
theorem dX8_swap_15 : decode cX8_swap 15 = .ok (.ifCond .eq 8, 3) := by decide +kernel
theorem dX8_swap_18 : decode cX8_swap 18 = .ok (.iload_n 2, 1) := by decide +kernel
theorem dX8_swap_19 : decode cX8_swap 19 = .ok (.iload_n 3, 1) := by decide +kernel
theorem dX8_swap_20 : decode cX8_swap 20 = .ok (.if_icmp .ne 5, 3) := by decide +kernel
theorem dX8_swap_23 : decode cX8_swap 23 = .ok (.iconst (-1), 1) := by decide +kernel
theorem dX8_swap_24 : decode cX8_swap 24 = .ok (.ireturn, 1) := by decide +kernel
theorem dX8_swap_25 : decode cX8_swap 25 = .ok (.aload_n 0, 1) := by decide +kernel
theorem dX8_swap_26 : decode cX8_swap 26 = .ok (.getfield 69, 3) := by decide +kernel
theorem dX8_swap_29 : decode cX8_swap 29 = .ok (.iload_n 1, 1) := by decide +kernel
theorem dX8_swap_30 : decode cX8_swap 30 = .ok (.iload_n 2, 1) := by decide +kernel
theorem dX8_swap_31 : decode cX8_swap 31 = .ok (.invokevirtual 138, 3) := by decide +kernel
theorem dX8_swap_34 : decode cX8_swap 34 = .ok (.istore 4, 2) := by decide +kernel
theorem dX8_swap_36 : decode cX8_swap 36 = .ok (.aload_n 0, 1) := by decide +kernel
theorem dX8_swap_37 : decode cX8_swap 37 = .ok (.getfield 69, 3) := by decide +kernel
theorem dX8_swap_40 : decode cX8_swap 40 = .ok (.iload_n 1, 1) := by decide +kernel
theorem dX8_swap_41 : decode cX8_swap 41 = .ok (.iload_n 3, 1) := by decide +kernel
theorem dX8_swap_42 : decode cX8_swap 42 = .ok (.invokevirtual 138, 3) := by decide +kernel
theorem dX8_swap_45 : decode cX8_swap 45 = .ok (.istore 5, 2) := by decide +kernel
theorem dX8_swap_47 : decode cX8_swap 47 = .ok (.iload 4, 2) := by decide +kernel
theorem dX8_swap_49 : decode cX8_swap 49 = .ok (.iconst (-1), 1) := by decide +kernel
theorem dX8_swap_50 : decode cX8_swap 50 = .ok (.if_icmp .eq 9, 3) := by decide +kernel
theorem dX8_swap_53 : decode cX8_swap 53 = .ok (.iload 5, 2) := by decide +kernel
theorem dX8_swap_55 : decode cX8_swap 55 = .ok (.iconst (-1), 1) := by decide +kernel
theorem dX8_swap_56 : decode cX8_swap 56 = .ok (.if_icmp .ne 5, 3) := by decide +kernel
theorem dX8_swap_59 : decode cX8_swap 59 = .ok (.iconst (-1), 1) := by decide +kernel
theorem dX8_swap_60 : decode cX8_swap 60 = .ok (.ireturn, 1) := by decide +kernel
theorem dX8_swap_61 : decode cX8_swap 61 = .ok (.aload_n 0, 1) := by decide +kernel
theorem dX8_swap_62 : decode cX8_swap 62 = .ok (.getfield 25, 3) := by decide +kernel
theorem dX8_swap_65 : decode cX8_swap 65 = .ok (.iconst 3, 1) := by decide +kernel
theorem dX8_swap_66 : decode cX8_swap 66 = .ok (.iload_n 1, 1) := by decide +kernel
theorem dX8_swap_67 : decode cX8_swap 67 = .ok (.iload 4, 2) := by decide +kernel
theorem dX8_swap_69 : decode cX8_swap 69 = .ok (.iload 5, 2) := by decide +kernel
theorem dX8_swap_71 : decode cX8_swap 71 = .ok (.iconst 0, 1) := by decide +kernel
theorem dX8_swap_72 : decode cX8_swap 72 = .ok (.invokevirtual 134, 3) := by decide +kernel
theorem dX8_swap_75 : decode cX8_swap 75 = .ok (.ireturn, 1) := by decide +kernel
theorem dX8_annul_0 : decode cX8_annul 0 = .ok (.aload_n 0, 1) := by decide +kernel
theorem dX8_annul_1 : decode cX8_annul 1 = .ok (.getfield 25, 3) := by decide +kernel
theorem dX8_annul_4 : decode cX8_annul 4 = .ok (.invokevirtual 126, 3) := by decide +kernel
theorem dX8_annul_7 : decode cX8_annul 7 = .ok (.ifCond .ne 14, 3) := by decide +kernel
theorem dX8_annul_10 : decode cX8_annul 10 = .ok (.aload_n 0, 1) := by decide +kernel
theorem dX8_annul_11 : decode cX8_annul 11 = .ok (.getfield 25, 3) := by decide +kernel
theorem dX8_annul_14 : decode cX8_annul 14 = .ok (.iload_n 1, 1) := by decide +kernel
theorem dX8_annul_15 : decode cX8_annul 15 = .ok (.invokevirtual 148, 3) := by decide +kernel
theorem dX8_annul_18 : decode cX8_annul 18 = .ok (.ifCond .ne 7, 3) := by decide +kernel
theorem dX8_annul_21 : decode cX8_annul 21 = .ok (.iconst (-1), 1) := by decide +kernel
theorem dX8_annul_22 : decode cX8_annul 22 = .ok (.goto 11, 3) := by decide +kernel
theorem dX8_annul_25 : decode cX8_annul 25 = .ok (.aload_n 0, 1) := by decide +kernel
theorem dX8_annul_26 : decode cX8_annul 26 = .ok (.getfield 25, 3) := by decide +kernel
theorem dX8_annul_29 : decode cX8_annul 29 = .ok (.iload_n 1, 1) := by decide +kernel
theorem dX8_annul_30 : decode cX8_annul 30 = .ok (.invokevirtual 151, 3) := by decide +kernel
theorem dX8_annul_33 : decode cX8_annul 33 = .ok (.ireturn, 1) := by decide +kernel
theorem dX8_as_0 : decode cX8_as 0 = .ok (.iload_n 1, 1) := by decide +kernel
theorem dX8_as_1 : decode cX8_as 1 = .ok (.iconst (-1), 1) := by decide +kernel
theorem dX8_as_2 : decode cX8_as 2 = .ok (.if_icmp .lt 14, 3) := by decide +kernel
theorem dX8_as_5 : decode cX8_as 5 = .ok (.iload_n 1, 1) := by decide +kernel
theorem dX8_as_6 : decode cX8_as 6 = .ok (.aload_n 0, 1) := by decide +kernel
theorem dX8_as_7 : decode cX8_as 7 = .ok (.getfield 25, 3) := by decide +kernel
theorem dX8_as_10 : decode cX8_as 10 = .ok (.getfield 154, 3) := by decide +kernel
theorem dX8_as_13 : decode cX8_as 13 = .ok (.if_icmp .le 5, 3) := by decide +kernel
theorem dX8_as_16 : decode cX8_as 16 = .ok (.iconst 0, 1) := by decide +kernel
theorem dX8_as_17 : decode cX8_as 17 = .ok (.ireturn, 1) := by decide +kernel
theorem dX8_as_18 : decode cX8_as 18 = .ok (.aload_n 0, 1) := by decide +kernel
theorem dX8_as_19 : decode cX8_as 19 = .ok (.iload_n 1, 1) := by decide +kernel
theorem dX8_as_20 : decode cX8_as 20 = .ok (.putfield 80, 3) := by decide +kernel
theorem dX8_as_23 : decode cX8_as 23 = .ok (.iconst 1, 1) := by decide +kernel
theorem dX8_as_24 : decode cX8_as 24 = .ok (.ireturn, 1) := by decide +kernel
theorem dX8_open_0 : decode cX8_open 0 = .ok (.aload_n 0, 1) := by decide +kernel
theorem dX8_open_1 : decode cX8_open 1 = .ok (.getfield 77, 3) := by decide +kernel
theorem dX8_open_4 : decode cX8_open 4 = .ok (.ifCond .ne 10, 3) := by decide +kernel
theorem dX8_open_7 : decode cX8_open 7 = .ok (.aload_n 0, 1) := by decide +kernel
theorem dX8_open_8 : decode cX8_open 8 = .ok (.getfield 73, 3) := by decide +kernel
theorem dX8_open_11 : decode cX8_open 11 = .ok (.ifCond .ne 5, 3) := by decide +kernel
theorem dX8_open_14 : decode cX8_open 14 = .ok (.iconst 0, 1) := by decide +kernel
theorem dX8_open_15 : decode cX8_open 15 = .ok (.ireturn, 1) := by decide +kernel
theorem dX8_open_16 : decode cX8_open 16 = .ok (.aload_n 0, 1) := by decide +kernel
theorem dX8_open_17 : decode cX8_open 17 = .ok (.iconst 1, 1) := by decide +kernel
theorem dX8_open_18 : decode cX8_open 18 = .ok (.putfield 77, 3) := by decide +kernel
theorem dX8_open_21 : decode cX8_open 21 = .ok (.iconst 1, 1) := by decide +kernel
theorem dX8_open_22 : decode cX8_open 22 = .ok (.ireturn, 1) := by decide +kernel
theorem dX8_answers_0 : decode cX8_answers 0 = .ok (.aload_n 0, 1) := by decide +kernel
theorem dX8_answers_1 : decode cX8_answers 1 = .ok (.iload_n 1, 1) := by decide +kernel
theorem dX8_answers_2 : decode cX8_answers 2 = .ok (.invokevirtual 111, 3) := by decide +kernel
theorem dX8_answers_5 : decode cX8_answers 5 = .ok (.ifCond .ne 5, 3) := by decide +kernel
theorem dX8_answers_8 : decode cX8_answers 8 = .ok (.iconst (-1), 1) := by decide +kernel
theorem dX8_answers_9 : decode cX8_answers 9 = .ok (.ireturn, 1) := by decide +kernel
theorem dX8_answers_10 : decode cX8_answers 10 = .ok (.aload_n 0, 1) := by decide +kernel
theorem dX8_answers_11 : decode cX8_answers 11 = .ok (.getfield 33, 3) := by decide +kernel
theorem dX8_answers_14 : decode cX8_answers 14 = .ok (.aload_n 0, 1) := by decide +kernel
theorem dX8_answers_15 : decode cX8_answers 15 = .ok (.getfield 69, 3) := by decide +kernel
theorem dX8_answers_18 : decode cX8_answers 18 = .ok (.iload_n 1, 1) := by decide +kernel
theorem dX8_answers_19 : decode cX8_answers 19 = .ok (.aload_n 0, 1) := by decide +kernel
theorem dX8_answers_20 : decode cX8_answers 20 = .ok (.invokevirtual 157, 3) := by decide +kernel
theorem dX8_answers_23 : decode cX8_answers 23 = .ok (.iconst 0, 1) := by decide +kernel
theorem dX8_answers_24 : decode cX8_answers 24 = .ok (.invokevirtual 160, 3) := by decide +kernel
theorem dX8_answers_27 : decode cX8_answers 27 = .ok (.aload_n 0, 1) := by decide +kernel
theorem dX8_answers_28 : decode cX8_answers 28 = .ok (.getfield 33, 3) := by decide +kernel
theorem dX8_answers_31 : decode cX8_answers 31 = .ok (.getfield 164, 3) := by decide +kernel
theorem dX8_answers_34 : decode cX8_answers 34 = .ok (.ireturn, 1) := by decide +kernel
theorem dX8_inside_0 : decode cX8_inside 0 = .ok (.aload_n 0, 1) := by decide +kernel
theorem dX8_inside_1 : decode cX8_inside 1 = .ok (.getfield 77, 3) := by decide +kernel
theorem dX8_inside_4 : decode cX8_inside 4 = .ok (.ifCond .eq 11, 3) := by decide +kernel
theorem dX8_inside_7 : decode cX8_inside 7 = .ok (.aload_n 0, 1) := by decide +kernel
theorem dX8_inside_8 : decode cX8_inside 8 = .ok (.iload_n 1, 1) := by decide +kernel
theorem dX8_inside_9 : decode cX8_inside 9 = .ok (.invokevirtual 111, 3) := by decide +kernel
theorem dX8_inside_12 : decode cX8_inside 12 = .ok (.ifCond .ne 5, 3) := by decide +kernel
theorem dX8_inside_15 : decode cX8_inside 15 = .ok (.iconst (-1), 1) := by decide +kernel
theorem dX8_inside_16 : decode cX8_inside 16 = .ok (.ireturn, 1) := by decide +kernel
theorem dX8_inside_17 : decode cX8_inside 17 = .ok (.aload_n 0, 1) := by decide +kernel
theorem dX8_inside_18 : decode cX8_inside 18 = .ok (.getfield 69, 3) := by decide +kernel
theorem dX8_inside_21 : decode cX8_inside 21 = .ok (.iload_n 1, 1) := by decide +kernel
theorem dX8_inside_22 : decode cX8_inside 22 = .ok (.iload_n 2, 1) := by decide +kernel
theorem dX8_inside_23 : decode cX8_inside 23 = .ok (.invokevirtual 138, 3) := by decide +kernel
theorem dX8_inside_26 : decode cX8_inside 26 = .ok (.istore_n 3, 1) := by decide +kernel
theorem dX8_inside_27 : decode cX8_inside 27 = .ok (.iload_n 3, 1) := by decide +kernel
theorem dX8_inside_28 : decode cX8_inside 28 = .ok (.iconst (-1), 1) := by decide +kernel
theorem dX8_inside_29 : decode cX8_inside 29 = .ok (.if_icmp .ne 7, 3) := by decide +kernel
theorem dX8_inside_32 : decode cX8_inside 32 = .ok (.iconst (-1), 1) := by decide +kernel
theorem dX8_inside_33 : decode cX8_inside 33 = .ok (.goto 20, 3) := by decide +kernel
theorem dX8_inside_36 : decode cX8_inside 36 = .ok (.aload_n 0, 1) := by decide +kernel
theorem dX8_inside_37 : decode cX8_inside 37 = .ok (.getfield 33, 3) := by decide +kernel
theorem dX8_inside_40 : decode cX8_inside 40 = .ok (.aload_n 0, 1) := by decide +kernel
theorem dX8_inside_41 : decode cX8_inside 41 = .ok (.getfield 69, 3) := by decide +kernel
theorem dX8_inside_44 : decode cX8_inside 44 = .ok (.iload_n 1, 1) := by decide +kernel
theorem dX8_inside_45 : decode cX8_inside 45 = .ok (.aload_n 0, 1) := by decide +kernel
theorem dX8_inside_46 : decode cX8_inside 46 = .ok (.invokevirtual 157, 3) := by decide +kernel
theorem dX8_inside_49 : decode cX8_inside 49 = .ok (.iload_n 3, 1) := by decide +kernel
theorem dX8_inside_50 : decode cX8_inside 50 = .ok (.invokevirtual 167, 3) := by decide +kernel
theorem dX8_inside_53 : decode cX8_inside 53 = .ok (.ireturn, 1) := by decide +kernel
theorem dX8_trial_0 : decode cX8_trial 0 = .ok (.aload_n 0, 1) := by decide +kernel
theorem dX8_trial_1 : decode cX8_trial 1 = .ok (.getfield 77, 3) := by decide +kernel
theorem dX8_trial_4 : decode cX8_trial 4 = .ok (.ifCond .eq 11, 3) := by decide +kernel
theorem dX8_trial_7 : decode cX8_trial 7 = .ok (.aload_n 0, 1) := by decide +kernel
theorem dX8_trial_8 : decode cX8_trial 8 = .ok (.iload_n 1, 1) := by decide +kernel
theorem dX8_trial_9 : decode cX8_trial 9 = .ok (.invokevirtual 111, 3) := by decide +kernel
theorem dX8_trial_12 : decode cX8_trial 12 = .ok (.ifCond .ne 7, 3) := by decide +kernel
theorem dX8_trial_15 : decode cX8_trial 15 = .ok (.iconst (-1), 1) := by decide +kernel
theorem dX8_trial_16 : decode cX8_trial 16 = .ok (.goto 20, 3) := by decide +kernel
theorem dX8_trial_19 : decode cX8_trial 19 = .ok (.aload_n 0, 1) := by decide +kernel
theorem dX8_trial_20 : decode cX8_trial 20 = .ok (.getfield 33, 3) := by decide +kernel
theorem dX8_trial_23 : decode cX8_trial 23 = .ok (.aload_n 0, 1) := by decide +kernel
theorem dX8_trial_24 : decode cX8_trial 24 = .ok (.getfield 69, 3) := by decide +kernel
theorem dX8_trial_27 : decode cX8_trial 27 = .ok (.iload_n 1, 1) := by decide +kernel
theorem dX8_trial_28 : decode cX8_trial 28 = .ok (.aload_n 0, 1) := by decide +kernel
theorem dX8_trial_29 : decode cX8_trial 29 = .ok (.invokevirtual 157, 3) := by decide +kernel
theorem dX8_trial_32 : decode cX8_trial 32 = .ok (.iload_n 2, 1) := by decide +kernel
theorem dX8_trial_33 : decode cX8_trial 33 = .ok (.invokevirtual 171, 3) := by decide +kernel
theorem dX8_trial_36 : decode cX8_trial 36 = .ok (.ireturn, 1) := by decide +kernel
theorem dX8_chance_0 : decode cX8_chance 0 = .ok (.aload_n 0, 1) := by decide +kernel
theorem dX8_chance_1 : decode cX8_chance 1 = .ok (.getfield 77, 3) := by decide +kernel
theorem dX8_chance_4 : decode cX8_chance 4 = .ok (.ifCond .eq 11, 3) := by decide +kernel
theorem dX8_chance_7 : decode cX8_chance 7 = .ok (.aload_n 0, 1) := by decide +kernel
theorem dX8_chance_8 : decode cX8_chance 8 = .ok (.iload_n 1, 1) := by decide +kernel
theorem dX8_chance_9 : decode cX8_chance 9 = .ok (.invokevirtual 111, 3) := by decide +kernel
theorem dX8_chance_12 : decode cX8_chance 12 = .ok (.ifCond .ne 7, 3) := by decide +kernel
theorem dX8_chance_15 : decode cX8_chance 15 = .ok (.ldc2_w 174, 3) := by decide +kernel
theorem dX8_chance_18 : decode cX8_chance 18 = .ok (.lreturn, 1) := by decide +kernel
theorem dX8_chance_19 : decode cX8_chance 19 = .ok (.aload_n 0, 1) := by decide +kernel
theorem dX8_chance_20 : decode cX8_chance 20 = .ok (.getfield 33, 3) := by decide +kernel
theorem dX8_chance_23 : decode cX8_chance 23 = .ok (.aload_n 0, 1) := by decide +kernel
theorem dX8_chance_24 : decode cX8_chance 24 = .ok (.getfield 69, 3) := by decide +kernel
theorem dX8_chance_27 : decode cX8_chance 27 = .ok (.iload_n 1, 1) := by decide +kernel
theorem dX8_chance_28 : decode cX8_chance 28 = .ok (.aload_n 0, 1) := by decide +kernel
theorem dX8_chance_29 : decode cX8_chance 29 = .ok (.invokevirtual 157, 3) := by decide +kernel
theorem dX8_chance_32 : decode cX8_chance 32 = .ok (.iconst 1, 1) := by decide +kernel
theorem dX8_chance_33 : decode cX8_chance 33 = .ok (.invokevirtual 160, 3) := by decide +kernel
theorem dX8_chance_36 : decode cX8_chance 36 = .ok (.aload_n 0, 1) := by decide +kernel
theorem dX8_chance_37 : decode cX8_chance 37 = .ok (.getfield 69, 3) := by decide +kernel
theorem dX8_chance_40 : decode cX8_chance 40 = .ok (.getfield 130, 3) := by decide +kernel
theorem dX8_chance_43 : decode cX8_chance 43 = .ok (.iload_n 1, 1) := by decide +kernel
theorem dX8_chance_44 : decode cX8_chance 44 = .ok (.baload, 1) := by decide +kernel
theorem dX8_chance_45 : decode cX8_chance 45 = .ok (.istore_n 3, 1) := by decide +kernel
theorem dX8_chance_46 : decode cX8_chance 46 = .ok (.iload_n 2, 1) := by decide +kernel
theorem dX8_chance_47 : decode cX8_chance 47 = .ok (.ifCond .eq 28, 3) := by decide +kernel
theorem dX8_chance_50 : decode cX8_chance 50 = .ok (.aload_n 0, 1) := by decide +kernel
theorem dX8_chance_51 : decode cX8_chance 51 = .ok (.getfield 29, 3) := by decide +kernel
theorem dX8_chance_54 : decode cX8_chance 54 = .ok (.iload_n 3, 1) := by decide +kernel
theorem dX8_chance_55 : decode cX8_chance 55 = .ok (.aload_n 0, 1) := by decide +kernel
theorem dX8_chance_56 : decode cX8_chance 56 = .ok (.getfield 33, 3) := by decide +kernel
theorem dX8_chance_59 : decode cX8_chance 59 = .ok (.getfield 176, 3) := by decide +kernel
theorem dX8_chance_62 : decode cX8_chance 62 = .ok (.aload_n 0, 1) := by decide +kernel
theorem dX8_chance_63 : decode cX8_chance 63 = .ok (.getfield 33, 3) := by decide +kernel
theorem dX8_chance_66 : decode cX8_chance 66 = .ok (.getfield 164, 3) := by decide +kernel
theorem dX8_chance_69 : decode cX8_chance 69 = .ok (.invokevirtual 179, 3) := by decide +kernel
theorem dX8_chance_72 : decode cX8_chance 72 = .ok (.goto 18, 3) := by decide +kernel
theorem dX8_chance_75 : decode cX8_chance 75 = .ok (.aload_n 0, 1) := by decide +kernel
theorem dX8_chance_76 : decode cX8_chance 76 = .ok (.getfield 29, 3) := by decide +kernel
theorem dX8_chance_79 : decode cX8_chance 79 = .ok (.iload_n 3, 1) := by decide +kernel
theorem dX8_chance_80 : decode cX8_chance 80 = .ok (.aload_n 0, 1) := by decide +kernel
theorem dX8_chance_81 : decode cX8_chance 81 = .ok (.getfield 33, 3) := by decide +kernel
theorem dX8_chance_84 : decode cX8_chance 84 = .ok (.getfield 164, 3) := by decide +kernel
theorem dX8_chance_87 : decode cX8_chance 87 = .ok (.invokevirtual 183, 3) := by decide +kernel
theorem dX8_chance_90 : decode cX8_chance 90 = .ok (.lreturn, 1) := by decide +kernel
theorem dX8_guess_0 : decode cX8_guess 0 = .ok (.iload_n 2, 1) := by decide +kernel
theorem dX8_guess_1 : decode cX8_guess 1 = .ok (.iload_n 3, 1) := by decide +kernel
theorem dX8_guess_2 : decode cX8_guess 2 = .ok (.invokestatic 187, 3) := by decide +kernel
theorem dX8_guess_5 : decode cX8_guess 5 = .ok (.ifCond .eq 16, 3) := by decide +kernel
theorem dX8_guess_8 : decode cX8_guess 8 = .ok (.aload_n 0, 1) := by decide +kernel
theorem dX8_guess_9 : decode cX8_guess 9 = .ok (.getfield 29, 3) := by decide +kernel
theorem dX8_guess_12 : decode cX8_guess 12 = .ok (.iload_n 1, 1) := by decide +kernel
theorem dX8_guess_13 : decode cX8_guess 13 = .ok (.iload_n 2, 1) := by decide +kernel
theorem dX8_guess_14 : decode cX8_guess 14 = .ok (.iload_n 3, 1) := by decide +kernel
theorem dX8_guess_15 : decode cX8_guess 15 = .ok (.invokevirtual 179, 3) := by decide +kernel
theorem dX8_guess_18 : decode cX8_guess 18 = .ok (.goto 6, 3) := by decide +kernel
theorem dX8_guess_21 : decode cX8_guess 21 = .ok (.ldc2_w 174, 3) := by decide +kernel
theorem dX8_guess_24 : decode cX8_guess 24 = .ok (.lreturn, 1) := by decide +kernel
theorem dX8_table_0 : decode cX8_table 0 = .ok (.iload_n 2, 1) := by decide +kernel
theorem dX8_table_1 : decode cX8_table 1 = .ok (.invokestatic 191, 3) := by decide +kernel
theorem dX8_table_4 : decode cX8_table 4 = .ok (.ifCond .eq 12, 3) := by decide +kernel
theorem dX8_table_7 : decode cX8_table 7 = .ok (.iload_n 3, 1) := by decide +kernel
theorem dX8_table_8 : decode cX8_table 8 = .ok (.iload 4, 2) := by decide +kernel
theorem dX8_table_10 : decode cX8_table 10 = .ok (.invokestatic 187, 3) := by decide +kernel
theorem dX8_table_13 : decode cX8_table 13 = .ok (.ifCond .ne 7, 3) := by decide +kernel
theorem dX8_table_16 : decode cX8_table 16 = .ok (.ldc2_w 174, 3) := by decide +kernel
theorem dX8_table_19 : decode cX8_table 19 = .ok (.lreturn, 1) := by decide +kernel
theorem dX8_table_20 : decode cX8_table 20 = .ok (.aload_n 0, 1) := by decide +kernel
theorem dX8_table_21 : decode cX8_table 21 = .ok (.getfield 29, 3) := by decide +kernel
theorem dX8_table_24 : decode cX8_table 24 = .ok (.iload_n 1, 1) := by decide +kernel
theorem dX8_table_25 : decode cX8_table 25 = .ok (.iload_n 2, 1) := by decide +kernel
theorem dX8_table_26 : decode cX8_table 26 = .ok (.iload 4, 2) := by decide +kernel
theorem dX8_table_28 : decode cX8_table 28 = .ok (.iload_n 3, 1) := by decide +kernel
theorem dX8_table_29 : decode cX8_table 29 = .ok (.iload_n 3, 1) := by decide +kernel
theorem dX8_table_30 : decode cX8_table 30 = .ok (.invokevirtual 194, 3) := by decide +kernel
theorem dX8_table_33 : decode cX8_table 33 = .ok (.lreturn, 1) := by decide +kernel
theorem dX8_needed_0 : decode cX8_needed 0 = .ok (.iload_n 2, 1) := by decide +kernel
theorem dX8_needed_1 : decode cX8_needed 1 = .ok (.invokestatic 191, 3) := by decide +kernel
theorem dX8_needed_4 : decode cX8_needed 4 = .ok (.ifCond .eq 18, 3) := by decide +kernel
theorem dX8_needed_7 : decode cX8_needed 7 = .ok (.iload_n 3, 1) := by decide +kernel
theorem dX8_needed_8 : decode cX8_needed 8 = .ok (.invokestatic 191, 3) := by decide +kernel
theorem dX8_needed_11 : decode cX8_needed 11 = .ok (.ifCond .eq 11, 3) := by decide +kernel
theorem dX8_needed_14 : decode cX8_needed 14 = .ok (.iload 4, 2) := by decide +kernel
theorem dX8_needed_16 : decode cX8_needed 16 = .ok (.invokestatic 191, 3) := by decide +kernel
theorem dX8_needed_19 : decode cX8_needed 19 = .ok (.ifCond .ne 5, 3) := by decide +kernel
theorem dX8_needed_22 : decode cX8_needed 22 = .ok (.iconst (-1), 1) := by decide +kernel
theorem dX8_needed_23 : decode cX8_needed 23 = .ok (.ireturn, 1) := by decide +kernel
theorem dX8_needed_24 : decode cX8_needed 24 = .ok (.aload_n 0, 1) := by decide +kernel
theorem dX8_needed_25 : decode cX8_needed 25 = .ok (.getfield 29, 3) := by decide +kernel
theorem dX8_needed_28 : decode cX8_needed 28 = .ok (.iload_n 1, 1) := by decide +kernel
theorem dX8_needed_29 : decode cX8_needed 29 = .ok (.iload_n 2, 1) := by decide +kernel
theorem dX8_needed_30 : decode cX8_needed 30 = .ok (.iload_n 3, 1) := by decide +kernel
theorem dX8_needed_31 : decode cX8_needed 31 = .ok (.iload 4, 2) := by decide +kernel
theorem dX8_needed_33 : decode cX8_needed 33 = .ok (.invokevirtual 198, 3) := by decide +kernel
theorem dX8_needed_36 : decode cX8_needed 36 = .ok (.ireturn, 1) := by decide +kernel
theorem dX8_mean_0 : decode cX8_mean 0 = .ok (.aload_n 0, 1) := by decide +kernel
theorem dX8_mean_1 : decode cX8_mean 1 = .ok (.getfield 77, 3) := by decide +kernel
theorem dX8_mean_4 : decode cX8_mean 4 = .ok (.ifCond .eq 11, 3) := by decide +kernel
theorem dX8_mean_7 : decode cX8_mean 7 = .ok (.aload_n 0, 1) := by decide +kernel
theorem dX8_mean_8 : decode cX8_mean 8 = .ok (.iload_n 1, 1) := by decide +kernel
theorem dX8_mean_9 : decode cX8_mean 9 = .ok (.invokevirtual 145, 3) := by decide +kernel
theorem dX8_mean_12 : decode cX8_mean 12 = .ok (.ifCond .ne 5, 3) := by decide +kernel
theorem dX8_mean_15 : decode cX8_mean 15 = .ok (.iconst (-1), 1) := by decide +kernel
theorem dX8_mean_16 : decode cX8_mean 16 = .ok (.ireturn, 1) := by decide +kernel
theorem dX8_mean_17 : decode cX8_mean 17 = .ok (.aload_n 0, 1) := by decide +kernel
theorem dX8_mean_18 : decode cX8_mean 18 = .ok (.getfield 37, 3) := by decide +kernel
theorem dX8_mean_21 : decode cX8_mean 21 = .ok (.aload_n 0, 1) := by decide +kernel
theorem dX8_mean_22 : decode cX8_mean 22 = .ok (.getfield 69, 3) := by decide +kernel
theorem dX8_mean_25 : decode cX8_mean 25 = .ok (.aload_n 0, 1) := by decide +kernel
theorem dX8_mean_26 : decode cX8_mean 26 = .ok (.invokevirtual 157, 3) := by decide +kernel
theorem dX8_mean_29 : decode cX8_mean 29 = .ok (.invokevirtual 202, 3) := by decide +kernel
theorem dX8_mean_32 : decode cX8_mean 32 = .ok (.aload_n 0, 1) := by decide +kernel
theorem dX8_mean_33 : decode cX8_mean 33 = .ok (.getfield 37, 3) := by decide +kernel
theorem dX8_mean_36 : decode cX8_mean 36 = .ok (.iload_n 1, 1) := by decide +kernel
theorem dX8_mean_37 : decode cX8_mean 37 = .ok (.invokevirtual 206, 3) := by decide +kernel
theorem dX8_mean_40 : decode cX8_mean 40 = .ok (.ireturn, 1) := by decide +kernel
theorem dX8_drift_0 : decode cX8_drift 0 = .ok (.aload_n 0, 1) := by decide +kernel
theorem dX8_drift_1 : decode cX8_drift 1 = .ok (.getfield 77, 3) := by decide +kernel
theorem dX8_drift_4 : decode cX8_drift 4 = .ok (.ifCond .eq 10, 3) := by decide +kernel
theorem dX8_drift_7 : decode cX8_drift 7 = .ok (.iload_n 1, 1) := by decide +kernel
theorem dX8_drift_8 : decode cX8_drift 8 = .ok (.invokestatic 142, 3) := by decide +kernel
theorem dX8_drift_11 : decode cX8_drift 11 = .ok (.ifCond .ne 6, 3) := by decide +kernel
theorem dX8_drift_14 : decode cX8_drift 14 = .ok (.ldc 209, 2) := by decide +kernel
theorem dX8_drift_16 : decode cX8_drift 16 = .ok (.ireturn, 1) := by decide +kernel
theorem dX8_drift_17 : decode cX8_drift 17 = .ok (.aload_n 0, 1) := by decide +kernel
theorem dX8_drift_18 : decode cX8_drift 18 = .ok (.getfield 37, 3) := by decide +kernel
theorem dX8_drift_21 : decode cX8_drift 21 = .ok (.aload_n 0, 1) := by decide +kernel
theorem dX8_drift_22 : decode cX8_drift 22 = .ok (.getfield 69, 3) := by decide +kernel
theorem dX8_drift_25 : decode cX8_drift 25 = .ok (.aload_n 0, 1) := by decide +kernel
theorem dX8_drift_26 : decode cX8_drift 26 = .ok (.invokevirtual 157, 3) := by decide +kernel
theorem dX8_drift_29 : decode cX8_drift 29 = .ok (.invokevirtual 202, 3) := by decide +kernel
theorem dX8_drift_32 : decode cX8_drift 32 = .ok (.aload_n 0, 1) := by decide +kernel
theorem dX8_drift_33 : decode cX8_drift 33 = .ok (.getfield 37, 3) := by decide +kernel
theorem dX8_drift_36 : decode cX8_drift 36 = .ok (.getfield 210, 3) := by decide +kernel
theorem dX8_drift_39 : decode cX8_drift 39 = .ok (.iload_n 1, 1) := by decide +kernel
theorem dX8_drift_40 : decode cX8_drift 40 = .ok (.iaload, 1) := by decide +kernel
theorem dX8_drift_41 : decode cX8_drift 41 = .ok (.ireturn, 1) := by decide +kernel
theorem dX8_scored_0 : decode cX8_scored 0 = .ok (.aload_n 0, 1) := by decide +kernel
theorem dX8_scored_1 : decode cX8_scored 1 = .ok (.getfield 77, 3) := by decide +kernel
theorem dX8_scored_4 : decode cX8_scored 4 = .ok (.ifCond .eq 25, 3) := by decide +kernel
theorem dX8_scored_7 : decode cX8_scored 7 = .ok (.iload_n 1, 1) := by decide +kernel
theorem dX8_scored_8 : decode cX8_scored 8 = .ok (.invokestatic 115, 3) := by decide +kernel
theorem dX8_scored_11 : decode cX8_scored 11 = .ok (.ifCond .eq 18, 3) := by decide +kernel
theorem dX8_scored_14 : decode cX8_scored 14 = .ok (.iload_n 2, 1) := by decide +kernel
theorem dX8_scored_15 : decode cX8_scored 15 = .ok (.invokestatic 142, 3) := by decide +kernel
theorem dX8_scored_18 : decode cX8_scored 18 = .ok (.ifCond .eq 11, 3) := by decide +kernel
theorem dX8_scored_21 : decode cX8_scored 21 = .ok (.aload_n 0, 1) := by decide +kernel
theorem dX8_scored_22 : decode cX8_scored 22 = .ok (.iload_n 3, 1) := by decide +kernel
theorem dX8_scored_23 : decode cX8_scored 23 = .ok (.invokevirtual 145, 3) := by decide +kernel
theorem dX8_scored_26 : decode cX8_scored 26 = .ok (.ifCond .ne 5, 3) := by decide +kernel
theorem dX8_scored_29 : decode cX8_scored 29 = .ok (.iconst (-1), 1) := by decide +kernel
theorem dX8_scored_30 : decode cX8_scored 30 = .ok (.ireturn, 1) := by decide +kernel
theorem dX8_scored_31 : decode cX8_scored 31 = .ok (.aload_n 0, 1) := by decide +kernel
theorem dX8_scored_32 : decode cX8_scored 32 = .ok (.getfield 37, 3) := by decide +kernel
theorem dX8_scored_35 : decode cX8_scored 35 = .ok (.aload_n 0, 1) := by decide +kernel
theorem dX8_scored_36 : decode cX8_scored 36 = .ok (.getfield 69, 3) := by decide +kernel
theorem dX8_scored_39 : decode cX8_scored 39 = .ok (.aload_n 0, 1) := by decide +kernel
theorem dX8_scored_40 : decode cX8_scored 40 = .ok (.invokevirtual 157, 3) := by decide +kernel
theorem dX8_scored_43 : decode cX8_scored 43 = .ok (.invokevirtual 202, 3) := by decide +kernel
theorem dX8_scored_46 : decode cX8_scored 46 = .ok (.aload_n 0, 1) := by decide +kernel
theorem dX8_scored_47 : decode cX8_scored 47 = .ok (.getfield 37, 3) := by decide +kernel
theorem dX8_scored_50 : decode cX8_scored 50 = .ok (.iload_n 1, 1) := by decide +kernel
theorem dX8_scored_51 : decode cX8_scored 51 = .ok (.iload_n 2, 1) := by decide +kernel
theorem dX8_scored_52 : decode cX8_scored 52 = .ok (.iload_n 3, 1) := by decide +kernel
theorem dX8_scored_53 : decode cX8_scored 53 = .ok (.invokevirtual 213, 3) := by decide +kernel
theorem dX8_scored_56 : decode cX8_scored 56 = .ok (.ireturn, 1) := by decide +kernel
theorem dX8_claim_0 : decode cX8_claim 0 = .ok (.aload_n 0, 1) := by decide +kernel
theorem dX8_claim_1 : decode cX8_claim 1 = .ok (.getfield 77, 3) := by decide +kernel
theorem dX8_claim_4 : decode cX8_claim 4 = .ok (.ifCond .eq 18, 3) := by decide +kernel
theorem dX8_claim_7 : decode cX8_claim 7 = .ok (.iload_n 1, 1) := by decide +kernel
theorem dX8_claim_8 : decode cX8_claim 8 = .ok (.ifCond .lt 14, 3) := by decide +kernel
theorem dX8_claim_11 : decode cX8_claim 11 = .ok (.iload_n 1, 1) := by decide +kernel
theorem dX8_claim_12 : decode cX8_claim 12 = .ok (.aload_n 0, 1) := by decide +kernel
theorem dX8_claim_13 : decode cX8_claim 13 = .ok (.getfield 69, 3) := by decide +kernel
theorem dX8_claim_16 : decode cX8_claim 16 = .ok (.getfield 217, 3) := by decide +kernel
theorem dX8_claim_19 : decode cX8_claim 19 = .ok (.if_icmp .lt 5, 3) := by decide +kernel
theorem dX8_claim_22 : decode cX8_claim 22 = .ok (.iconst (-1), 1) := by decide +kernel
theorem dX8_claim_23 : decode cX8_claim 23 = .ok (.ireturn, 1) := by decide +kernel
theorem dX8_claim_24 : decode cX8_claim 24 = .ok (.aload_n 0, 1) := by decide +kernel
theorem dX8_claim_25 : decode cX8_claim 25 = .ok (.getfield 46, 3) := by decide +kernel
theorem dX8_claim_28 : decode cX8_claim 28 = .ok (.aload_n 0, 1) := by decide +kernel
theorem dX8_claim_29 : decode cX8_claim 29 = .ok (.getfield 69, 3) := by decide +kernel
theorem dX8_claim_32 : decode cX8_claim 32 = .ok (.aload_n 0, 1) := by decide +kernel
theorem dX8_claim_33 : decode cX8_claim 33 = .ok (.invokevirtual 157, 3) := by decide +kernel
theorem dX8_claim_36 : decode cX8_claim 36 = .ok (.iload_n 1, 1) := by decide +kernel
theorem dX8_claim_37 : decode cX8_claim 37 = .ok (.invokevirtual 220, 3) := by decide +kernel
theorem dX8_claim_40 : decode cX8_claim 40 = .ok (.ifCond .eq 7, 3) := by decide +kernel
theorem dX8_claim_43 : decode cX8_claim 43 = .ok (.iconst 1, 1) := by decide +kernel
theorem dX8_claim_44 : decode cX8_claim 44 = .ok (.goto 4, 3) := by decide +kernel
theorem dX8_claim_47 : decode cX8_claim 47 = .ok (.iconst 0, 1) := by decide +kernel
theorem dX8_claim_48 : decode cX8_claim 48 = .ok (.ireturn, 1) := by decide +kernel
theorem dX8_orders_0 : decode cX8_orders 0 = .ok (.iload_n 1, 1) := by decide +kernel
theorem dX8_orders_1 : decode cX8_orders 1 = .ok (.iconst 2, 1) := by decide +kernel
theorem dX8_orders_2 : decode cX8_orders 2 = .ok (.if_icmp .lt 19, 3) := by decide +kernel
theorem dX8_orders_5 : decode cX8_orders 5 = .ok (.iload_n 1, 1) := by decide +kernel
theorem dX8_orders_6 : decode cX8_orders 6 = .ok (.iconst 5, 1) := by decide +kernel
theorem dX8_orders_7 : decode cX8_orders 7 = .ok (.if_icmp .gt 14, 3) := by decide +kernel
theorem dX8_orders_10 : decode cX8_orders 10 = .ok (.iload_n 2, 1) := by decide +kernel
theorem dX8_orders_11 : decode cX8_orders 11 = .ok (.iconst 1, 1) := by decide +kernel
theorem dX8_orders_12 : decode cX8_orders 12 = .ok (.if_icmp .lt 9, 3) := by decide +kernel
theorem dX8_orders_15 : decode cX8_orders 15 = .ok (.iload_n 2, 1) := by decide +kernel
theorem dX8_orders_16 : decode cX8_orders 16 = .ok (.bipush 30, 2) := by decide +kernel
theorem dX8_orders_18 : decode cX8_orders 18 = .ok (.if_icmp .le 5, 3) := by decide +kernel
theorem dX8_orders_21 : decode cX8_orders 21 = .ok (.iconst (-1), 1) := by decide +kernel
theorem dX8_orders_22 : decode cX8_orders 22 = .ok (.ireturn, 1) := by decide +kernel
theorem dX8_orders_23 : decode cX8_orders 23 = .ok (.aload_n 0, 1) := by decide +kernel
theorem dX8_orders_24 : decode cX8_orders 24 = .ok (.getfield 65, 3) := by decide +kernel
theorem dX8_orders_27 : decode cX8_orders 27 = .ok (.iload_n 1, 1) := by decide +kernel
theorem dX8_orders_28 : decode cX8_orders 28 = .ok (.iload_n 2, 1) := by decide +kernel
theorem dX8_orders_29 : decode cX8_orders 29 = .ok (.invokevirtual 224, 3) := by decide +kernel
theorem dX8_orders_32 : decode cX8_orders 32 = .ok (.ireturn, 1) := by decide +kernel
theorem dX8_served_0 : decode cX8_served 0 = .ok (.iload_n 1, 1) := by decide +kernel
theorem dX8_served_1 : decode cX8_served 1 = .ok (.ifCond .lt 29, 3) := by decide +kernel
theorem dX8_served_4 : decode cX8_served 4 = .ok (.iload_n 1, 1) := by decide +kernel
theorem dX8_served_5 : decode cX8_served 5 = .ok (.aload_n 0, 1) := by decide +kernel
theorem dX8_served_6 : decode cX8_served 6 = .ok (.getfield 65, 3) := by decide +kernel
theorem dX8_served_9 : decode cX8_served 9 = .ok (.getfield 227, 3) := by decide +kernel
theorem dX8_served_12 : decode cX8_served 12 = .ok (.if_icmp .ge 18, 3) := by decide +kernel
theorem dX8_served_15 : decode cX8_served 15 = .ok (.iload_n 2, 1) := by decide +kernel
theorem dX8_served_16 : decode cX8_served 16 = .ok (.ifCond .lt 14, 3) := by decide +kernel
theorem dX8_served_19 : decode cX8_served 19 = .ok (.iload_n 2, 1) := by decide +kernel
theorem dX8_served_20 : decode cX8_served 20 = .ok (.aload_n 0, 1) := by decide +kernel
theorem dX8_served_21 : decode cX8_served 21 = .ok (.getfield 65, 3) := by decide +kernel
theorem dX8_served_24 : decode cX8_served 24 = .ok (.getfield 230, 3) := by decide +kernel
theorem dX8_served_27 : decode cX8_served 27 = .ok (.if_icmp .lt 5, 3) := by decide +kernel
theorem dX8_served_30 : decode cX8_served 30 = .ok (.iconst (-1), 1) := by decide +kernel
theorem dX8_served_31 : decode cX8_served 31 = .ok (.ireturn, 1) := by decide +kernel
theorem dX8_served_32 : decode cX8_served 32 = .ok (.aload_n 0, 1) := by decide +kernel
theorem dX8_served_33 : decode cX8_served 33 = .ok (.getfield 65, 3) := by decide +kernel
theorem dX8_served_36 : decode cX8_served 36 = .ok (.getfield 233, 3) := by decide +kernel
theorem dX8_served_39 : decode cX8_served 39 = .ok (.iload_n 1, 1) := by decide +kernel
theorem dX8_served_40 : decode cX8_served 40 = .ok (.iconst 5, 1) := by decide +kernel
theorem dX8_served_41 : decode cX8_served 41 = .ok (.imul, 1) := by decide +kernel
theorem dX8_served_42 : decode cX8_served 42 = .ok (.iload_n 2, 1) := by decide +kernel
theorem dX8_served_43 : decode cX8_served 43 = .ok (.iadd, 1) := by decide +kernel
theorem dX8_served_44 : decode cX8_served 44 = .ok (.iaload, 1) := by decide +kernel
theorem dX8_served_45 : decode cX8_served 45 = .ok (.ireturn, 1) := by decide +kernel
theorem dX8_serves_0 : decode cX8_serves 0 = .ok (.aload_n 0, 1) := by decide +kernel
theorem dX8_serves_1 : decode cX8_serves 1 = .ok (.getfield 65, 3) := by decide +kernel
theorem dX8_serves_4 : decode cX8_serves 4 = .ok (.getfield 227, 3) := by decide +kernel
theorem dX8_serves_7 : decode cX8_serves 7 = .ok (.iconst 1, 1) := by decide +kernel
theorem dX8_serves_8 : decode cX8_serves 8 = .ok (.if_icmp .lt 15, 3) := by decide +kernel
theorem dX8_serves_11 : decode cX8_serves 11 = .ok (.aload_n 0, 1) := by decide +kernel
theorem dX8_serves_12 : decode cX8_serves 12 = .ok (.getfield 65, 3) := by decide +kernel
theorem dX8_serves_15 : decode cX8_serves 15 = .ok (.getfield 227, 3) := by decide +kernel
theorem dX8_serves_18 : decode cX8_serves 18 = .ok (.bipush 30, 2) := by decide +kernel
theorem dX8_serves_20 : decode cX8_serves 20 = .ok (.if_icmp .lt 7, 3) := by decide +kernel
theorem dX8_serves_23 : decode cX8_serves 23 = .ok (.iconst (-1), 1) := by decide +kernel
theorem dX8_serves_24 : decode cX8_serves 24 = .ok (.goto 11, 3) := by decide +kernel
theorem dX8_serves_27 : decode cX8_serves 27 = .ok (.aload_n 0, 1) := by decide +kernel
theorem dX8_serves_28 : decode cX8_serves 28 = .ok (.getfield 65, 3) := by decide +kernel
theorem dX8_serves_31 : decode cX8_serves 31 = .ok (.iload_n 1, 1) := by decide +kernel
theorem dX8_serves_32 : decode cX8_serves 32 = .ok (.invokevirtual 236, 3) := by decide +kernel
theorem dX8_serves_35 : decode cX8_serves 35 = .ok (.ireturn, 1) := by decide +kernel
theorem dX8_all_0 : decode cX8_all 0 = .ok (.iload_n 1, 1) := by decide +kernel
theorem dX8_all_1 : decode cX8_all 1 = .ok (.tableswitch 101 0 6 #[43, 51, 59, 67, 75, 80, 93], 43) := by decide +kernel
theorem dX8_all_44 : decode cX8_all 44 = .ok (.aload_n 0, 1) := by decide +kernel
theorem dX8_all_45 : decode cX8_all 45 = .ok (.getfield 69, 3) := by decide +kernel
theorem dX8_all_48 : decode cX8_all 48 = .ok (.getfield 239, 3) := by decide +kernel
theorem dX8_all_51 : decode cX8_all 51 = .ok (.ireturn, 1) := by decide +kernel
theorem dX8_all_52 : decode cX8_all 52 = .ok (.aload_n 0, 1) := by decide +kernel
theorem dX8_all_53 : decode cX8_all 53 = .ok (.getfield 69, 3) := by decide +kernel
theorem dX8_all_56 : decode cX8_all 56 = .ok (.getfield 242, 3) := by decide +kernel
theorem dX8_all_59 : decode cX8_all 59 = .ok (.ireturn, 1) := by decide +kernel
theorem dX8_all_60 : decode cX8_all 60 = .ok (.aload_n 0, 1) := by decide +kernel
theorem dX8_all_61 : decode cX8_all 61 = .ok (.getfield 69, 3) := by decide +kernel
theorem dX8_all_64 : decode cX8_all 64 = .ok (.getfield 217, 3) := by decide +kernel
theorem dX8_all_67 : decode cX8_all 67 = .ok (.ireturn, 1) := by decide +kernel
theorem dX8_all_68 : decode cX8_all 68 = .ok (.aload_n 0, 1) := by decide +kernel
theorem dX8_all_69 : decode cX8_all 69 = .ok (.getfield 25, 3) := by decide +kernel
theorem dX8_all_72 : decode cX8_all 72 = .ok (.getfield 154, 3) := by decide +kernel
theorem dX8_all_75 : decode cX8_all 75 = .ok (.ireturn, 1) := by decide +kernel
theorem dX8_all_76 : decode cX8_all 76 = .ok (.aload_n 0, 1) := by decide +kernel
theorem dX8_all_77 : decode cX8_all 77 = .ok (.invokevirtual 157, 3) := by decide +kernel
theorem dX8_all_80 : decode cX8_all 80 = .ok (.ireturn, 1) := by decide +kernel
theorem dX8_all_81 : decode cX8_all 81 = .ok (.aload_n 0, 1) := by decide +kernel
theorem dX8_all_82 : decode cX8_all 82 = .ok (.getfield 77, 3) := by decide +kernel
theorem dX8_all_85 : decode cX8_all 85 = .ok (.ifCond .eq 7, 3) := by decide +kernel
theorem dX8_all_88 : decode cX8_all 88 = .ok (.iconst 1, 1) := by decide +kernel
theorem dX8_all_89 : decode cX8_all 89 = .ok (.goto 4, 3) := by decide +kernel
theorem dX8_all_92 : decode cX8_all 92 = .ok (.iconst 0, 1) := by decide +kernel
theorem dX8_all_93 : decode cX8_all 93 = .ok (.ireturn, 1) := by decide +kernel
theorem dX8_all_94 : decode cX8_all 94 = .ok (.aload_n 0, 1) := by decide +kernel
theorem dX8_all_95 : decode cX8_all 95 = .ok (.getfield 69, 3) := by decide +kernel
theorem dX8_all_98 : decode cX8_all 98 = .ok (.invokevirtual 245, 3) := by decide +kernel
theorem dX8_all_101 : decode cX8_all 101 = .ok (.ireturn, 1) := by decide +kernel
theorem dX8_all_102 : decode cX8_all 102 = .ok (.iconst (-1), 1) := by decide +kernel
theorem dX8_all_103 : decode cX8_all 103 = .ok (.ireturn, 1) := by decide +kernel
theorem dX8_known_0 : decode cX8_known 0 = .ok (.aload_n 0, 1) := by decide +kernel
theorem dX8_known_1 : decode cX8_known 1 = .ok (.getfield 80, 3) := by decide +kernel
theorem dX8_known_4 : decode cX8_known 4 = .ok (.iconst (-1), 1) := by decide +kernel
theorem dX8_known_5 : decode cX8_known 5 = .ok (.if_icmp .ne 13, 3) := by decide +kernel
theorem dX8_known_8 : decode cX8_known 8 = .ok (.aload_n 0, 1) := by decide +kernel
theorem dX8_known_9 : decode cX8_known 9 = .ok (.getfield 25, 3) := by decide +kernel
theorem dX8_known_12 : decode cX8_known 12 = .ok (.getfield 154, 3) := by decide +kernel
theorem dX8_known_15 : decode cX8_known 15 = .ok (.goto 7, 3) := by decide +kernel
theorem dX8_known_18 : decode cX8_known 18 = .ok (.aload_n 0, 1) := by decide +kernel
theorem dX8_known_19 : decode cX8_known 19 = .ok (.getfield 80, 3) := by decide +kernel
theorem dX8_known_22 : decode cX8_known 22 = .ok (.ireturn, 1) := by decide +kernel
theorem dX8_isTrial_0 : decode cX8_isTrial 0 = .ok (.iload_n 1, 1) := by decide +kernel
theorem dX8_isTrial_1 : decode cX8_isTrial 1 = .ok (.ifCond .lt 18, 3) := by decide +kernel
theorem dX8_isTrial_4 : decode cX8_isTrial 4 = .ok (.iload_n 1, 1) := by decide +kernel
theorem dX8_isTrial_5 : decode cX8_isTrial 5 = .ok (.aload_n 0, 1) := by decide +kernel
theorem dX8_isTrial_6 : decode cX8_isTrial 6 = .ok (.getfield 69, 3) := by decide +kernel
theorem dX8_isTrial_9 : decode cX8_isTrial 9 = .ok (.getfield 242, 3) := by decide +kernel
theorem dX8_isTrial_12 : decode cX8_isTrial 12 = .ok (.if_icmp .ge 7, 3) := by decide +kernel
theorem dX8_isTrial_15 : decode cX8_isTrial 15 = .ok (.iconst 1, 1) := by decide +kernel
theorem dX8_isTrial_16 : decode cX8_isTrial 16 = .ok (.goto 4, 3) := by decide +kernel
theorem dX8_isTrial_19 : decode cX8_isTrial 19 = .ok (.iconst 0, 1) := by decide +kernel
theorem dX8_isTrial_20 : decode cX8_isTrial 20 = .ok (.ireturn, 1) := by decide +kernel
theorem dX8_isProduct_0 : decode cX8_isProduct 0 = .ok (.iload_n 1, 1) := by decide +kernel
theorem dX8_isProduct_1 : decode cX8_isProduct 1 = .ok (.ifCond .lt 18, 3) := by decide +kernel
theorem dX8_isProduct_4 : decode cX8_isProduct 4 = .ok (.iload_n 1, 1) := by decide +kernel
theorem dX8_isProduct_5 : decode cX8_isProduct 5 = .ok (.aload_n 0, 1) := by decide +kernel
theorem dX8_isProduct_6 : decode cX8_isProduct 6 = .ok (.getfield 69, 3) := by decide +kernel
theorem dX8_isProduct_9 : decode cX8_isProduct 9 = .ok (.getfield 239, 3) := by decide +kernel
theorem dX8_isProduct_12 : decode cX8_isProduct 12 = .ok (.if_icmp .ge 7, 3) := by decide +kernel
theorem dX8_isProduct_15 : decode cX8_isProduct 15 = .ok (.iconst 1, 1) := by decide +kernel
theorem dX8_isProduct_16 : decode cX8_isProduct 16 = .ok (.goto 4, 3) := by decide +kernel
theorem dX8_isProduct_19 : decode cX8_isProduct 19 = .ok (.iconst 0, 1) := by decide +kernel
theorem dX8_isProduct_20 : decode cX8_isProduct 20 = .ok (.ireturn, 1) := by decide +kernel
theorem dX8_isTaster_0 : decode cX8_isTaster 0 = .ok (.iload_n 0, 1) := by decide +kernel
theorem dX8_isTaster_1 : decode cX8_isTaster 1 = .ok (.ifCond .lt 13, 3) := by decide +kernel
theorem dX8_isTaster_4 : decode cX8_isTaster 4 = .ok (.iload_n 0, 1) := by decide +kernel
theorem dX8_isTaster_5 : decode cX8_isTaster 5 = .ok (.bipush 30, 2) := by decide +kernel
theorem dX8_isTaster_7 : decode cX8_isTaster 7 = .ok (.if_icmp .ge 7, 3) := by decide +kernel
theorem dX8_isTaster_10 : decode cX8_isTaster 10 = .ok (.iconst 1, 1) := by decide +kernel
theorem dX8_isTaster_11 : decode cX8_isTaster 11 = .ok (.goto 4, 3) := by decide +kernel
theorem dX8_isTaster_14 : decode cX8_isTaster 14 = .ok (.iconst 0, 1) := by decide +kernel
theorem dX8_isTaster_15 : decode cX8_isTaster 15 = .ok (.ireturn, 1) := by decide +kernel
theorem dX8_isSession_0 : decode cX8_isSession 0 = .ok (.iload_n 0, 1) := by decide +kernel
theorem dX8_isSession_1 : decode cX8_isSession 1 = .ok (.ifCond .lt 13, 3) := by decide +kernel
theorem dX8_isSession_4 : decode cX8_isSession 4 = .ok (.iload_n 0, 1) := by decide +kernel
theorem dX8_isSession_5 : decode cX8_isSession 5 = .ok (.bipush 10, 2) := by decide +kernel
theorem dX8_isSession_7 : decode cX8_isSession 7 = .ok (.if_icmp .ge 7, 3) := by decide +kernel
theorem dX8_isSession_10 : decode cX8_isSession 10 = .ok (.iconst 1, 1) := by decide +kernel
theorem dX8_isSession_11 : decode cX8_isSession 11 = .ok (.goto 4, 3) := by decide +kernel
theorem dX8_isSession_14 : decode cX8_isSession 14 = .ok (.iconst 0, 1) := by decide +kernel
theorem dX8_isSession_15 : decode cX8_isSession 15 = .ok (.ireturn, 1) := by decide +kernel
theorem dX8_isInThousand_0 : decode cX8_isInThousand 0 = .ok (.iload_n 0, 1) := by decide +kernel
theorem dX8_isInThousand_1 : decode cX8_isInThousand 1 = .ok (.ifCond .lt 14, 3) := by decide +kernel
theorem dX8_isInThousand_4 : decode cX8_isInThousand 4 = .ok (.iload_n 0, 1) := by decide +kernel
theorem dX8_isInThousand_5 : decode cX8_isInThousand 5 = .ok (.sipush 1000, 3) := by decide +kernel
theorem dX8_isInThousand_8 : decode cX8_isInThousand 8 = .ok (.if_icmp .gt 7, 3) := by decide +kernel
theorem dX8_isInThousand_11 : decode cX8_isInThousand 11 = .ok (.iconst 1, 1) := by decide +kernel
theorem dX8_isInThousand_12 : decode cX8_isInThousand 12 = .ok (.goto 4, 3) := by decide +kernel
theorem dX8_isInThousand_15 : decode cX8_isInThousand 15 = .ok (.iconst 0, 1) := by decide +kernel
theorem dX8_isInThousand_16 : decode cX8_isInThousand 16 = .ok (.ireturn, 1) := by decide +kernel
theorem dX8_isPartOf_0 : decode cX8_isPartOf 0 = .ok (.iload_n 1, 1) := by decide +kernel
theorem dX8_isPartOf_1 : decode cX8_isPartOf 1 = .ok (.ifCond .lt 22, 3) := by decide +kernel
theorem dX8_isPartOf_4 : decode cX8_isPartOf 4 = .ok (.iload_n 1, 1) := by decide +kernel
theorem dX8_isPartOf_5 : decode cX8_isPartOf 5 = .ok (.bipush 30, 2) := by decide +kernel
theorem dX8_isPartOf_7 : decode cX8_isPartOf 7 = .ok (.if_icmp .gt 16, 3) := by decide +kernel
theorem dX8_isPartOf_10 : decode cX8_isPartOf 10 = .ok (.iload_n 0, 1) := by decide +kernel
theorem dX8_isPartOf_11 : decode cX8_isPartOf 11 = .ok (.ifCond .lt 12, 3) := by decide +kernel
theorem dX8_isPartOf_14 : decode cX8_isPartOf 14 = .ok (.iload_n 0, 1) := by decide +kernel
theorem dX8_isPartOf_15 : decode cX8_isPartOf 15 = .ok (.iload_n 1, 1) := by decide +kernel
theorem dX8_isPartOf_16 : decode cX8_isPartOf 16 = .ok (.if_icmp .gt 7, 3) := by decide +kernel
theorem dX8_isPartOf_19 : decode cX8_isPartOf 19 = .ok (.iconst 1, 1) := by decide +kernel
theorem dX8_isPartOf_20 : decode cX8_isPartOf 20 = .ok (.goto 4, 3) := by decide +kernel
theorem dX8_isPartOf_23 : decode cX8_isPartOf 23 = .ok (.iconst 0, 1) := by decide +kernel
theorem dX8_isPartOf_24 : decode cX8_isPartOf 24 = .ok (.ireturn, 1) := by decide +kernel
theorem dX9_init_0 : decode cX9_init 0 = .ok (.aload_n 0, 1) := by decide +kernel
theorem dX9_init_1 : decode cX9_init 1 = .ok (.invokespecial 1, 3) := by decide +kernel
theorem dX9_init_4 : decode cX9_init 4 = .ok (.aload_n 0, 1) := by decide +kernel
theorem dX9_init_5 : decode cX9_init 5 = .ok (.sipush 700, 3) := by decide +kernel
theorem dX9_init_8 : decode cX9_init 8 = .ok (.newarray .int, 2) := by decide +kernel
theorem dX9_init_10 : decode cX9_init 10 = .ok (.putfield 7, 3) := by decide +kernel
theorem dX9_init_13 : decode cX9_init 13 = .ok (.aload_n 0, 1) := by decide +kernel
theorem dX9_init_14 : decode cX9_init 14 = .ok (.iconst (-1), 1) := by decide +kernel
theorem dX9_init_15 : decode cX9_init 15 = .ok (.putfield 13, 3) := by decide +kernel
theorem dX9_init_18 : decode cX9_init 18 = .ok (.aload_n 0, 1) := by decide +kernel
theorem dX9_init_19 : decode cX9_init 19 = .ok (.bipush 7, 2) := by decide +kernel
theorem dX9_init_21 : decode cX9_init 21 = .ok (.newarray .char, 2) := by decide +kernel
theorem dX9_init_23 : decode cX9_init 23 = .ok (.dup, 1) := by decide +kernel
theorem dX9_init_24 : decode cX9_init 24 = .ok (.iconst 0, 1) := by decide +kernel
theorem dX9_init_25 : decode cX9_init 25 = .ok (.bipush 112, 2) := by decide +kernel
theorem dX9_init_27 : decode cX9_init 27 = .ok (.castore, 1) := by decide +kernel
theorem dX9_init_28 : decode cX9_init 28 = .ok (.dup, 1) := by decide +kernel
theorem dX9_init_29 : decode cX9_init 29 = .ok (.iconst 1, 1) := by decide +kernel
theorem dX9_init_30 : decode cX9_init 30 = .ok (.bipush 114, 2) := by decide +kernel
theorem dX9_init_32 : decode cX9_init 32 = .ok (.castore, 1) := by decide +kernel
theorem dX9_init_33 : decode cX9_init 33 = .ok (.dup, 1) := by decide +kernel
theorem dX9_init_34 : decode cX9_init 34 = .ok (.iconst 2, 1) := by decide +kernel
theorem dX9_init_35 : decode cX9_init 35 = .ok (.bipush 111, 2) := by decide +kernel
theorem dX9_init_37 : decode cX9_init 37 = .ok (.castore, 1) := by decide +kernel
theorem dX9_init_38 : decode cX9_init 38 = .ok (.dup, 1) := by decide +kernel
theorem dX9_init_39 : decode cX9_init 39 = .ok (.iconst 3, 1) := by decide +kernel
theorem dX9_init_40 : decode cX9_init 40 = .ok (.bipush 100, 2) := by decide +kernel
theorem dX9_init_42 : decode cX9_init 42 = .ok (.castore, 1) := by decide +kernel
theorem dX9_init_43 : decode cX9_init 43 = .ok (.dup, 1) := by decide +kernel
theorem dX9_init_44 : decode cX9_init 44 = .ok (.iconst 4, 1) := by decide +kernel
theorem dX9_init_45 : decode cX9_init 45 = .ok (.bipush 117, 2) := by decide +kernel
theorem dX9_init_47 : decode cX9_init 47 = .ok (.castore, 1) := by decide +kernel
theorem dX9_init_48 : decode cX9_init 48 = .ok (.dup, 1) := by decide +kernel
theorem dX9_init_49 : decode cX9_init 49 = .ok (.iconst 5, 1) := by decide +kernel
theorem dX9_init_50 : decode cX9_init 50 = .ok (.bipush 99, 2) := by decide +kernel
theorem dX9_init_52 : decode cX9_init 52 = .ok (.castore, 1) := by decide +kernel
theorem dX9_init_53 : decode cX9_init 53 = .ok (.dup, 1) := by decide +kernel
theorem dX9_init_54 : decode cX9_init 54 = .ok (.bipush 6, 2) := by decide +kernel
theorem dX9_init_56 : decode cX9_init 56 = .ok (.bipush 116, 2) := by decide +kernel
theorem dX9_init_58 : decode cX9_init 58 = .ok (.castore, 1) := by decide +kernel
theorem dX9_init_59 : decode cX9_init 59 = .ok (.putfield 17, 3) := by decide +kernel
theorem dX9_init_62 : decode cX9_init 62 = .ok (.aload_n 0, 1) := by decide +kernel
theorem dX9_init_63 : decode cX9_init 63 = .ok (.bipush 8, 2) := by decide +kernel
theorem dX9_init_65 : decode cX9_init 65 = .ok (.newarray .char, 2) := by decide +kernel
theorem dX9_init_67 : decode cX9_init 67 = .ok (.dup, 1) := by decide +kernel
theorem dX9_init_68 : decode cX9_init 68 = .ok (.iconst 0, 1) := by decide +kernel
theorem dX9_init_69 : decode cX9_init 69 = .ok (.bipush 116, 2) := by decide +kernel
theorem dX9_init_71 : decode cX9_init 71 = .ok (.castore, 1) := by decide +kernel
theorem dX9_init_72 : decode cX9_init 72 = .ok (.dup, 1) := by decide +kernel
theorem dX9_init_73 : decode cX9_init 73 = .ok (.iconst 1, 1) := by decide +kernel
theorem dX9_init_74 : decode cX9_init 74 = .ok (.bipush 114, 2) := by decide +kernel
theorem dX9_init_76 : decode cX9_init 76 = .ok (.castore, 1) := by decide +kernel
theorem dX9_init_77 : decode cX9_init 77 = .ok (.dup, 1) := by decide +kernel
theorem dX9_init_78 : decode cX9_init 78 = .ok (.iconst 2, 1) := by decide +kernel
theorem dX9_init_79 : decode cX9_init 79 = .ok (.bipush 105, 2) := by decide +kernel
theorem dX9_init_81 : decode cX9_init 81 = .ok (.castore, 1) := by decide +kernel
theorem dX9_init_82 : decode cX9_init 82 = .ok (.dup, 1) := by decide +kernel
theorem dX9_init_83 : decode cX9_init 83 = .ok (.iconst 3, 1) := by decide +kernel
theorem dX9_init_84 : decode cX9_init 84 = .ok (.bipush 97, 2) := by decide +kernel
theorem dX9_init_86 : decode cX9_init 86 = .ok (.castore, 1) := by decide +kernel
theorem dX9_init_87 : decode cX9_init 87 = .ok (.dup, 1) := by decide +kernel
theorem dX9_init_88 : decode cX9_init 88 = .ok (.iconst 4, 1) := by decide +kernel
theorem dX9_init_89 : decode cX9_init 89 = .ok (.bipush 110, 2) := by decide +kernel
theorem dX9_init_91 : decode cX9_init 91 = .ok (.castore, 1) := by decide +kernel
theorem dX9_init_92 : decode cX9_init 92 = .ok (.dup, 1) := by decide +kernel
theorem dX9_init_93 : decode cX9_init 93 = .ok (.iconst 5, 1) := by decide +kernel
theorem dX9_init_94 : decode cX9_init 94 = .ok (.bipush 103, 2) := by decide +kernel
theorem dX9_init_96 : decode cX9_init 96 = .ok (.castore, 1) := by decide +kernel
theorem dX9_init_97 : decode cX9_init 97 = .ok (.dup, 1) := by decide +kernel
theorem dX9_init_98 : decode cX9_init 98 = .ok (.bipush 6, 2) := by decide +kernel
theorem dX9_init_100 : decode cX9_init 100 = .ok (.bipush 108, 2) := by decide +kernel
theorem dX9_init_102 : decode cX9_init 102 = .ok (.castore, 1) := by decide +kernel
theorem dX9_init_103 : decode cX9_init 103 = .ok (.dup, 1) := by decide +kernel
theorem dX9_init_104 : decode cX9_init 104 = .ok (.bipush 7, 2) := by decide +kernel
theorem dX9_init_106 : decode cX9_init 106 = .ok (.bipush 101, 2) := by decide +kernel
theorem dX9_init_108 : decode cX9_init 108 = .ok (.castore, 1) := by decide +kernel
theorem dX9_init_109 : decode cX9_init 109 = .ok (.putfield 21, 3) := by decide +kernel
theorem dX9_init_112 : decode cX9_init 112 = .ok (.aload_n 0, 1) := by decide +kernel
theorem dX9_init_113 : decode cX9_init 113 = .ok (.bipush 7, 2) := by decide +kernel
theorem dX9_init_115 : decode cX9_init 115 = .ok (.newarray .char, 2) := by decide +kernel
theorem dX9_init_117 : decode cX9_init 117 = .ok (.dup, 1) := by decide +kernel
theorem dX9_init_118 : decode cX9_init 118 = .ok (.iconst 0, 1) := by decide +kernel
theorem dX9_init_119 : decode cX9_init 119 = .ok (.bipush 97, 2) := by decide +kernel
theorem dX9_init_121 : decode cX9_init 121 = .ok (.castore, 1) := by decide +kernel
theorem dX9_init_122 : decode cX9_init 122 = .ok (.dup, 1) := by decide +kernel
theorem dX9_init_123 : decode cX9_init 123 = .ok (.iconst 1, 1) := by decide +kernel
theorem dX9_init_124 : decode cX9_init 124 = .ok (.bipush 103, 2) := by decide +kernel
theorem dX9_init_126 : decode cX9_init 126 = .ok (.castore, 1) := by decide +kernel
theorem dX9_init_127 : decode cX9_init 127 = .ok (.dup, 1) := by decide +kernel
theorem dX9_init_128 : decode cX9_init 128 = .ok (.iconst 2, 1) := by decide +kernel
theorem dX9_init_129 : decode cX9_init 129 = .ok (.bipush 97, 2) := by decide +kernel
theorem dX9_init_131 : decode cX9_init 131 = .ok (.castore, 1) := by decide +kernel
theorem dX9_init_132 : decode cX9_init 132 = .ok (.dup, 1) := by decide +kernel
theorem dX9_init_133 : decode cX9_init 133 = .ok (.iconst 3, 1) := by decide +kernel
theorem dX9_init_134 : decode cX9_init 134 = .ok (.bipush 105, 2) := by decide +kernel
theorem dX9_init_136 : decode cX9_init 136 = .ok (.castore, 1) := by decide +kernel
theorem dX9_init_137 : decode cX9_init 137 = .ok (.dup, 1) := by decide +kernel
theorem dX9_init_138 : decode cX9_init 138 = .ok (.iconst 4, 1) := by decide +kernel
theorem dX9_init_139 : decode cX9_init 139 = .ok (.bipush 110, 2) := by decide +kernel
theorem dX9_init_141 : decode cX9_init 141 = .ok (.castore, 1) := by decide +kernel
theorem dX9_init_142 : decode cX9_init 142 = .ok (.dup, 1) := by decide +kernel
theorem dX9_init_143 : decode cX9_init 143 = .ok (.iconst 5, 1) := by decide +kernel
theorem dX9_init_144 : decode cX9_init 144 = .ok (.bipush 115, 2) := by decide +kernel
theorem dX9_init_146 : decode cX9_init 146 = .ok (.castore, 1) := by decide +kernel
theorem dX9_init_147 : decode cX9_init 147 = .ok (.dup, 1) := by decide +kernel
theorem dX9_init_148 : decode cX9_init 148 = .ok (.bipush 6, 2) := by decide +kernel
theorem dX9_init_150 : decode cX9_init 150 = .ok (.bipush 116, 2) := by decide +kernel
theorem dX9_init_152 : decode cX9_init 152 = .ok (.castore, 1) := by decide +kernel
theorem dX9_init_153 : decode cX9_init 153 = .ok (.putfield 24, 3) := by decide +kernel
theorem dX9_init_156 : decode cX9_init 156 = .ok (.aload_n 0, 1) := by decide +kernel
theorem dX9_init_157 : decode cX9_init 157 = .ok (.iconst 4, 1) := by decide +kernel
theorem dX9_init_158 : decode cX9_init 158 = .ok (.newarray .char, 2) := by decide +kernel
theorem dX9_init_160 : decode cX9_init 160 = .ok (.dup, 1) := by decide +kernel
theorem dX9_init_161 : decode cX9_init 161 = .ok (.iconst 0, 1) := by decide +kernel
theorem dX9_init_162 : decode cX9_init 162 = .ok (.bipush 112, 2) := by decide +kernel
theorem dX9_init_164 : decode cX9_init 164 = .ok (.castore, 1) := by decide +kernel
theorem dX9_init_165 : decode cX9_init 165 = .ok (.dup, 1) := by decide +kernel
theorem dX9_init_166 : decode cX9_init 166 = .ok (.iconst 1, 1) := by decide +kernel
theorem dX9_init_167 : decode cX9_init 167 = .ok (.bipush 97, 2) := by decide +kernel
theorem dX9_init_169 : decode cX9_init 169 = .ok (.castore, 1) := by decide +kernel
theorem dX9_init_170 : decode cX9_init 170 = .ok (.dup, 1) := by decide +kernel
theorem dX9_init_171 : decode cX9_init 171 = .ok (.iconst 2, 1) := by decide +kernel
theorem dX9_init_172 : decode cX9_init 172 = .ok (.bipush 105, 2) := by decide +kernel
theorem dX9_init_174 : decode cX9_init 174 = .ok (.castore, 1) := by decide +kernel
theorem dX9_init_175 : decode cX9_init 175 = .ok (.dup, 1) := by decide +kernel
theorem dX9_init_176 : decode cX9_init 176 = .ok (.iconst 3, 1) := by decide +kernel
theorem dX9_init_177 : decode cX9_init 177 = .ok (.bipush 114, 2) := by decide +kernel
theorem dX9_init_179 : decode cX9_init 179 = .ok (.castore, 1) := by decide +kernel
theorem dX9_init_180 : decode cX9_init 180 = .ok (.putfield 27, 3) := by decide +kernel
theorem dX9_init_183 : decode cX9_init 183 = .ok (.aload_n 0, 1) := by decide +kernel
theorem dX9_init_184 : decode cX9_init 184 = .ok (.iconst 4, 1) := by decide +kernel
theorem dX9_init_185 : decode cX9_init 185 = .ok (.newarray .char, 2) := by decide +kernel
theorem dX9_init_187 : decode cX9_init 187 = .ok (.dup, 1) := by decide +kernel
theorem dX9_init_188 : decode cX9_init 188 = .ok (.iconst 0, 1) := by decide +kernel
theorem dX9_init_189 : decode cX9_init 189 = .ok (.bipush 108, 2) := by decide +kernel
theorem dX9_init_191 : decode cX9_init 191 = .ok (.castore, 1) := by decide +kernel
theorem dX9_init_192 : decode cX9_init 192 = .ok (.dup, 1) := by decide +kernel
theorem dX9_init_193 : decode cX9_init 193 = .ok (.iconst 1, 1) := by decide +kernel
theorem dX9_init_194 : decode cX9_init 194 = .ok (.bipush 111, 2) := by decide +kernel
theorem dX9_init_196 : decode cX9_init 196 = .ok (.castore, 1) := by decide +kernel
theorem dX9_init_197 : decode cX9_init 197 = .ok (.dup, 1) := by decide +kernel
theorem dX9_init_198 : decode cX9_init 198 = .ok (.iconst 2, 1) := by decide +kernel
theorem dX9_init_199 : decode cX9_init 199 = .ok (.bipush 111, 2) := by decide +kernel
theorem dX9_init_201 : decode cX9_init 201 = .ok (.castore, 1) := by decide +kernel
theorem dX9_init_202 : decode cX9_init 202 = .ok (.dup, 1) := by decide +kernel
theorem dX9_init_203 : decode cX9_init 203 = .ok (.iconst 3, 1) := by decide +kernel
theorem dX9_init_204 : decode cX9_init 204 = .ok (.bipush 107, 2) := by decide +kernel
theorem dX9_init_206 : decode cX9_init 206 = .ok (.castore, 1) := by decide +kernel
theorem dX9_init_207 : decode cX9_init 207 = .ok (.putfield 30, 3) := by decide +kernel
theorem dX9_init_210 : decode cX9_init 210 = .ok (.aload_n 0, 1) := by decide +kernel
theorem dX9_init_211 : decode cX9_init 211 = .ok (.iconst 5, 1) := by decide +kernel
theorem dX9_init_212 : decode cX9_init 212 = .ok (.newarray .char, 2) := by decide +kernel
theorem dX9_init_214 : decode cX9_init 214 = .ok (.dup, 1) := by decide +kernel
theorem dX9_init_215 : decode cX9_init 215 = .ok (.iconst 0, 1) := by decide +kernel
theorem dX9_init_216 : decode cX9_init 216 = .ok (.bipush 98, 2) := by decide +kernel
theorem dX9_init_218 : decode cX9_init 218 = .ok (.castore, 1) := by decide +kernel
theorem dX9_init_219 : decode cX9_init 219 = .ok (.dup, 1) := by decide +kernel
theorem dX9_init_220 : decode cX9_init 220 = .ok (.iconst 1, 1) := by decide +kernel
theorem dX9_init_221 : decode cX9_init 221 = .ok (.bipush 101, 2) := by decide +kernel
theorem dX9_init_223 : decode cX9_init 223 = .ok (.castore, 1) := by decide +kernel
theorem dX9_init_224 : decode cX9_init 224 = .ok (.dup, 1) := by decide +kernel
theorem dX9_init_225 : decode cX9_init 225 = .ok (.iconst 2, 1) := by decide +kernel
theorem dX9_init_226 : decode cX9_init 226 = .ok (.bipush 108, 2) := by decide +kernel
theorem dX9_init_228 : decode cX9_init 228 = .ok (.castore, 1) := by decide +kernel
theorem dX9_init_229 : decode cX9_init 229 = .ok (.dup, 1) := by decide +kernel
theorem dX9_init_230 : decode cX9_init 230 = .ok (.iconst 3, 1) := by decide +kernel
theorem dX9_init_231 : decode cX9_init 231 = .ok (.bipush 111, 2) := by decide +kernel
theorem dX9_init_233 : decode cX9_init 233 = .ok (.castore, 1) := by decide +kernel
theorem dX9_init_234 : decode cX9_init 234 = .ok (.dup, 1) := by decide +kernel
theorem dX9_init_235 : decode cX9_init 235 = .ok (.iconst 4, 1) := by decide +kernel
theorem dX9_init_236 : decode cX9_init 236 = .ok (.bipush 119, 2) := by decide +kernel
theorem dX9_init_238 : decode cX9_init 238 = .ok (.castore, 1) := by decide +kernel
theorem dX9_init_239 : decode cX9_init 239 = .ok (.putfield 33, 3) := by decide +kernel
theorem dX9_init_242 : decode cX9_init 242 = .ok (.aload_n 0, 1) := by decide +kernel
theorem dX9_init_243 : decode cX9_init 243 = .ok (.iconst 2, 1) := by decide +kernel
theorem dX9_init_244 : decode cX9_init 244 = .ok (.newarray .char, 2) := by decide +kernel
theorem dX9_init_246 : decode cX9_init 246 = .ok (.dup, 1) := by decide +kernel
theorem dX9_init_247 : decode cX9_init 247 = .ok (.iconst 0, 1) := by decide +kernel
theorem dX9_init_248 : decode cX9_init 248 = .ok (.bipush 105, 2) := by decide +kernel
theorem dX9_init_250 : decode cX9_init 250 = .ok (.castore, 1) := by decide +kernel
theorem dX9_init_251 : decode cX9_init 251 = .ok (.dup, 1) := by decide +kernel
theorem dX9_init_252 : decode cX9_init 252 = .ok (.iconst 1, 1) := by decide +kernel
theorem dX9_init_253 : decode cX9_init 253 = .ok (.bipush 110, 2) := by decide +kernel
theorem dX9_init_255 : decode cX9_init 255 = .ok (.castore, 1) := by decide +kernel
theorem dX9_init_256 : decode cX9_init 256 = .ok (.putfield 36, 3) := by decide +kernel
theorem dX9_init_259 : decode cX9_init 259 = .ok (.aload_n 0, 1) := by decide +kernel
theorem dX9_init_260 : decode cX9_init 260 = .ok (.iconst 4, 1) := by decide +kernel
theorem dX9_init_261 : decode cX9_init 261 = .ok (.newarray .char, 2) := by decide +kernel
theorem dX9_init_263 : decode cX9_init 263 = .ok (.dup, 1) := by decide +kernel
theorem dX9_init_264 : decode cX9_init 264 = .ok (.iconst 0, 1) := by decide +kernel
theorem dX9_init_265 : decode cX9_init 265 = .ok (.bipush 116, 2) := by decide +kernel
theorem dX9_init_267 : decode cX9_init 267 = .ok (.castore, 1) := by decide +kernel
theorem dX9_init_268 : decode cX9_init 268 = .ok (.dup, 1) := by decide +kernel
theorem dX9_init_269 : decode cX9_init 269 = .ok (.iconst 1, 1) := by decide +kernel
theorem dX9_init_270 : decode cX9_init 270 = .ok (.bipush 105, 2) := by decide +kernel
theorem dX9_init_272 : decode cX9_init 272 = .ok (.castore, 1) := by decide +kernel
theorem dX9_init_273 : decode cX9_init 273 = .ok (.dup, 1) := by decide +kernel
theorem dX9_init_274 : decode cX9_init 274 = .ok (.iconst 2, 1) := by decide +kernel
theorem dX9_init_275 : decode cX9_init 275 = .ok (.bipush 101, 2) := by decide +kernel
theorem dX9_init_277 : decode cX9_init 277 = .ok (.castore, 1) := by decide +kernel
theorem dX9_init_278 : decode cX9_init 278 = .ok (.dup, 1) := by decide +kernel
theorem dX9_init_279 : decode cX9_init 279 = .ok (.iconst 3, 1) := by decide +kernel
theorem dX9_init_280 : decode cX9_init 280 = .ok (.bipush 115, 2) := by decide +kernel
theorem dX9_init_282 : decode cX9_init 282 = .ok (.castore, 1) := by decide +kernel
theorem dX9_init_283 : decode cX9_init 283 = .ok (.putfield 39, 3) := by decide +kernel
theorem dX9_init_286 : decode cX9_init 286 = .ok (.aload_n 0, 1) := by decide +kernel
theorem dX9_init_287 : decode cX9_init 287 = .ok (.iconst 4, 1) := by decide +kernel
theorem dX9_init_288 : decode cX9_init 288 = .ok (.newarray .char, 2) := by decide +kernel
theorem dX9_init_290 : decode cX9_init 290 = .ok (.dup, 1) := by decide +kernel
theorem dX9_init_291 : decode cX9_init 291 = .ok (.iconst 0, 1) := by decide +kernel
theorem dX9_init_292 : decode cX9_init 292 = .ok (.bipush 104, 2) := by decide +kernel
theorem dX9_init_294 : decode cX9_init 294 = .ok (.castore, 1) := by decide +kernel
theorem dX9_init_295 : decode cX9_init 295 = .ok (.dup, 1) := by decide +kernel
theorem dX9_init_296 : decode cX9_init 296 = .ok (.iconst 1, 1) := by decide +kernel
theorem dX9_init_297 : decode cX9_init 297 = .ok (.bipush 97, 2) := by decide +kernel
theorem dX9_init_299 : decode cX9_init 299 = .ok (.castore, 1) := by decide +kernel
theorem dX9_init_300 : decode cX9_init 300 = .ok (.dup, 1) := by decide +kernel
theorem dX9_init_301 : decode cX9_init 301 = .ok (.iconst 2, 1) := by decide +kernel
theorem dX9_init_302 : decode cX9_init 302 = .ok (.bipush 108, 2) := by decide +kernel
theorem dX9_init_304 : decode cX9_init 304 = .ok (.castore, 1) := by decide +kernel
theorem dX9_init_305 : decode cX9_init 305 = .ok (.dup, 1) := by decide +kernel
theorem dX9_init_306 : decode cX9_init 306 = .ok (.iconst 3, 1) := by decide +kernel
theorem dX9_init_307 : decode cX9_init 307 = .ok (.bipush 102, 2) := by decide +kernel
theorem dX9_init_309 : decode cX9_init 309 = .ok (.castore, 1) := by decide +kernel
theorem dX9_init_310 : decode cX9_init 310 = .ok (.putfield 42, 3) := by decide +kernel
theorem dX9_init_313 : decode cX9_init 313 = .ok (.aload_n 0, 1) := by decide +kernel
theorem dX9_init_314 : decode cX9_init 314 = .ok (.iconst 4, 1) := by decide +kernel
theorem dX9_init_315 : decode cX9_init 315 = .ok (.newarray .char, 2) := by decide +kernel
theorem dX9_init_317 : decode cX9_init 317 = .ok (.dup, 1) := by decide +kernel
theorem dX9_init_318 : decode cX9_init 318 = .ok (.iconst 0, 1) := by decide +kernel
theorem dX9_init_319 : decode cX9_init 319 = .ok (.bipush 100, 2) := by decide +kernel
theorem dX9_init_321 : decode cX9_init 321 = .ok (.castore, 1) := by decide +kernel
theorem dX9_init_322 : decode cX9_init 322 = .ok (.dup, 1) := by decide +kernel
theorem dX9_init_323 : decode cX9_init 323 = .ok (.iconst 1, 1) := by decide +kernel
theorem dX9_init_324 : decode cX9_init 324 = .ok (.bipush 114, 2) := by decide +kernel
theorem dX9_init_326 : decode cX9_init 326 = .ok (.castore, 1) := by decide +kernel
theorem dX9_init_327 : decode cX9_init 327 = .ok (.dup, 1) := by decide +kernel
theorem dX9_init_328 : decode cX9_init 328 = .ok (.iconst 2, 1) := by decide +kernel
theorem dX9_init_329 : decode cX9_init 329 = .ok (.bipush 111, 2) := by decide +kernel
theorem dX9_init_331 : decode cX9_init 331 = .ok (.castore, 1) := by decide +kernel
theorem dX9_init_332 : decode cX9_init 332 = .ok (.dup, 1) := by decide +kernel
theorem dX9_init_333 : decode cX9_init 333 = .ok (.iconst 3, 1) := by decide +kernel
theorem dX9_init_334 : decode cX9_init 334 = .ok (.bipush 112, 2) := by decide +kernel
theorem dX9_init_336 : decode cX9_init 336 = .ok (.castore, 1) := by decide +kernel
theorem dX9_init_337 : decode cX9_init 337 = .ok (.putfield 45, 3) := by decide +kernel
theorem dX9_init_340 : decode cX9_init 340 = .ok (.aload_n 0, 1) := by decide +kernel
theorem dX9_init_341 : decode cX9_init 341 = .ok (.iconst 4, 1) := by decide +kernel
theorem dX9_init_342 : decode cX9_init 342 = .ok (.newarray .char, 2) := by decide +kernel
theorem dX9_init_344 : decode cX9_init 344 = .ok (.dup, 1) := by decide +kernel
theorem dX9_init_345 : decode cX9_init 345 = .ok (.iconst 0, 1) := by decide +kernel
theorem dX9_init_346 : decode cX9_init 346 = .ok (.bipush 108, 2) := by decide +kernel
theorem dX9_init_348 : decode cX9_init 348 = .ok (.castore, 1) := by decide +kernel
theorem dX9_init_349 : decode cX9_init 349 = .ok (.dup, 1) := by decide +kernel
theorem dX9_init_350 : decode cX9_init 350 = .ok (.iconst 1, 1) := by decide +kernel
theorem dX9_init_351 : decode cX9_init 351 = .ok (.bipush 111, 2) := by decide +kernel
theorem dX9_init_353 : decode cX9_init 353 = .ok (.castore, 1) := by decide +kernel
theorem dX9_init_354 : decode cX9_init 354 = .ok (.dup, 1) := by decide +kernel
theorem dX9_init_355 : decode cX9_init 355 = .ok (.iconst 2, 1) := by decide +kernel
theorem dX9_init_356 : decode cX9_init 356 = .ok (.bipush 115, 2) := by decide +kernel
theorem dX9_init_358 : decode cX9_init 358 = .ok (.castore, 1) := by decide +kernel
theorem dX9_init_359 : decode cX9_init 359 = .ok (.dup, 1) := by decide +kernel
theorem dX9_init_360 : decode cX9_init 360 = .ok (.iconst 3, 1) := by decide +kernel
theorem dX9_init_361 : decode cX9_init 361 = .ok (.bipush 101, 2) := by decide +kernel
theorem dX9_init_363 : decode cX9_init 363 = .ok (.castore, 1) := by decide +kernel
theorem dX9_init_364 : decode cX9_init 364 = .ok (.putfield 48, 3) := by decide +kernel
theorem dX9_init_367 : decode cX9_init 367 = .ok (.aload_n 0, 1) := by decide +kernel
theorem dX9_init_368 : decode cX9_init 368 = .ok (.iconst 5, 1) := by decide +kernel
theorem dX9_init_369 : decode cX9_init 369 = .ok (.newarray .char, 2) := by decide +kernel
theorem dX9_init_371 : decode cX9_init 371 = .ok (.dup, 1) := by decide +kernel
theorem dX9_init_372 : decode cX9_init 372 = .ok (.iconst 0, 1) := by decide +kernel
theorem dX9_init_373 : decode cX9_init 373 = .ok (.bipush 115, 2) := by decide +kernel
theorem dX9_init_375 : decode cX9_init 375 = .ok (.castore, 1) := by decide +kernel
theorem dX9_init_376 : decode cX9_init 376 = .ok (.dup, 1) := by decide +kernel
theorem dX9_init_377 : decode cX9_init 377 = .ok (.iconst 1, 1) := by decide +kernel
theorem dX9_init_378 : decode cX9_init 378 = .ok (.bipush 99, 2) := by decide +kernel
theorem dX9_init_380 : decode cX9_init 380 = .ok (.castore, 1) := by decide +kernel
theorem dX9_init_381 : decode cX9_init 381 = .ok (.dup, 1) := by decide +kernel
theorem dX9_init_382 : decode cX9_init 382 = .ok (.iconst 2, 1) := by decide +kernel
theorem dX9_init_383 : decode cX9_init 383 = .ok (.bipush 97, 2) := by decide +kernel
theorem dX9_init_385 : decode cX9_init 385 = .ok (.castore, 1) := by decide +kernel
theorem dX9_init_386 : decode cX9_init 386 = .ok (.dup, 1) := by decide +kernel
theorem dX9_init_387 : decode cX9_init 387 = .ok (.iconst 3, 1) := by decide +kernel
theorem dX9_init_388 : decode cX9_init 388 = .ok (.bipush 108, 2) := by decide +kernel
theorem dX9_init_390 : decode cX9_init 390 = .ok (.castore, 1) := by decide +kernel
theorem dX9_init_391 : decode cX9_init 391 = .ok (.dup, 1) := by decide +kernel
theorem dX9_init_392 : decode cX9_init 392 = .ok (.iconst 4, 1) := by decide +kernel
theorem dX9_init_393 : decode cX9_init 393 = .ok (.bipush 101, 2) := by decide +kernel
theorem dX9_init_395 : decode cX9_init 395 = .ok (.castore, 1) := by decide +kernel
theorem dX9_init_396 : decode cX9_init 396 = .ok (.putfield 51, 3) := by decide +kernel
theorem dX9_init_399 : decode cX9_init 399 = .ok (.aload_n 0, 1) := by decide +kernel
theorem dX9_init_400 : decode cX9_init 400 = .ok (.iconst 3, 1) := by decide +kernel
theorem dX9_init_401 : decode cX9_init 401 = .ok (.newarray .char, 2) := by decide +kernel
theorem dX9_init_403 : decode cX9_init 403 = .ok (.dup, 1) := by decide +kernel
theorem dX9_init_404 : decode cX9_init 404 = .ok (.iconst 0, 1) := by decide +kernel
theorem dX9_init_405 : decode cX9_init 405 = .ok (.bipush 111, 2) := by decide +kernel
theorem dX9_init_407 : decode cX9_init 407 = .ok (.castore, 1) := by decide +kernel
theorem dX9_init_408 : decode cX9_init 408 = .ok (.dup, 1) := by decide +kernel
theorem dX9_init_409 : decode cX9_init 409 = .ok (.iconst 1, 1) := by decide +kernel
theorem dX9_init_410 : decode cX9_init 410 = .ok (.bipush 119, 2) := by decide +kernel
theorem dX9_init_412 : decode cX9_init 412 = .ok (.castore, 1) := by decide +kernel
theorem dX9_init_413 : decode cX9_init 413 = .ok (.dup, 1) := by decide +kernel
theorem dX9_init_414 : decode cX9_init 414 = .ok (.iconst 2, 1) := by decide +kernel
theorem dX9_init_415 : decode cX9_init 415 = .ok (.bipush 110, 2) := by decide +kernel
theorem dX9_init_417 : decode cX9_init 417 = .ok (.castore, 1) := by decide +kernel
theorem dX9_init_418 : decode cX9_init 418 = .ok (.putfield 54, 3) := by decide +kernel
theorem dX9_init_421 : decode cX9_init 421 = .ok (.aload_n 0, 1) := by decide +kernel
theorem dX9_init_422 : decode cX9_init 422 = .ok (.iconst 3, 1) := by decide +kernel
theorem dX9_init_423 : decode cX9_init 423 = .ok (.newarray .char, 2) := by decide +kernel
theorem dX9_init_425 : decode cX9_init 425 = .ok (.dup, 1) := by decide +kernel
theorem dX9_init_426 : decode cX9_init 426 = .ok (.iconst 0, 1) := by decide +kernel
theorem dX9_init_427 : decode cX9_init 427 = .ok (.bipush 114, 2) := by decide +kernel
theorem dX9_init_429 : decode cX9_init 429 = .ok (.castore, 1) := by decide +kernel
theorem dX9_init_430 : decode cX9_init 430 = .ok (.dup, 1) := by decide +kernel
theorem dX9_init_431 : decode cX9_init 431 = .ok (.iconst 1, 1) := by decide +kernel
theorem dX9_init_432 : decode cX9_init 432 = .ok (.bipush 97, 2) := by decide +kernel
theorem dX9_init_434 : decode cX9_init 434 = .ok (.castore, 1) := by decide +kernel
theorem dX9_init_435 : decode cX9_init 435 = .ok (.dup, 1) := by decide +kernel
theorem dX9_init_436 : decode cX9_init 436 = .ok (.iconst 2, 1) := by decide +kernel
theorem dX9_init_437 : decode cX9_init 437 = .ok (.bipush 119, 2) := by decide +kernel
theorem dX9_init_439 : decode cX9_init 439 = .ok (.castore, 1) := by decide +kernel
theorem dX9_init_440 : decode cX9_init 440 = .ok (.putfield 57, 3) := by decide +kernel
theorem dX9_init_443 : decode cX9_init 443 = .ok (.aload_n 0, 1) := by decide +kernel
theorem dX9_init_444 : decode cX9_init 444 = .ok (.bipush 9, 2) := by decide +kernel
theorem dX9_init_446 : decode cX9_init 446 = .ok (.newarray .char, 2) := by decide +kernel
theorem dX9_init_448 : decode cX9_init 448 = .ok (.dup, 1) := by decide +kernel
theorem dX9_init_449 : decode cX9_init 449 = .ok (.iconst 0, 1) := by decide +kernel
theorem dX9_init_450 : decode cX9_init 450 = .ok (.bipush 114, 2) := by decide +kernel
theorem dX9_init_452 : decode cX9_init 452 = .ok (.castore, 1) := by decide +kernel
theorem dX9_init_453 : decode cX9_init 453 = .ok (.dup, 1) := by decide +kernel
theorem dX9_init_454 : decode cX9_init 454 = .ok (.iconst 1, 1) := by decide +kernel
theorem dX9_init_455 : decode cX9_init 455 = .ok (.bipush 101, 2) := by decide +kernel
theorem dX9_init_457 : decode cX9_init 457 = .ok (.castore, 1) := by decide +kernel
theorem dX9_init_458 : decode cX9_init 458 = .ok (.dup, 1) := by decide +kernel
theorem dX9_init_459 : decode cX9_init 459 = .ok (.iconst 2, 1) := by decide +kernel
theorem dX9_init_460 : decode cX9_init 460 = .ok (.bipush 102, 2) := by decide +kernel
theorem dX9_init_462 : decode cX9_init 462 = .ok (.castore, 1) := by decide +kernel
theorem dX9_init_463 : decode cX9_init 463 = .ok (.dup, 1) := by decide +kernel
theorem dX9_init_464 : decode cX9_init 464 = .ok (.iconst 3, 1) := by decide +kernel
theorem dX9_init_465 : decode cX9_init 465 = .ok (.bipush 101, 2) := by decide +kernel
theorem dX9_init_467 : decode cX9_init 467 = .ok (.castore, 1) := by decide +kernel
theorem dX9_init_468 : decode cX9_init 468 = .ok (.dup, 1) := by decide +kernel
theorem dX9_init_469 : decode cX9_init 469 = .ok (.iconst 4, 1) := by decide +kernel
theorem dX9_init_470 : decode cX9_init 470 = .ok (.bipush 114, 2) := by decide +kernel
theorem dX9_init_472 : decode cX9_init 472 = .ok (.castore, 1) := by decide +kernel
theorem dX9_init_473 : decode cX9_init 473 = .ok (.dup, 1) := by decide +kernel
theorem dX9_init_474 : decode cX9_init 474 = .ok (.iconst 5, 1) := by decide +kernel
theorem dX9_init_475 : decode cX9_init 475 = .ok (.bipush 101, 2) := by decide +kernel
theorem dX9_init_477 : decode cX9_init 477 = .ok (.castore, 1) := by decide +kernel
theorem dX9_init_478 : decode cX9_init 478 = .ok (.dup, 1) := by decide +kernel
theorem dX9_init_479 : decode cX9_init 479 = .ok (.bipush 6, 2) := by decide +kernel
theorem dX9_init_481 : decode cX9_init 481 = .ok (.bipush 110, 2) := by decide +kernel
theorem dX9_init_483 : decode cX9_init 483 = .ok (.castore, 1) := by decide +kernel
theorem dX9_init_484 : decode cX9_init 484 = .ok (.dup, 1) := by decide +kernel
theorem dX9_init_485 : decode cX9_init 485 = .ok (.bipush 7, 2) := by decide +kernel
theorem dX9_init_487 : decode cX9_init 487 = .ok (.bipush 99, 2) := by decide +kernel
theorem dX9_init_489 : decode cX9_init 489 = .ok (.castore, 1) := by decide +kernel
theorem dX9_init_490 : decode cX9_init 490 = .ok (.dup, 1) := by decide +kernel
theorem dX9_init_491 : decode cX9_init 491 = .ok (.bipush 8, 2) := by decide +kernel
theorem dX9_init_493 : decode cX9_init 493 = .ok (.bipush 101, 2) := by decide +kernel
theorem dX9_init_495 : decode cX9_init 495 = .ok (.castore, 1) := by decide +kernel
theorem dX9_init_496 : decode cX9_init 496 = .ok (.putfield 60, 3) := by decide +kernel
theorem dX9_init_499 : decode cX9_init 499 = .ok (.aload_n 0, 1) := by decide +kernel
theorem dX9_init_500 : decode cX9_init 500 = .ok (.iconst 5, 1) := by decide +kernel
theorem dX9_init_501 : decode cX9_init 501 = .ok (.newarray .char, 2) := by decide +kernel
theorem dX9_init_503 : decode cX9_init 503 = .ok (.dup, 1) := by decide +kernel
theorem dX9_init_504 : decode cX9_init 504 = .ok (.iconst 0, 1) := by decide +kernel
theorem dX9_init_505 : decode cX9_init 505 = .ok (.bipush 99, 2) := by decide +kernel
theorem dX9_init_507 : decode cX9_init 507 = .ok (.castore, 1) := by decide +kernel
theorem dX9_init_508 : decode cX9_init 508 = .ok (.dup, 1) := by decide +kernel
theorem dX9_init_509 : decode cX9_init 509 = .ok (.iconst 1, 1) := by decide +kernel
theorem dX9_init_510 : decode cX9_init 510 = .ok (.bipush 108, 2) := by decide +kernel
theorem dX9_init_512 : decode cX9_init 512 = .ok (.castore, 1) := by decide +kernel
theorem dX9_init_513 : decode cX9_init 513 = .ok (.dup, 1) := by decide +kernel
theorem dX9_init_514 : decode cX9_init 514 = .ok (.iconst 2, 1) := by decide +kernel
theorem dX9_init_515 : decode cX9_init 515 = .ok (.bipush 97, 2) := by decide +kernel
theorem dX9_init_517 : decode cX9_init 517 = .ok (.castore, 1) := by decide +kernel
theorem dX9_init_518 : decode cX9_init 518 = .ok (.dup, 1) := by decide +kernel
theorem dX9_init_519 : decode cX9_init 519 = .ok (.iconst 3, 1) := by decide +kernel
theorem dX9_init_520 : decode cX9_init 520 = .ok (.bipush 105, 2) := by decide +kernel
theorem dX9_init_522 : decode cX9_init 522 = .ok (.castore, 1) := by decide +kernel
theorem dX9_init_523 : decode cX9_init 523 = .ok (.dup, 1) := by decide +kernel
theorem dX9_init_524 : decode cX9_init 524 = .ok (.iconst 4, 1) := by decide +kernel
theorem dX9_init_525 : decode cX9_init 525 = .ok (.bipush 109, 2) := by decide +kernel
theorem dX9_init_527 : decode cX9_init 527 = .ok (.castore, 1) := by decide +kernel
theorem dX9_init_528 : decode cX9_init 528 = .ok (.putfield 63, 3) := by decide +kernel
theorem dX9_init_531 : decode cX9_init 531 = .ok (.aload_n 0, 1) := by decide +kernel
theorem dX9_init_532 : decode cX9_init 532 = .ok (.iconst 4, 1) := by decide +kernel
theorem dX9_init_533 : decode cX9_init 533 = .ok (.newarray .char, 2) := by decide +kernel
theorem dX9_init_535 : decode cX9_init 535 = .ok (.dup, 1) := by decide +kernel
theorem dX9_init_536 : decode cX9_init 536 = .ok (.iconst 0, 1) := by decide +kernel
theorem dX9_init_537 : decode cX9_init 537 = .ok (.bipush 119, 2) := by decide +kernel
theorem dX9_init_539 : decode cX9_init 539 = .ok (.castore, 1) := by decide +kernel
theorem dX9_init_540 : decode cX9_init 540 = .ok (.dup, 1) := by decide +kernel
theorem dX9_init_541 : decode cX9_init 541 = .ok (.iconst 1, 1) := by decide +kernel
theorem dX9_init_542 : decode cX9_init 542 = .ok (.bipush 104, 2) := by decide +kernel
theorem dX9_init_544 : decode cX9_init 544 = .ok (.castore, 1) := by decide +kernel
theorem dX9_init_545 : decode cX9_init 545 = .ok (.dup, 1) := by decide +kernel
theorem dX9_init_546 : decode cX9_init 546 = .ok (.iconst 2, 1) := by decide +kernel
theorem dX9_init_547 : decode cX9_init 547 = .ok (.bipush 101, 2) := by decide +kernel
theorem dX9_init_549 : decode cX9_init 549 = .ok (.castore, 1) := by decide +kernel
theorem dX9_init_550 : decode cX9_init 550 = .ok (.dup, 1) := by decide +kernel
theorem dX9_init_551 : decode cX9_init 551 = .ok (.iconst 3, 1) := by decide +kernel
theorem dX9_init_552 : decode cX9_init 552 = .ok (.bipush 110, 2) := by decide +kernel
theorem dX9_init_554 : decode cX9_init 554 = .ok (.castore, 1) := by decide +kernel
theorem dX9_init_555 : decode cX9_init 555 = .ok (.putfield 66, 3) := by decide +kernel
theorem dX9_init_558 : decode cX9_init 558 = .ok (.aload_n 0, 1) := by decide +kernel
theorem dX9_init_559 : decode cX9_init 559 = .ok (.iconst 2, 1) := by decide +kernel
theorem dX9_init_560 : decode cX9_init 560 = .ok (.newarray .char, 2) := by decide +kernel
theorem dX9_init_562 : decode cX9_init 562 = .ok (.dup, 1) := by decide +kernel
theorem dX9_init_563 : decode cX9_init 563 = .ok (.iconst 0, 1) := by decide +kernel
theorem dX9_init_564 : decode cX9_init 564 = .ok (.bipush 111, 2) := by decide +kernel
theorem dX9_init_566 : decode cX9_init 566 = .ok (.castore, 1) := by decide +kernel
theorem dX9_init_567 : decode cX9_init 567 = .ok (.dup, 1) := by decide +kernel
theorem dX9_init_568 : decode cX9_init 568 = .ok (.iconst 1, 1) := by decide +kernel
theorem dX9_init_569 : decode cX9_init 569 = .ok (.bipush 114, 2) := by decide +kernel
theorem dX9_init_571 : decode cX9_init 571 = .ok (.castore, 1) := by decide +kernel
theorem dX9_init_572 : decode cX9_init 572 = .ok (.putfield 69, 3) := by decide +kernel
theorem dX9_init_575 : decode cX9_init 575 = .ok (.aload_n 0, 1) := by decide +kernel
theorem dX9_init_576 : decode cX9_init 576 = .ok (.iconst 3, 1) := by decide +kernel
theorem dX9_init_577 : decode cX9_init 577 = .ok (.newarray .char, 2) := by decide +kernel
theorem dX9_init_579 : decode cX9_init 579 = .ok (.dup, 1) := by decide +kernel
theorem dX9_init_580 : decode cX9_init 580 = .ok (.iconst 0, 1) := by decide +kernel
theorem dX9_init_581 : decode cX9_init 581 = .ok (.bipush 97, 2) := by decide +kernel
theorem dX9_init_583 : decode cX9_init 583 = .ok (.castore, 1) := by decide +kernel
theorem dX9_init_584 : decode cX9_init 584 = .ok (.dup, 1) := by decide +kernel
theorem dX9_init_585 : decode cX9_init 585 = .ok (.iconst 1, 1) := by decide +kernel
theorem dX9_init_586 : decode cX9_init 586 = .ok (.bipush 110, 2) := by decide +kernel
theorem dX9_init_588 : decode cX9_init 588 = .ok (.castore, 1) := by decide +kernel
theorem dX9_init_589 : decode cX9_init 589 = .ok (.dup, 1) := by decide +kernel
theorem dX9_init_590 : decode cX9_init 590 = .ok (.iconst 2, 1) := by decide +kernel
theorem dX9_init_591 : decode cX9_init 591 = .ok (.bipush 100, 2) := by decide +kernel
theorem dX9_init_593 : decode cX9_init 593 = .ok (.castore, 1) := by decide +kernel
theorem dX9_init_594 : decode cX9_init 594 = .ok (.putfield 72, 3) := by decide +kernel
theorem dX9_init_597 : decode cX9_init 597 = .ok (.aload_n 0, 1) := by decide +kernel
theorem dX9_init_598 : decode cX9_init 598 = .ok (.iconst 3, 1) := by decide +kernel
theorem dX9_init_599 : decode cX9_init 599 = .ok (.newarray .char, 2) := by decide +kernel
theorem dX9_init_601 : decode cX9_init 601 = .ok (.dup, 1) := by decide +kernel
theorem dX9_init_602 : decode cX9_init 602 = .ok (.iconst 0, 1) := by decide +kernel
theorem dX9_init_603 : decode cX9_init 603 = .ok (.bipush 110, 2) := by decide +kernel
theorem dX9_init_605 : decode cX9_init 605 = .ok (.castore, 1) := by decide +kernel
theorem dX9_init_606 : decode cX9_init 606 = .ok (.dup, 1) := by decide +kernel
theorem dX9_init_607 : decode cX9_init 607 = .ok (.iconst 1, 1) := by decide +kernel
theorem dX9_init_608 : decode cX9_init 608 = .ok (.bipush 111, 2) := by decide +kernel
theorem dX9_init_610 : decode cX9_init 610 = .ok (.castore, 1) := by decide +kernel
theorem dX9_init_611 : decode cX9_init 611 = .ok (.dup, 1) := by decide +kernel
theorem dX9_init_612 : decode cX9_init 612 = .ok (.iconst 2, 1) := by decide +kernel
theorem dX9_init_613 : decode cX9_init 613 = .ok (.bipush 116, 2) := by decide +kernel
theorem dX9_init_615 : decode cX9_init 615 = .ok (.castore, 1) := by decide +kernel
theorem dX9_init_616 : decode cX9_init 616 = .ok (.putfield 75, 3) := by decide +kernel
theorem dX9_init_619 : decode cX9_init 619 = .ok (.aload_n 0, 1) := by decide +kernel
theorem dX9_init_620 : decode cX9_init 620 = .ok (.iconst 4, 1) := by decide +kernel
theorem dX9_init_621 : decode cX9_init 621 = .ok (.newarray .char, 2) := by decide +kernel
theorem dX9_init_623 : decode cX9_init 623 = .ok (.dup, 1) := by decide +kernel
theorem dX9_init_624 : decode cX9_init 624 = .ok (.iconst 0, 1) := by decide +kernel
theorem dX9_init_625 : decode cX9_init 625 = .ok (.bipush 111, 2) := by decide +kernel
theorem dX9_init_627 : decode cX9_init 627 = .ok (.castore, 1) := by decide +kernel
theorem dX9_init_628 : decode cX9_init 628 = .ok (.dup, 1) := by decide +kernel
theorem dX9_init_629 : decode cX9_init 629 = .ok (.iconst 1, 1) := by decide +kernel
theorem dX9_init_630 : decode cX9_init 630 = .ok (.bipush 112, 2) := by decide +kernel
theorem dX9_init_632 : decode cX9_init 632 = .ok (.castore, 1) := by decide +kernel
theorem dX9_init_633 : decode cX9_init 633 = .ok (.dup, 1) := by decide +kernel
theorem dX9_init_634 : decode cX9_init 634 = .ok (.iconst 2, 1) := by decide +kernel
theorem dX9_init_635 : decode cX9_init 635 = .ok (.bipush 101, 2) := by decide +kernel
theorem dX9_init_637 : decode cX9_init 637 = .ok (.castore, 1) := by decide +kernel
theorem dX9_init_638 : decode cX9_init 638 = .ok (.dup, 1) := by decide +kernel
theorem dX9_init_639 : decode cX9_init 639 = .ok (.iconst 3, 1) := by decide +kernel
theorem dX9_init_640 : decode cX9_init 640 = .ok (.bipush 110, 2) := by decide +kernel
theorem dX9_init_642 : decode cX9_init 642 = .ok (.castore, 1) := by decide +kernel
theorem dX9_init_643 : decode cX9_init 643 = .ok (.putfield 78, 3) := by decide +kernel
theorem dX9_init_646 : decode cX9_init 646 = .ok (.aload_n 0, 1) := by decide +kernel
theorem dX9_init_647 : decode cX9_init 647 = .ok (.iconst 5, 1) := by decide +kernel
theorem dX9_init_648 : decode cX9_init 648 = .ok (.newarray .char, 2) := by decide +kernel
theorem dX9_init_650 : decode cX9_init 650 = .ok (.dup, 1) := by decide +kernel
theorem dX9_init_651 : decode cX9_init 651 = .ok (.iconst 0, 1) := by decide +kernel
theorem dX9_init_652 : decode cX9_init 652 = .ok (.bipush 114, 2) := by decide +kernel
theorem dX9_init_654 : decode cX9_init 654 = .ok (.castore, 1) := by decide +kernel
theorem dX9_init_655 : decode cX9_init 655 = .ok (.dup, 1) := by decide +kernel
theorem dX9_init_656 : decode cX9_init 656 = .ok (.iconst 1, 1) := by decide +kernel
theorem dX9_init_657 : decode cX9_init 657 = .ok (.bipush 105, 2) := by decide +kernel
theorem dX9_init_659 : decode cX9_init 659 = .ok (.castore, 1) := by decide +kernel
theorem dX9_init_660 : decode cX9_init 660 = .ok (.dup, 1) := by decide +kernel
theorem dX9_init_661 : decode cX9_init 661 = .ok (.iconst 2, 1) := by decide +kernel
theorem dX9_init_662 : decode cX9_init 662 = .ok (.bipush 103, 2) := by decide +kernel
theorem dX9_init_664 : decode cX9_init 664 = .ok (.castore, 1) := by decide +kernel
theorem dX9_init_665 : decode cX9_init 665 = .ok (.dup, 1) := by decide +kernel
theorem dX9_init_666 : decode cX9_init 666 = .ok (.iconst 3, 1) := by decide +kernel
theorem dX9_init_667 : decode cX9_init 667 = .ok (.bipush 104, 2) := by decide +kernel
theorem dX9_init_669 : decode cX9_init 669 = .ok (.castore, 1) := by decide +kernel
theorem dX9_init_670 : decode cX9_init 670 = .ok (.dup, 1) := by decide +kernel
theorem dX9_init_671 : decode cX9_init 671 = .ok (.iconst 4, 1) := by decide +kernel
theorem dX9_init_672 : decode cX9_init 672 = .ok (.bipush 116, 2) := by decide +kernel
theorem dX9_init_674 : decode cX9_init 674 = .ok (.castore, 1) := by decide +kernel
theorem dX9_init_675 : decode cX9_init 675 = .ok (.putfield 81, 3) := by decide +kernel
theorem dX9_init_678 : decode cX9_init 678 = .ok (.aload_n 0, 1) := by decide +kernel
theorem dX9_init_679 : decode cX9_init 679 = .ok (.iconst 5, 1) := by decide +kernel
theorem dX9_init_680 : decode cX9_init 680 = .ok (.newarray .char, 2) := by decide +kernel
theorem dX9_init_682 : decode cX9_init 682 = .ok (.dup, 1) := by decide +kernel
theorem dX9_init_683 : decode cX9_init 683 = .ok (.iconst 0, 1) := by decide +kernel
theorem dX9_init_684 : decode cX9_init 684 = .ok (.bipush 119, 2) := by decide +kernel
theorem dX9_init_686 : decode cX9_init 686 = .ok (.castore, 1) := by decide +kernel
theorem dX9_init_687 : decode cX9_init 687 = .ok (.dup, 1) := by decide +kernel
theorem dX9_init_688 : decode cX9_init 688 = .ok (.iconst 1, 1) := by decide +kernel
theorem dX9_init_689 : decode cX9_init 689 = .ok (.bipush 114, 2) := by decide +kernel
theorem dX9_init_691 : decode cX9_init 691 = .ok (.castore, 1) := by decide +kernel
theorem dX9_init_692 : decode cX9_init 692 = .ok (.dup, 1) := by decide +kernel
theorem dX9_init_693 : decode cX9_init 693 = .ok (.iconst 2, 1) := by decide +kernel
theorem dX9_init_694 : decode cX9_init 694 = .ok (.bipush 111, 2) := by decide +kernel
theorem dX9_init_696 : decode cX9_init 696 = .ok (.castore, 1) := by decide +kernel
theorem dX9_init_697 : decode cX9_init 697 = .ok (.dup, 1) := by decide +kernel
theorem dX9_init_698 : decode cX9_init 698 = .ok (.iconst 3, 1) := by decide +kernel
theorem dX9_init_699 : decode cX9_init 699 = .ok (.bipush 110, 2) := by decide +kernel
theorem dX9_init_701 : decode cX9_init 701 = .ok (.castore, 1) := by decide +kernel
theorem dX9_init_702 : decode cX9_init 702 = .ok (.dup, 1) := by decide +kernel
theorem dX9_init_703 : decode cX9_init 703 = .ok (.iconst 4, 1) := by decide +kernel
theorem dX9_init_704 : decode cX9_init 704 = .ok (.bipush 103, 2) := by decide +kernel
theorem dX9_init_706 : decode cX9_init 706 = .ok (.castore, 1) := by decide +kernel
theorem dX9_init_707 : decode cX9_init 707 = .ok (.putfield 84, 3) := by decide +kernel
theorem dX9_init_710 : decode cX9_init 710 = .ok (.aload_n 0, 1) := by decide +kernel
theorem dX9_init_711 : decode cX9_init 711 = .ok (.iconst 4, 1) := by decide +kernel
theorem dX9_init_712 : decode cX9_init 712 = .ok (.newarray .char, 2) := by decide +kernel
theorem dX9_init_714 : decode cX9_init 714 = .ok (.dup, 1) := by decide +kernel
theorem dX9_init_715 : decode cX9_init 715 = .ok (.iconst 0, 1) := by decide +kernel
theorem dX9_init_716 : decode cX9_init 716 = .ok (.bipush 116, 2) := by decide +kernel
theorem dX9_init_718 : decode cX9_init 718 = .ok (.castore, 1) := by decide +kernel
theorem dX9_init_719 : decode cX9_init 719 = .ok (.dup, 1) := by decide +kernel
theorem dX9_init_720 : decode cX9_init 720 = .ok (.iconst 1, 1) := by decide +kernel
theorem dX9_init_721 : decode cX9_init 721 = .ok (.bipush 105, 2) := by decide +kernel
theorem dX9_init_723 : decode cX9_init 723 = .ok (.castore, 1) := by decide +kernel
theorem dX9_init_724 : decode cX9_init 724 = .ok (.dup, 1) := by decide +kernel
theorem dX9_init_725 : decode cX9_init 725 = .ok (.iconst 2, 1) := by decide +kernel
theorem dX9_init_726 : decode cX9_init 726 = .ok (.bipush 101, 2) := by decide +kernel
theorem dX9_init_728 : decode cX9_init 728 = .ok (.castore, 1) := by decide +kernel
theorem dX9_init_729 : decode cX9_init 729 = .ok (.dup, 1) := by decide +kernel
theorem dX9_init_730 : decode cX9_init 730 = .ok (.iconst 3, 1) := by decide +kernel
theorem dX9_init_731 : decode cX9_init 731 = .ok (.bipush 100, 2) := by decide +kernel
theorem dX9_init_733 : decode cX9_init 733 = .ok (.castore, 1) := by decide +kernel
theorem dX9_init_734 : decode cX9_init 734 = .ok (.putfield 87, 3) := by decide +kernel
theorem dX9_init_737 : decode cX9_init 737 = .ok (.aload_n 0, 1) := by decide +kernel
theorem dX9_init_738 : decode cX9_init 738 = .ok (.bipush 6, 2) := by decide +kernel
theorem dX9_init_740 : decode cX9_init 740 = .ok (.newarray .char, 2) := by decide +kernel
theorem dX9_init_742 : decode cX9_init 742 = .ok (.dup, 1) := by decide +kernel
theorem dX9_init_743 : decode cX9_init 743 = .ok (.iconst 0, 1) := by decide +kernel
theorem dX9_init_744 : decode cX9_init 744 = .ok (.bipush 99, 2) := by decide +kernel
theorem dX9_init_746 : decode cX9_init 746 = .ok (.castore, 1) := by decide +kernel
theorem dX9_init_747 : decode cX9_init 747 = .ok (.dup, 1) := by decide +kernel
theorem dX9_init_748 : decode cX9_init 748 = .ok (.iconst 1, 1) := by decide +kernel
theorem dX9_init_749 : decode cX9_init 749 = .ok (.bipush 104, 2) := by decide +kernel
theorem dX9_init_751 : decode cX9_init 751 = .ok (.castore, 1) := by decide +kernel
theorem dX9_init_752 : decode cX9_init 752 = .ok (.dup, 1) := by decide +kernel
theorem dX9_init_753 : decode cX9_init 753 = .ok (.iconst 2, 1) := by decide +kernel
theorem dX9_init_754 : decode cX9_init 754 = .ok (.bipush 97, 2) := by decide +kernel
theorem dX9_init_756 : decode cX9_init 756 = .ok (.castore, 1) := by decide +kernel
theorem dX9_init_757 : decode cX9_init 757 = .ok (.dup, 1) := by decide +kernel
theorem dX9_init_758 : decode cX9_init 758 = .ok (.iconst 3, 1) := by decide +kernel
theorem dX9_init_759 : decode cX9_init 759 = .ok (.bipush 110, 2) := by decide +kernel
theorem dX9_init_761 : decode cX9_init 761 = .ok (.castore, 1) := by decide +kernel
theorem dX9_init_762 : decode cX9_init 762 = .ok (.dup, 1) := by decide +kernel
theorem dX9_init_763 : decode cX9_init 763 = .ok (.iconst 4, 1) := by decide +kernel
theorem dX9_init_764 : decode cX9_init 764 = .ok (.bipush 99, 2) := by decide +kernel
theorem dX9_init_766 : decode cX9_init 766 = .ok (.castore, 1) := by decide +kernel
theorem dX9_init_767 : decode cX9_init 767 = .ok (.dup, 1) := by decide +kernel
theorem dX9_init_768 : decode cX9_init 768 = .ok (.iconst 5, 1) := by decide +kernel
theorem dX9_init_769 : decode cX9_init 769 = .ok (.bipush 101, 2) := by decide +kernel
theorem dX9_init_771 : decode cX9_init 771 = .ok (.castore, 1) := by decide +kernel
theorem dX9_init_772 : decode cX9_init 772 = .ok (.putfield 90, 3) := by decide +kernel
theorem dX9_init_775 : decode cX9_init 775 = .ok (.aload_n 0, 1) := by decide +kernel
theorem dX9_init_776 : decode cX9_init 776 = .ok (.iconst 5, 1) := by decide +kernel
theorem dX9_init_777 : decode cX9_init 777 = .ok (.newarray .char, 2) := by decide +kernel
theorem dX9_init_779 : decode cX9_init 779 = .ok (.dup, 1) := by decide +kernel
theorem dX9_init_780 : decode cX9_init 780 = .ok (.iconst 0, 1) := by decide +kernel
theorem dX9_init_781 : decode cX9_init 781 = .ok (.bipush 108, 2) := by decide +kernel
theorem dX9_init_783 : decode cX9_init 783 = .ok (.castore, 1) := by decide +kernel
theorem dX9_init_784 : decode cX9_init 784 = .ok (.dup, 1) := by decide +kernel
theorem dX9_init_785 : decode cX9_init 785 = .ok (.iconst 1, 1) := by decide +kernel
theorem dX9_init_786 : decode cX9_init 786 = .ok (.bipush 101, 2) := by decide +kernel
theorem dX9_init_788 : decode cX9_init 788 = .ok (.castore, 1) := by decide +kernel
theorem dX9_init_789 : decode cX9_init 789 = .ok (.dup, 1) := by decide +kernel
theorem dX9_init_790 : decode cX9_init 790 = .ok (.iconst 2, 1) := by decide +kernel
theorem dX9_init_791 : decode cX9_init 791 = .ok (.bipush 97, 2) := by decide +kernel
theorem dX9_init_793 : decode cX9_init 793 = .ok (.castore, 1) := by decide +kernel
theorem dX9_init_794 : decode cX9_init 794 = .ok (.dup, 1) := by decide +kernel
theorem dX9_init_795 : decode cX9_init 795 = .ok (.iconst 3, 1) := by decide +kernel
theorem dX9_init_796 : decode cX9_init 796 = .ok (.bipush 115, 2) := by decide +kernel
theorem dX9_init_798 : decode cX9_init 798 = .ok (.castore, 1) := by decide +kernel
theorem dX9_init_799 : decode cX9_init 799 = .ok (.dup, 1) := by decide +kernel
theorem dX9_init_800 : decode cX9_init 800 = .ok (.iconst 4, 1) := by decide +kernel
theorem dX9_init_801 : decode cX9_init 801 = .ok (.bipush 116, 2) := by decide +kernel
theorem dX9_init_803 : decode cX9_init 803 = .ok (.castore, 1) := by decide +kernel
theorem dX9_init_804 : decode cX9_init 804 = .ok (.putfield 93, 3) := by decide +kernel
theorem dX9_init_807 : decode cX9_init 807 = .ok (.aload_n 0, 1) := by decide +kernel
theorem dX9_init_808 : decode cX9_init 808 = .ok (.iconst 4, 1) := by decide +kernel
theorem dX9_init_809 : decode cX9_init 809 = .ok (.newarray .char, 2) := by decide +kernel
theorem dX9_init_811 : decode cX9_init 811 = .ok (.dup, 1) := by decide +kernel
theorem dX9_init_812 : decode cX9_init 812 = .ok (.iconst 0, 1) := by decide +kernel
theorem dX9_init_813 : decode cX9_init 813 = .ok (.bipush 109, 2) := by decide +kernel
theorem dX9_init_815 : decode cX9_init 815 = .ok (.castore, 1) := by decide +kernel
theorem dX9_init_816 : decode cX9_init 816 = .ok (.dup, 1) := by decide +kernel
