theorem fl_8_25 : FL RX8 25 8 1 true := ⟨_, rfl, by decide, mem_g (by decide +kernel), rfl⟩
theorem fl_8_29 : FL RX8 29 8 2 true := ⟨_, rfl, by decide, mem_g (by decide +kernel), rfl⟩
theorem fl_8_33 : FL RX8 33 8 3 true := ⟨_, rfl, by decide, mem_g (by decide +kernel), rfl⟩
theorem fl_8_37 : FL RX8 37 8 4 true := ⟨_, rfl, by decide, mem_g (by decide +kernel), rfl⟩
theorem fl_8_46 : FL RX8 46 8 5 true := ⟨_, rfl, by decide, mem_g (by decide +kernel), rfl⟩
theorem fl_8_58 : FL RX8 58 8 0 true := ⟨_, rfl, by decide, mem_g (by decide +kernel), rfl⟩
theorem fl_8_65 : FL RX8 65 8 6 true := ⟨_, rfl, by decide, mem_g (by decide +kernel), rfl⟩
theorem fl_8_69 : FL RX8 69 8 7 false := ⟨_, rfl, by decide, mem_g (by decide +kernel), rfl⟩
theorem fl_8_73 : FL RX8 73 8 8 false := ⟨_, rfl, by decide, mem_g (by decide +kernel), rfl⟩
theorem fl_8_77 : FL RX8 77 8 9 false := ⟨_, rfl, by decide, mem_g (by decide +kernel), rfl⟩
theorem fl_8_80 : FL RX8 80 8 10 false := ⟨_, rfl, by decide, mem_g (by decide +kernel), rfl⟩
theorem fl_8_84 : FL RX8 84 4 2 false := ⟨_, rfl, by decide, mem_g (by decide +kernel), rfl⟩
theorem fl_8_105 : FL RX8 105 4 3 false := ⟨_, rfl, by decide, mem_g (by decide +kernel), rfl⟩
theorem fl_8_108 : FL RX8 108 4 4 false := ⟨_, rfl, by decide, mem_g (by decide +kernel), rfl⟩
theorem fl_8_122 : FL RX8 122 3 13 true := ⟨_, rfl, by decide, mem_g (by decide +kernel), rfl⟩
theorem fl_8_130 : FL RX8 130 3 8 true := ⟨_, rfl, by decide, mem_g (by decide +kernel), rfl⟩
theorem fl_8_154 : FL RX8 154 2 0 false := ⟨_, rfl, by decide, mem_g (by decide +kernel), rfl⟩
theorem fl_8_164 : FL RX8 164 7 9 false := ⟨_, rfl, by decide, mem_g (by decide +kernel), rfl⟩
theorem fl_8_176 : FL RX8 176 7 10 false := ⟨_, rfl, by decide, mem_g (by decide +kernel), rfl⟩
theorem fl_8_210 : FL RX8 210 5 5 true := ⟨_, rfl, by decide, mem_g (by decide +kernel), rfl⟩
theorem fl_8_217 : FL RX8 217 3 2 false := ⟨_, rfl, by decide, mem_g (by decide +kernel), rfl⟩
theorem fl_8_227 : FL RX8 227 6 1 false := ⟨_, rfl, by decide, mem_g (by decide +kernel), rfl⟩
theorem fl_8_230 : FL RX8 230 6 0 false := ⟨_, rfl, by decide, mem_g (by decide +kernel), rfl⟩
theorem fl_8_233 : FL RX8 233 6 2 true := ⟨_, rfl, by decide, mem_g (by decide +kernel), rfl⟩
theorem fl_8_239 : FL RX8 239 3 0 false := ⟨_, rfl, by decide, mem_g (by decide +kernel), rfl⟩
theorem fl_8_242 : FL RX8 242 3 1 false := ⟨_, rfl, by decide, mem_g (by decide +kernel), rfl⟩
theorem fl_0_11 : FL RX0 11 0 0 true := ⟨_, rfl, by decide, mem_g (by decide +kernel), rfl⟩
theorem fl_1_11 : FL RX1 11 1 2 true := ⟨_, rfl, by decide, mem_g (by decide +kernel), rfl⟩
theorem fl_1_15 : FL RX1 15 1 0 true := ⟨_, rfl, by decide, mem_g (by decide +kernel), rfl⟩
theorem fl_1_19 : FL RX1 19 1 1 true := ⟨_, rfl, by decide, mem_g (by decide +kernel), rfl⟩
theorem fl_1_29 : FL RX1 29 1 3 false := ⟨_, rfl, by decide, mem_g (by decide +kernel), rfl⟩
theorem fl_1_33 : FL RX1 33 3 15 true := ⟨_, rfl, by decide, mem_g (by decide +kernel), rfl⟩
theorem fl_1_38 : FL RX1 38 3 14 true := ⟨_, rfl, by decide, mem_g (by decide +kernel), rfl⟩
theorem fl_1_65 : FL RX1 65 5 5 true := ⟨_, rfl, by decide, mem_g (by decide +kernel), rfl⟩
theorem fl_2_9 : FL RX2 9 2 1 true := ⟨_, rfl, by decide, mem_g (by decide +kernel), rfl⟩
theorem fl_2_15 : FL RX2 15 2 2 true := ⟨_, rfl, by decide, mem_g (by decide +kernel), rfl⟩
theorem fl_2_18 : FL RX2 18 2 3 true := ⟨_, rfl, by decide, mem_g (by decide +kernel), rfl⟩
theorem fl_2_21 : FL RX2 21 2 4 true := ⟨_, rfl, by decide, mem_g (by decide +kernel), rfl⟩
theorem fl_2_24 : FL RX2 24 2 5 true := ⟨_, rfl, by decide, mem_g (by decide +kernel), rfl⟩
theorem fl_2_27 : FL RX2 27 2 6 true := ⟨_, rfl, by decide, mem_g (by decide +kernel), rfl⟩
theorem fl_2_30 : FL RX2 30 2 0 false := ⟨_, rfl, by decide, mem_g (by decide +kernel), rfl⟩
theorem fl_3_9 : FL RX3 9 3 3 false := ⟨_, rfl, by decide, mem_g (by decide +kernel), rfl⟩
theorem fl_3_15 : FL RX3 15 3 5 false := ⟨_, rfl, by decide, mem_g (by decide +kernel), rfl⟩
theorem fl_3_18 : FL RX3 18 3 7 true := ⟨_, rfl, by decide, mem_g (by decide +kernel), rfl⟩
theorem fl_3_22 : FL RX3 22 3 8 true := ⟨_, rfl, by decide, mem_g (by decide +kernel), rfl⟩
theorem fl_3_26 : FL RX3 26 3 9 true := ⟨_, rfl, by decide, mem_g (by decide +kernel), rfl⟩
theorem fl_3_30 : FL RX3 30 3 10 true := ⟨_, rfl, by decide, mem_g (by decide +kernel), rfl⟩
theorem fl_3_33 : FL RX3 33 3 11 true := ⟨_, rfl, by decide, mem_g (by decide +kernel), rfl⟩
theorem fl_3_36 : FL RX3 36 3 12 true := ⟨_, rfl, by decide, mem_g (by decide +kernel), rfl⟩
theorem fl_3_39 : FL RX3 39 3 13 true := ⟨_, rfl, by decide, mem_g (by decide +kernel), rfl⟩
theorem fl_3_42 : FL RX3 42 3 14 true := ⟨_, rfl, by decide, mem_g (by decide +kernel), rfl⟩
theorem fl_3_45 : FL RX3 45 3 15 true := ⟨_, rfl, by decide, mem_g (by decide +kernel), rfl⟩
theorem fl_3_48 : FL RX3 48 3 0 false := ⟨_, rfl, by decide, mem_g (by decide +kernel), rfl⟩
theorem fl_3_51 : FL RX3 51 3 1 false := ⟨_, rfl, by decide, mem_g (by decide +kernel), rfl⟩
theorem fl_3_54 : FL RX3 54 3 2 false := ⟨_, rfl, by decide, mem_g (by decide +kernel), rfl⟩
theorem fl_3_57 : FL RX3 57 3 4 false := ⟨_, rfl, by decide, mem_g (by decide +kernel), rfl⟩
theorem fl_3_61 : FL RX3 61 3 6 false := ⟨_, rfl, by decide, mem_g (by decide +kernel), rfl⟩
theorem fl_4_9 : FL RX4 9 4 0 true := ⟨_, rfl, by decide, mem_g (by decide +kernel), rfl⟩
theorem fl_4_15 : FL RX4 15 4 1 false := ⟨_, rfl, by decide, mem_g (by decide +kernel), rfl⟩
theorem fl_4_19 : FL RX4 19 4 2 false := ⟨_, rfl, by decide, mem_g (by decide +kernel), rfl⟩
theorem fl_4_23 : FL RX4 23 4 3 false := ⟨_, rfl, by decide, mem_g (by decide +kernel), rfl⟩
theorem fl_4_26 : FL RX4 26 4 4 false := ⟨_, rfl, by decide, mem_g (by decide +kernel), rfl⟩
theorem fl_4_34 : FL RX4 34 4 9 false := ⟨_, rfl, by decide, mem_g (by decide +kernel), rfl⟩
theorem fl_4_37 : FL RX4 37 4 7 false := ⟨_, rfl, by decide, mem_g (by decide +kernel), rfl⟩
theorem fl_4_43 : FL RX4 43 4 5 false := ⟨_, rfl, by decide, mem_g (by decide +kernel), rfl⟩
theorem fl_4_46 : FL RX4 46 4 8 false := ⟨_, rfl, by decide, mem_g (by decide +kernel), rfl⟩
theorem fl_4_71 : FL RX4 71 4 6 false := ⟨_, rfl, by decide, mem_g (by decide +kernel), rfl⟩
theorem fl_4_82 : FL RX4 82 3 0 false := ⟨_, rfl, by decide, mem_g (by decide +kernel), rfl⟩
theorem fl_4_96 : FL RX4 96 3 1 false := ⟨_, rfl, by decide, mem_g (by decide +kernel), rfl⟩
theorem fl_4_109 : FL RX4 109 3 9 true := ⟨_, rfl, by decide, mem_g (by decide +kernel), rfl⟩
theorem fl_4_125 : FL RX4 125 3 3 false := ⟨_, rfl, by decide, mem_g (by decide +kernel), rfl⟩
theorem fl_4_128 : FL RX4 128 3 4 false := ⟨_, rfl, by decide, mem_g (by decide +kernel), rfl⟩
theorem fl_4_132 : FL RX4 132 3 5 false := ⟨_, rfl, by decide, mem_g (by decide +kernel), rfl⟩
theorem fl_4_135 : FL RX4 135 3 2 false := ⟨_, rfl, by decide, mem_g (by decide +kernel), rfl⟩
theorem fl_5_9 : FL RX5 9 5 1 true := ⟨_, rfl, by decide, mem_g (by decide +kernel), rfl⟩
theorem fl_5_15 : FL RX5 15 5 2 true := ⟨_, rfl, by decide, mem_g (by decide +kernel), rfl⟩
theorem fl_5_18 : FL RX5 18 5 3 true := ⟨_, rfl, by decide, mem_g (by decide +kernel), rfl⟩
theorem fl_5_21 : FL RX5 21 5 5 true := ⟨_, rfl, by decide, mem_g (by decide +kernel), rfl⟩
theorem fl_5_24 : FL RX5 24 5 0 true := ⟨_, rfl, by decide, mem_g (by decide +kernel), rfl⟩
theorem fl_5_28 : FL RX5 28 3 4 false := ⟨_, rfl, by decide, mem_g (by decide +kernel), rfl⟩
theorem fl_5_34 : FL RX5 34 5 4 false := ⟨_, rfl, by decide, mem_g (by decide +kernel), rfl⟩
theorem fl_5_47 : FL RX5 47 2 2 true := ⟨_, rfl, by decide, mem_g (by decide +kernel), rfl⟩
theorem fl_5_50 : FL RX5 50 2 3 true := ⟨_, rfl, by decide, mem_g (by decide +kernel), rfl⟩
theorem fl_5_53 : FL RX5 53 2 4 true := ⟨_, rfl, by decide, mem_g (by decide +kernel), rfl⟩
theorem fl_5_60 : FL RX5 60 2 5 true := ⟨_, rfl, by decide, mem_g (by decide +kernel), rfl⟩
theorem fl_5_67 : FL RX5 67 3 5 false := ⟨_, rfl, by decide, mem_g (by decide +kernel), rfl⟩
theorem fl_6_11 : FL RX6 11 6 2 true := ⟨_, rfl, by decide, mem_g (by decide +kernel), rfl⟩
theorem fl_6_15 : FL RX6 15 6 3 true := ⟨_, rfl, by decide, mem_g (by decide +kernel), rfl⟩
theorem fl_6_18 : FL RX6 18 6 4 true := ⟨_, rfl, by decide, mem_g (by decide +kernel), rfl⟩
theorem fl_6_21 : FL RX6 21 6 5 true := ⟨_, rfl, by decide, mem_g (by decide +kernel), rfl⟩
theorem fl_6_24 : FL RX6 24 6 6 true := ⟨_, rfl, by decide, mem_g (by decide +kernel), rfl⟩
theorem fl_6_27 : FL RX6 27 6 0 false := ⟨_, rfl, by decide, mem_g (by decide +kernel), rfl⟩
theorem fl_6_31 : FL RX6 31 6 1 false := ⟨_, rfl, by decide, mem_g (by decide +kernel), rfl⟩
theorem fl_7_9 : FL RX7 9 7 2 true := ⟨_, rfl, by decide, mem_g (by decide +kernel), rfl⟩
theorem fl_7_15 : FL RX7 15 7 3 true := ⟨_, rfl, by decide, mem_g (by decide +kernel), rfl⟩
theorem fl_7_19 : FL RX7 19 7 0 true := ⟨_, rfl, by decide, mem_g (by decide +kernel), rfl⟩
theorem fl_7_23 : FL RX7 23 7 1 true := ⟨_, rfl, by decide, mem_g (by decide +kernel), rfl⟩
theorem fl_7_31 : FL RX7 31 3 8 true := ⟨_, rfl, by decide, mem_g (by decide +kernel), rfl⟩
theorem fl_7_52 : FL RX7 52 2 2 true := ⟨_, rfl, by decide, mem_g (by decide +kernel), rfl⟩
theorem fl_7_55 : FL RX7 55 2 3 true := ⟨_, rfl, by decide, mem_g (by decide +kernel), rfl⟩
theorem fl_7_58 : FL RX7 58 2 4 true := ⟨_, rfl, by decide, mem_g (by decide +kernel), rfl⟩
theorem fl_7_68 : FL RX7 68 7 8 false := ⟨_, rfl, by decide, mem_g (by decide +kernel), rfl⟩
theorem fl_7_76 : FL RX7 76 7 9 false := ⟨_, rfl, by decide, mem_g (by decide +kernel), rfl⟩
theorem fl_7_79 : FL RX7 79 3 3 false := ⟨_, rfl, by decide, mem_g (by decide +kernel), rfl⟩
theorem fl_7_90 : FL RX7 90 7 4 false := ⟨_, rfl, by decide, mem_g (by decide +kernel), rfl⟩
theorem fl_7_93 : FL RX7 93 7 5 false := ⟨_, rfl, by decide, mem_g (by decide +kernel), rfl⟩
theorem fl_7_96 : FL RX7 96 7 6 false := ⟨_, rfl, by decide, mem_g (by decide +kernel), rfl⟩
theorem fl_7_99 : FL RX7 99 7 7 false := ⟨_, rfl, by decide, mem_g (by decide +kernel), rfl⟩
theorem fl_7_102 : FL RX7 102 7 10 false := ⟨_, rfl, by decide, mem_g (by decide +kernel), rfl⟩
theorem fl_7_109 : FL RX7 109 3 9 true := ⟨_, rfl, by decide, mem_g (by decide +kernel), rfl⟩
theorem fl_7_112 : FL RX7 112 3 10 true := ⟨_, rfl, by decide, mem_g (by decide +kernel), rfl⟩
theorem fl_7_115 : FL RX7 115 3 11 true := ⟨_, rfl, by decide, mem_g (by decide +kernel), rfl⟩
theorem fl_7_118 : FL RX7 118 3 12 true := ⟨_, rfl, by decide, mem_g (by decide +kernel), rfl⟩
theorem fl_9_7 : FL RX9 7 9 0 true := ⟨_, rfl, by decide, mem_g (by decide +kernel), rfl⟩
theorem fl_9_13 : FL RX9 13 9 8 false := ⟨_, rfl, by decide, mem_g (by decide +kernel), rfl⟩
theorem fl_9_17 : FL RX9 17 9 9 true := ⟨_, rfl, by decide, mem_g (by decide +kernel), rfl⟩
theorem fl_9_21 : FL RX9 21 9 10 true := ⟨_, rfl, by decide, mem_g (by decide +kernel), rfl⟩
theorem fl_9_24 : FL RX9 24 9 11 true := ⟨_, rfl, by decide, mem_g (by decide +kernel), rfl⟩
theorem fl_9_27 : FL RX9 27 9 12 true := ⟨_, rfl, by decide, mem_g (by decide +kernel), rfl⟩
theorem fl_9_30 : FL RX9 30 9 13 true := ⟨_, rfl, by decide, mem_g (by decide +kernel), rfl⟩
theorem fl_9_33 : FL RX9 33 9 14 true := ⟨_, rfl, by decide, mem_g (by decide +kernel), rfl⟩
theorem fl_9_36 : FL RX9 36 9 15 true := ⟨_, rfl, by decide, mem_g (by decide +kernel), rfl⟩
theorem fl_9_39 : FL RX9 39 9 16 true := ⟨_, rfl, by decide, mem_g (by decide +kernel), rfl⟩
theorem fl_9_42 : FL RX9 42 9 17 true := ⟨_, rfl, by decide, mem_g (by decide +kernel), rfl⟩
theorem fl_9_45 : FL RX9 45 9 18 true := ⟨_, rfl, by decide, mem_g (by decide +kernel), rfl⟩
theorem fl_9_48 : FL RX9 48 9 19 true := ⟨_, rfl, by decide, mem_g (by decide +kernel), rfl⟩
theorem fl_9_51 : FL RX9 51 9 20 true := ⟨_, rfl, by decide, mem_g (by decide +kernel), rfl⟩
theorem fl_9_54 : FL RX9 54 9 21 true := ⟨_, rfl, by decide, mem_g (by decide +kernel), rfl⟩
theorem fl_9_57 : FL RX9 57 9 22 true := ⟨_, rfl, by decide, mem_g (by decide +kernel), rfl⟩
theorem fl_9_60 : FL RX9 60 9 23 true := ⟨_, rfl, by decide, mem_g (by decide +kernel), rfl⟩
theorem fl_9_63 : FL RX9 63 9 24 true := ⟨_, rfl, by decide, mem_g (by decide +kernel), rfl⟩
theorem fl_9_66 : FL RX9 66 9 25 true := ⟨_, rfl, by decide, mem_g (by decide +kernel), rfl⟩
theorem fl_9_69 : FL RX9 69 9 26 true := ⟨_, rfl, by decide, mem_g (by decide +kernel), rfl⟩
theorem fl_9_72 : FL RX9 72 9 27 true := ⟨_, rfl, by decide, mem_g (by decide +kernel), rfl⟩
theorem fl_9_75 : FL RX9 75 9 28 true := ⟨_, rfl, by decide, mem_g (by decide +kernel), rfl⟩
theorem fl_9_78 : FL RX9 78 9 29 true := ⟨_, rfl, by decide, mem_g (by decide +kernel), rfl⟩
theorem fl_9_81 : FL RX9 81 9 30 true := ⟨_, rfl, by decide, mem_g (by decide +kernel), rfl⟩
theorem fl_9_84 : FL RX9 84 9 31 true := ⟨_, rfl, by decide, mem_g (by decide +kernel), rfl⟩
theorem fl_9_87 : FL RX9 87 9 32 true := ⟨_, rfl, by decide, mem_g (by decide +kernel), rfl⟩
theorem fl_9_90 : FL RX9 90 9 33 true := ⟨_, rfl, by decide, mem_g (by decide +kernel), rfl⟩
theorem fl_9_93 : FL RX9 93 9 34 true := ⟨_, rfl, by decide, mem_g (by decide +kernel), rfl⟩
theorem fl_9_96 : FL RX9 96 9 35 true := ⟨_, rfl, by decide, mem_g (by decide +kernel), rfl⟩
theorem fl_9_99 : FL RX9 99 9 36 true := ⟨_, rfl, by decide, mem_g (by decide +kernel), rfl⟩
theorem fl_9_102 : FL RX9 102 9 37 true := ⟨_, rfl, by decide, mem_g (by decide +kernel), rfl⟩
theorem fl_9_105 : FL RX9 105 9 38 true := ⟨_, rfl, by decide, mem_g (by decide +kernel), rfl⟩
theorem fl_9_108 : FL RX9 108 9 39 true := ⟨_, rfl, by decide, mem_g (by decide +kernel), rfl⟩
theorem fl_9_111 : FL RX9 111 9 40 true := ⟨_, rfl, by decide, mem_g (by decide +kernel), rfl⟩
theorem fl_9_114 : FL RX9 114 9 42 true := ⟨_, rfl, by decide, mem_g (by decide +kernel), rfl⟩
theorem fl_9_117 : FL RX9 117 9 44 true := ⟨_, rfl, by decide, mem_g (by decide +kernel), rfl⟩
theorem fl_9_120 : FL RX9 120 9 49 true := ⟨_, rfl, by decide, mem_g (by decide +kernel), rfl⟩
theorem fl_9_124 : FL RX9 124 9 51 true := ⟨_, rfl, by decide, mem_g (by decide +kernel), rfl⟩
theorem fl_9_128 : FL RX9 128 9 52 true := ⟨_, rfl, by decide, mem_g (by decide +kernel), rfl⟩
theorem fl_9_131 : FL RX9 131 9 53 true := ⟨_, rfl, by decide, mem_g (by decide +kernel), rfl⟩
theorem fl_9_134 : FL RX9 134 9 54 true := ⟨_, rfl, by decide, mem_g (by decide +kernel), rfl⟩
theorem fl_9_137 : FL RX9 137 9 55 true := ⟨_, rfl, by decide, mem_g (by decide +kernel), rfl⟩
theorem fl_9_140 : FL RX9 140 9 56 true := ⟨_, rfl, by decide, mem_g (by decide +kernel), rfl⟩
theorem fl_9_143 : FL RX9 143 9 57 true := ⟨_, rfl, by decide, mem_g (by decide +kernel), rfl⟩
theorem fl_9_146 : FL RX9 146 9 62 true := ⟨_, rfl, by decide, mem_g (by decide +kernel), rfl⟩
theorem fl_9_149 : FL RX9 149 9 63 true := ⟨_, rfl, by decide, mem_g (by decide +kernel), rfl⟩
theorem fl_9_152 : FL RX9 152 9 67 true := ⟨_, rfl, by decide, mem_g (by decide +kernel), rfl⟩
theorem fl_9_155 : FL RX9 155 9 68 true := ⟨_, rfl, by decide, mem_g (by decide +kernel), rfl⟩
theorem fl_9_158 : FL RX9 158 9 69 true := ⟨_, rfl, by decide, mem_g (by decide +kernel), rfl⟩
theorem fl_9_161 : FL RX9 161 9 70 true := ⟨_, rfl, by decide, mem_g (by decide +kernel), rfl⟩
theorem fl_9_164 : FL RX9 164 9 71 true := ⟨_, rfl, by decide, mem_g (by decide +kernel), rfl⟩
theorem fl_9_167 : FL RX9 167 9 72 true := ⟨_, rfl, by decide, mem_g (by decide +kernel), rfl⟩
theorem fl_9_170 : FL RX9 170 9 73 true := ⟨_, rfl, by decide, mem_g (by decide +kernel), rfl⟩
theorem fl_9_173 : FL RX9 173 9 74 false := ⟨_, rfl, by decide, mem_g (by decide +kernel), rfl⟩
theorem fl_9_176 : FL RX9 176 9 76 false := ⟨_, rfl, by decide, mem_g (by decide +kernel), rfl⟩
theorem fl_9_179 : FL RX9 179 9 78 true := ⟨_, rfl, by decide, mem_g (by decide +kernel), rfl⟩
theorem fl_9_182 : FL RX9 182 9 82 true := ⟨_, rfl, by decide, mem_g (by decide +kernel), rfl⟩
theorem fl_9_185 : FL RX9 185 9 83 true := ⟨_, rfl, by decide, mem_g (by decide +kernel), rfl⟩
theorem fl_9_188 : FL RX9 188 9 85 true := ⟨_, rfl, by decide, mem_g (by decide +kernel), rfl⟩
theorem fl_9_191 : FL RX9 191 9 86 true := ⟨_, rfl, by decide, mem_g (by decide +kernel), rfl⟩
theorem fl_9_194 : FL RX9 194 9 87 true := ⟨_, rfl, by decide, mem_g (by decide +kernel), rfl⟩
theorem fl_9_197 : FL RX9 197 9 88 true := ⟨_, rfl, by decide, mem_g (by decide +kernel), rfl⟩
theorem fl_9_200 : FL RX9 200 9 89 true := ⟨_, rfl, by decide, mem_g (by decide +kernel), rfl⟩
theorem fl_9_203 : FL RX9 203 9 90 true := ⟨_, rfl, by decide, mem_g (by decide +kernel), rfl⟩
theorem fl_9_206 : FL RX9 206 9 91 false := ⟨_, rfl, by decide, mem_g (by decide +kernel), rfl⟩
theorem fl_9_209 : FL RX9 209 9 93 true := ⟨_, rfl, by decide, mem_g (by decide +kernel), rfl⟩
theorem fl_9_212 : FL RX9 212 9 99 true := ⟨_, rfl, by decide, mem_g (by decide +kernel), rfl⟩
theorem fl_9_215 : FL RX9 215 9 100 true := ⟨_, rfl, by decide, mem_g (by decide +kernel), rfl⟩
theorem fl_9_218 : FL RX9 218 9 101 true := ⟨_, rfl, by decide, mem_g (by decide +kernel), rfl⟩
theorem fl_9_221 : FL RX9 221 9 102 true := ⟨_, rfl, by decide, mem_g (by decide +kernel), rfl⟩
theorem fl_9_224 : FL RX9 224 9 103 true := ⟨_, rfl, by decide, mem_g (by decide +kernel), rfl⟩
theorem fl_9_227 : FL RX9 227 9 105 true := ⟨_, rfl, by decide, mem_g (by decide +kernel), rfl⟩
theorem fl_9_230 : FL RX9 230 9 106 true := ⟨_, rfl, by decide, mem_g (by decide +kernel), rfl⟩
theorem fl_9_233 : FL RX9 233 9 110 true := ⟨_, rfl, by decide, mem_g (by decide +kernel), rfl⟩
theorem fl_9_236 : FL RX9 236 9 111 true := ⟨_, rfl, by decide, mem_g (by decide +kernel), rfl⟩
theorem fl_9_239 : FL RX9 239 9 112 true := ⟨_, rfl, by decide, mem_g (by decide +kernel), rfl⟩
theorem fl_9_242 : FL RX9 242 9 1 false := ⟨_, rfl, by decide, mem_g (by decide +kernel), rfl⟩
theorem fl_9_245 : FL RX9 245 9 5 false := ⟨_, rfl, by decide, mem_g (by decide +kernel), rfl⟩
theorem fl_9_248 : FL RX9 248 9 6 false := ⟨_, rfl, by decide, mem_g (by decide +kernel), rfl⟩
theorem fl_9_251 : FL RX9 251 9 2 false := ⟨_, rfl, by decide, mem_g (by decide +kernel), rfl⟩
theorem fl_9_254 : FL RX9 254 9 3 false := ⟨_, rfl, by decide, mem_g (by decide +kernel), rfl⟩
theorem fl_9_265 : FL RX9 265 9 4 false := ⟨_, rfl, by decide, mem_g (by decide +kernel), rfl⟩
theorem fl_9_293 : FL RX9 293 9 41 false := ⟨_, rfl, by decide, mem_g (by decide +kernel), rfl⟩
theorem fl_9_300 : FL RX9 300 9 48 false := ⟨_, rfl, by decide, mem_g (by decide +kernel), rfl⟩
theorem fl_9_311 : FL RX9 311 9 61 false := ⟨_, rfl, by decide, mem_g (by decide +kernel), rfl⟩
theorem fl_9_314 : FL RX9 314 9 43 false := ⟨_, rfl, by decide, mem_g (by decide +kernel), rfl⟩
theorem fl_9_317 : FL RX9 317 9 46 false := ⟨_, rfl, by decide, mem_g (by decide +kernel), rfl⟩
theorem fl_9_320 : FL RX9 320 9 45 false := ⟨_, rfl, by decide, mem_g (by decide +kernel), rfl⟩
theorem fl_9_327 : FL RX9 327 9 79 false := ⟨_, rfl, by decide, mem_g (by decide +kernel), rfl⟩
theorem fl_9_346 : FL RX9 346 9 50 false := ⟨_, rfl, by decide, mem_g (by decide +kernel), rfl⟩
theorem fl_9_386 : FL RX9 386 9 80 false := ⟨_, rfl, by decide, mem_g (by decide +kernel), rfl⟩
theorem fl_9_402 : FL RX9 402 9 58 false := ⟨_, rfl, by decide, mem_g (by decide +kernel), rfl⟩
theorem fl_9_405 : FL RX9 405 9 59 false := ⟨_, rfl, by decide, mem_g (by decide +kernel), rfl⟩
theorem fl_9_409 : FL RX9 409 9 60 false := ⟨_, rfl, by decide, mem_g (by decide +kernel), rfl⟩
theorem fl_9_415 : FL RX9 415 9 47 false := ⟨_, rfl, by decide, mem_g (by decide +kernel), rfl⟩
theorem fl_9_421 : FL RX9 421 9 7 false := ⟨_, rfl, by decide, mem_g (by decide +kernel), rfl⟩
theorem fl_9_424 : FL RX9 424 9 81 false := ⟨_, rfl, by decide, mem_g (by decide +kernel), rfl⟩
theorem fl_9_430 : FL RX9 430 9 64 false := ⟨_, rfl, by decide, mem_g (by decide +kernel), rfl⟩
theorem fl_9_433 : FL RX9 433 9 65 false := ⟨_, rfl, by decide, mem_g (by decide +kernel), rfl⟩
theorem fl_9_436 : FL RX9 436 9 66 false := ⟨_, rfl, by decide, mem_g (by decide +kernel), rfl⟩
theorem fl_9_439 : FL RX9 439 9 75 false := ⟨_, rfl, by decide, mem_g (by decide +kernel), rfl⟩
theorem fl_9_442 : FL RX9 442 9 77 false := ⟨_, rfl, by decide, mem_g (by decide +kernel), rfl⟩
theorem fl_9_445 : FL RX9 445 9 84 false := ⟨_, rfl, by decide, mem_g (by decide +kernel), rfl⟩
theorem fl_9_448 : FL RX9 448 9 92 false := ⟨_, rfl, by decide, mem_g (by decide +kernel), rfl⟩
theorem fl_9_502 : FL RX9 502 9 94 false := ⟨_, rfl, by decide, mem_g (by decide +kernel), rfl⟩
theorem fl_9_505 : FL RX9 505 9 95 false := ⟨_, rfl, by decide, mem_g (by decide +kernel), rfl⟩
theorem fl_9_508 : FL RX9 508 9 96 false := ⟨_, rfl, by decide, mem_g (by decide +kernel), rfl⟩
theorem fl_9_511 : FL RX9 511 9 97 false := ⟨_, rfl, by decide, mem_g (by decide +kernel), rfl⟩
theorem fl_9_514 : FL RX9 514 9 98 false := ⟨_, rfl, by decide, mem_g (by decide +kernel), rfl⟩
theorem fl_9_598 : FL RX9 598 9 104 false := ⟨_, rfl, by decide, mem_g (by decide +kernel), rfl⟩
theorem fl_9_617 : FL RX9 617 9 107 false := ⟨_, rfl, by decide, mem_g (by decide +kernel), rfl⟩
theorem fl_9_646 : FL RX9 646 9 108 false := ⟨_, rfl, by decide, mem_g (by decide +kernel), rfl⟩
theorem fl_9_649 : FL RX9 649 9 109 false := ⟨_, rfl, by decide, mem_g (by decide +kernel), rfl⟩
theorem ml_X8_17 : Cond.methodLink RX8 17 yX7_init ∈ lw_g := mem_g (by decide +kernel)
theorem ml_X8_22 : Cond.methodLink RX8 22 yX5_init ∈ lw_g := mem_g (by decide +kernel)
theorem ml_X8_43 : Cond.methodLink RX8 43 yX1_init ∈ lw_g := mem_g (by decide +kernel)
theorem ml_X8_55 : Cond.methodLink RX8 55 yX4_init ∈ lw_g := mem_g (by decide +kernel)
theorem ml_X8_87 : Cond.methodLink RX8 87 yX4_append ∈ lw_g := mem_g (by decide +kernel)
theorem ml_X8_91 : Cond.methodLink RX8 91 yX4_readPlan ∈ lw_g := mem_g (by decide +kernel)
theorem ml_X8_95 : Cond.methodLink RX8 95 yX4_trade ∈ lw_g := mem_g (by decide +kernel)
theorem ml_X8_99 : Cond.methodLink RX8 99 yX3_layCodes ∈ lw_g := mem_g (by decide +kernel)
theorem ml_X8_102 : Cond.methodLink RX8 102 yX2_clear ∈ lw_g := mem_g (by decide +kernel)
theorem ml_X8_111 : Cond.methodLink RX8 111 yX8_isTrial ∈ lw_g := mem_g (by decide +kernel)
theorem ml_X8_115 : Cond.methodLink RX8 115 yX8_isTaster ∈ lw_g := mem_g (by decide +kernel)
theorem ml_X8_118 : Cond.methodLink RX8 118 yX3_places ∈ lw_g := mem_g (by decide +kernel)
theorem ml_X8_126 : Cond.methodLink RX8 126 yX2_isFull ∈ lw_g := mem_g (by decide +kernel)
theorem ml_X8_134 : Cond.methodLink RX8 134 yX2_note ∈ lw_g := mem_g (by decide +kernel)
theorem ml_X8_138 : Cond.methodLink RX8 138 yX3_cupOf ∈ lw_g := mem_g (by decide +kernel)
theorem ml_X8_142 : Cond.methodLink RX8 142 yX8_isSession ∈ lw_g := mem_g (by decide +kernel)
theorem ml_X8_145 : Cond.methodLink RX8 145 yX8_isProduct ∈ lw_g := mem_g (by decide +kernel)
theorem ml_X8_148 : Cond.methodLink RX8 148 yX2_canBeVoid ∈ lw_g := mem_g (by decide +kernel)
theorem ml_X8_151 : Cond.methodLink RX8 151 yX2_noteVoid ∈ lw_g := mem_g (by decide +kernel)
theorem ml_X8_157 : Cond.methodLink RX8 157 yX8_known ∈ lw_g := mem_g (by decide +kernel)
theorem ml_X8_160 : Cond.methodLink RX8 160 yX7_tally ∈ lw_g := mem_g (by decide +kernel)
theorem ml_X8_167 : Cond.methodLink RX8 167 yX7_contentOf ∈ lw_g := mem_g (by decide +kernel)
theorem ml_X8_171 : Cond.methodLink RX8 171 yX7_measure ∈ lw_g := mem_g (by decide +kernel)
theorem ml_X8_179 : Cond.methodLink RX8 179 yX0_above ∈ lw_g := mem_g (by decide +kernel)
theorem ml_X8_183 : Cond.methodLink RX8 183 yX0_below ∈ lw_g := mem_g (by decide +kernel)
theorem ml_X8_187 : Cond.methodLink RX8 187 yX8_isPartOf ∈ lw_g := mem_g (by decide +kernel)
theorem ml_X8_191 : Cond.methodLink RX8 191 yX8_isInThousand ∈ lw_g := mem_g (by decide +kernel)
theorem ml_X8_194 : Cond.methodLink RX8 194 yX0_sum ∈ lw_g := mem_g (by decide +kernel)
theorem ml_X8_198 : Cond.methodLink RX8 198 yX0_tastersFor ∈ lw_g := mem_g (by decide +kernel)
theorem ml_X8_202 : Cond.methodLink RX8 202 yX5_fill ∈ lw_g := mem_g (by decide +kernel)
theorem ml_X8_206 : Cond.methodLink RX8 206 yX5_meanOf ∈ lw_g := mem_g (by decide +kernel)
theorem ml_X8_213 : Cond.methodLink RX8 213 yX5_scaled ∈ lw_g := mem_g (by decide +kernel)
theorem ml_X8_220 : Cond.methodLink RX8 220 yX1_holds ∈ lw_g := mem_g (by decide +kernel)
theorem ml_X8_224 : Cond.methodLink RX8 224 yX6_lay ∈ lw_g := mem_g (by decide +kernel)
theorem ml_X8_236 : Cond.methodLink RX8 236 yX6_layByHand ∈ lw_g := mem_g (by decide +kernel)
theorem ml_X8_245 : Cond.methodLink RX8 245 yX3_allLooks ∈ lw_g := mem_g (by decide +kernel)
theorem ml_X0_19 : Cond.methodLink RX0 19 yX0_above ∈ lw_g := mem_g (by decide +kernel)
theorem ml_X0_23 : Cond.methodLink RX0 23 yX0_below ∈ lw_g := mem_g (by decide +kernel)
theorem ml_X0_27 : Cond.methodLink RX0 27 yJ9_max_f86c9 ∈ lw_g := mem_g (by decide +kernel)
theorem ml_X0_39 : Cond.methodLink RX0 39 yJ7_fill_d0a16 ∈ lw_g := mem_g (by decide +kernel)
theorem ml_X0_47 : Cond.methodLink RX0 47 yX0_fillRow ∈ lw_g := mem_g (by decide +kernel)
theorem ml_X0_51 : Cond.methodLink RX0 51 yJ9_max_7cf53 ∈ lw_g := mem_g (by decide +kernel)
theorem ml_X0_54 : Cond.methodLink RX0 54 yX0_sum ∈ lw_g := mem_g (by decide +kernel)
theorem ml_X0_62 : Cond.methodLink RX0 62 yX0_isEnough ∈ lw_g := mem_g (by decide +kernel)
theorem ml_X0_66 : Cond.methodLink RX0 66 yX0_isBelow ∈ lw_g := mem_g (by decide +kernel)
theorem ml_X1_23 : Cond.methodLink RX1 23 yX5_fill ∈ lw_g := mem_g (by decide +kernel)
theorem ml_X1_41 : Cond.methodLink RX1 41 yX1_pop ∈ lw_g := mem_g (by decide +kernel)
theorem ml_X1_45 : Cond.methodLink RX1 45 yX1_push ∈ lw_g := mem_g (by decide +kernel)
theorem ml_X1_49 : Cond.methodLink RX1 49 yX1_isPart ∈ lw_g := mem_g (by decide +kernel)
theorem ml_X1_53 : Cond.methodLink RX1 53 yX1_part ∈ lw_g := mem_g (by decide +kernel)
theorem ml_X1_57 : Cond.methodLink RX1 57 yX1_joined ∈ lw_g := mem_g (by decide +kernel)
theorem ml_X1_61 : Cond.methodLink RX1 61 yX5_meanOf ∈ lw_g := mem_g (by decide +kernel)
theorem ml_X1_68 : Cond.methodLink RX1 68 yX7_measure ∈ lw_g := mem_g (by decide +kernel)
theorem ml_X1_73 : Cond.methodLink RX1 73 yX1_bounded ∈ lw_g := mem_g (by decide +kernel)
theorem ml_X1_77 : Cond.methodLink RX1 77 yJ9_floorDiv_7cf53 ∈ lw_g := mem_g (by decide +kernel)
theorem ml_X1_83 : Cond.methodLink RX1 83 yJ9_min_7cf53 ∈ lw_g := mem_g (by decide +kernel)
theorem ml_X1_86 : Cond.methodLink RX1 86 yJ9_max_7cf53 ∈ lw_g := mem_g (by decide +kernel)
theorem ml_X1_93 : Cond.methodLink RX1 93 yJ9_min_f86c9 ∈ lw_g := mem_g (by decide +kernel)
theorem ml_X1_96 : Cond.methodLink RX1 96 yJ9_max_f86c9 ∈ lw_g := mem_g (by decide +kernel)
theorem ml_X2_34 : Cond.methodLink RX2 34 yX2_isFull ∈ lw_g := mem_g (by decide +kernel)
theorem ml_X2_38 : Cond.methodLink RX2 38 yX2_note ∈ lw_g := mem_g (by decide +kernel)
theorem ml_X3_64 : Cond.methodLink RX3 64 yX3_places ∈ lw_g := mem_g (by decide +kernel)
theorem ml_X3_68 : Cond.methodLink RX3 68 yX3_productNamed ∈ lw_g := mem_g (by decide +kernel)
theorem ml_X3_72 : Cond.methodLink RX3 72 yJ7_fill_53178 ∈ lw_g := mem_g (by decide +kernel)
theorem ml_X3_78 : Cond.methodLink RX3 78 yX3_cups ∈ lw_g := mem_g (by decide +kernel)
theorem ml_X3_91 : Cond.methodLink RX3 91 yX3_freeCode ∈ lw_g := mem_g (by decide +kernel)
theorem ml_X3_95 : Cond.methodLink RX3 95 yX3_cupOf ∈ lw_g := mem_g (by decide +kernel)
theorem ml_X4_29 : Cond.methodLink RX4 29 yX3_clear ∈ lw_g := mem_g (by decide +kernel)
theorem ml_X4_40 : Cond.methodLink RX4 40 yX4_readToken ∈ lw_g := mem_g (by decide +kernel)
theorem ml_X4_49 : Cond.methodLink RX4 49 yX4_readProduct ∈ lw_g := mem_g (by decide +kernel)
theorem ml_X4_52 : Cond.methodLink RX4 52 yX4_readTrial ∈ lw_g := mem_g (by decide +kernel)
theorem ml_X4_56 : Cond.methodLink RX4 56 yX4_readLook ∈ lw_g := mem_g (by decide +kernel)
theorem ml_X4_59 : Cond.methodLink RX4 59 yX4_readTies ∈ lw_g := mem_g (by decide +kernel)
theorem ml_X4_62 : Cond.methodLink RX4 62 yX4_readScale ∈ lw_g := mem_g (by decide +kernel)
theorem ml_X4_65 : Cond.methodLink RX4 65 yX4_readReference ∈ lw_g := mem_g (by decide +kernel)
theorem ml_X4_68 : Cond.methodLink RX4 68 yX4_readClaim ∈ lw_g := mem_g (by decide +kernel)
theorem ml_X4_74 : Cond.methodLink RX4 74 yX4_fail ∈ lw_g := mem_g (by decide +kernel)
theorem ml_X4_78 : Cond.methodLink RX4 78 yX4_expectSign ∈ lw_g := mem_g (by decide +kernel)
theorem ml_X4_85 : Cond.methodLink RX4 85 yX4_refuseMore ∈ lw_g := mem_g (by decide +kernel)
theorem ml_X4_88 : Cond.methodLink RX4 88 yX4_takeNewName ∈ lw_g := mem_g (by decide +kernel)
theorem ml_X4_92 : Cond.methodLink RX4 92 yX3_addProduct ∈ lw_g := mem_g (by decide +kernel)
theorem ml_X4_99 : Cond.methodLink RX4 99 yX4_takeProduct ∈ lw_g := mem_g (by decide +kernel)
theorem ml_X4_103 : Cond.methodLink RX4 103 yX4_expectWord ∈ lw_g := mem_g (by decide +kernel)
theorem ml_X4_106 : Cond.methodLink RX4 106 yX3_addTrial ∈ lw_g := mem_g (by decide +kernel)
theorem ml_X4_113 : Cond.methodLink RX4 113 yX3_answersAtLatestLook ∈ lw_g := mem_g (by decide +kernel)
theorem ml_X4_117 : Cond.methodLink RX4 117 yX4_takeNumber ∈ lw_g := mem_g (by decide +kernel)
theorem ml_X4_121 : Cond.methodLink RX4 121 yX3_addLook ∈ lw_g := mem_g (by decide +kernel)
theorem ml_X4_138 : Cond.methodLink RX4 138 yX4_readTest ∈ lw_g := mem_g (by decide +kernel)
theorem ml_X4_141 : Cond.methodLink RX4 141 yX3_addClaim ∈ lw_g := mem_g (by decide +kernel)
theorem ml_X4_144 : Cond.methodLink RX4 144 yX4_readBoth ∈ lw_g := mem_g (by decide +kernel)
theorem ml_X4_147 : Cond.methodLink RX4 147 yX3_addStep ∈ lw_g := mem_g (by decide +kernel)
theorem ml_X4_150 : Cond.methodLink RX4 150 yX4_readFact ∈ lw_g := mem_g (by decide +kernel)
theorem ml_X4_153 : Cond.methodLink RX4 153 yX4_enter ∈ lw_g := mem_g (by decide +kernel)
theorem ml_X4_157 : Cond.methodLink RX4 157 yX4_readOfTrial ∈ lw_g := mem_g (by decide +kernel)
theorem ml_X4_160 : Cond.methodLink RX4 160 yX4_readComparison ∈ lw_g := mem_g (by decide +kernel)
theorem ml_X4_163 : Cond.methodLink RX4 163 yX4_readSum ∈ lw_g := mem_g (by decide +kernel)
theorem ml_X4_166 : Cond.methodLink RX4 166 yX4_readTerm ∈ lw_g := mem_g (by decide +kernel)
theorem ml_X4_169 : Cond.methodLink RX4 169 yX4_readPart ∈ lw_g := mem_g (by decide +kernel)
theorem ml_X4_172 : Cond.methodLink RX4 172 yX4_readInParentheses ∈ lw_g := mem_g (by decide +kernel)
theorem ml_X4_175 : Cond.methodLink RX4 175 yX4_takeName ∈ lw_g := mem_g (by decide +kernel)
theorem ml_X4_178 : Cond.methodLink RX4 178 yX3_hasName ∈ lw_g := mem_g (by decide +kernel)
theorem ml_X4_182 : Cond.methodLink RX4 182 yX3_productNamed ∈ lw_g := mem_g (by decide +kernel)
theorem ml_X4_186 : Cond.methodLink RX4 186 yX4_kindOf ∈ lw_g := mem_g (by decide +kernel)
theorem ml_X4_190 : Cond.methodLink RX4 190 yX4_ownWord ∈ lw_g := mem_g (by decide +kernel)
theorem ml_X4_195 : Cond.methodLink RX4 195 yJ0_length_8abf5 ∈ lw_g := mem_g (by decide +kernel)
theorem ml_X4_199 : Cond.methodLink RX4 199 yJ0_charAt_5068e ∈ lw_g := mem_g (by decide +kernel)
theorem ml_X5_35 : Cond.methodLink RX5 35 yJ7_fill_53178 ∈ lw_g := mem_g (by decide +kernel)
theorem ml_X5_43 : Cond.methodLink RX5 43 yX2_isKnown ∈ lw_g := mem_g (by decide +kernel)
theorem ml_X5_56 : Cond.methodLink RX5 56 yX5_cell ∈ lw_g := mem_g (by decide +kernel)
theorem ml_X5_63 : Cond.methodLink RX5 63 yX5_write ∈ lw_g := mem_g (by decide +kernel)
theorem ml_X5_71 : Cond.methodLink RX5 71 yX5_findDrifts ∈ lw_g := mem_g (by decide +kernel)
theorem ml_X5_75 : Cond.methodLink RX5 75 yJ9_min_7cf53 ∈ lw_g := mem_g (by decide +kernel)
theorem ml_X5_81 : Cond.methodLink RX5 81 yJ9_max_7cf53 ∈ lw_g := mem_g (by decide +kernel)
theorem ml_X5_84 : Cond.methodLink RX5 84 yX5_countIn ∈ lw_g := mem_g (by decide +kernel)
theorem ml_X5_87 : Cond.methodLink RX5 87 yX5_sumIn ∈ lw_g := mem_g (by decide +kernel)
theorem ml_X5_90 : Cond.methodLink RX5 90 yJ9_floorDiv_7cf53 ∈ lw_g := mem_g (by decide +kernel)
theorem ml_X5_93 : Cond.methodLink RX5 93 yX5_scaled ∈ lw_g := mem_g (by decide +kernel)
theorem ml_X6_34 : Cond.methodLink RX6 34 yJ7_fill_53178 ∈ lw_g := mem_g (by decide +kernel)
theorem ml_X6_40 : Cond.methodLink RX6 40 yX6_findBest ∈ lw_g := mem_g (by decide +kernel)
theorem ml_X6_43 : Cond.methodLink RX6 43 yX6_append ∈ lw_g := mem_g (by decide +kernel)
theorem ml_X6_47 : Cond.methodLink RX6 47 yX6_unevenness ∈ lw_g := mem_g (by decide +kernel)
theorem ml_X6_54 : Cond.methodLink RX6 54 yX6_sumOfCounts ∈ lw_g := mem_g (by decide +kernel)
theorem ml_X6_63 : Cond.methodLink RX6 63 yX6_nextRow ∈ lw_g := mem_g (by decide +kernel)
theorem ml_X6_67 : Cond.methodLink RX6 67 yX6_exchange ∈ lw_g := mem_g (by decide +kernel)
theorem ml_X6_71 : Cond.methodLink RX6 71 yX6_squareOfGap ∈ lw_g := mem_g (by decide +kernel)
theorem ml_X7_27 : Cond.methodLink RX7 27 yX7_pour ∈ lw_g := mem_g (by decide +kernel)
theorem ml_X7_42 : Cond.methodLink RX7 42 yX3_cups ∈ lw_g := mem_g (by decide +kernel)
theorem ml_X7_48 : Cond.methodLink RX7 48 yX2_isKnown ∈ lw_g := mem_g (by decide +kernel)
theorem ml_X7_61 : Cond.methodLink RX7 61 yX7_exchange ∈ lw_g := mem_g (by decide +kernel)
theorem ml_X7_65 : Cond.methodLink RX7 65 yX7_clear ∈ lw_g := mem_g (by decide +kernel)
theorem ml_X7_72 : Cond.methodLink RX7 72 yX7_hear ∈ lw_g := mem_g (by decide +kernel)
theorem ml_X7_82 : Cond.methodLink RX7 82 yX7_count ∈ lw_g := mem_g (by decide +kernel)
theorem ml_X7_86 : Cond.methodLink RX7 86 yX7_lookThatStops ∈ lw_g := mem_g (by decide +kernel)
theorem ml_X7_105 : Cond.methodLink RX7 105 yX7_likeCups ∈ lw_g := mem_g (by decide +kernel)
theorem ml_X7_121 : Cond.methodLink RX7 121 yX0_isBelow ∈ lw_g := mem_g (by decide +kernel)
theorem ml_X7_127 : Cond.methodLink RX7 127 yX7_tally ∈ lw_g := mem_g (by decide +kernel)
theorem ml_X7_131 : Cond.methodLink RX7 131 yX0_leastShare ∈ lw_g := mem_g (by decide +kernel)
theorem ml_X7_135 : Cond.methodLink RX7 135 yX0_mostShare ∈ lw_g := mem_g (by decide +kernel)
theorem ml_X7_138 : Cond.methodLink RX7 138 yX0_inMillion ∈ lw_g := mem_g (by decide +kernel)
theorem ml_L_9 : Cond.methodLink RL 9 yX8_init ∈ lw_g := mem_g (by decide +kernel)
theorem ml_L_12 : Cond.methodLink RL 12 yX9_init ∈ lw_g := mem_g (by decide +kernel)
theorem ml_L_13 : Cond.methodLink RL 13 yX8_feed ∈ lw_g := mem_g (by decide +kernel)
theorem ml_L_17 : Cond.methodLink RL 17 yX9_feed ∈ lw_g := mem_g (by decide +kernel)
theorem ml_L_18 : Cond.methodLink RL 18 yX8_end ∈ lw_g := mem_g (by decide +kernel)
theorem ml_L_22 : Cond.methodLink RL 22 yX9_end ∈ lw_g := mem_g (by decide +kernel)
theorem ml_L_23 : Cond.methodLink RL 23 yX8_plan ∈ lw_g := mem_g (by decide +kernel)
theorem ml_L_27 : Cond.methodLink RL 27 yX9_plan ∈ lw_g := mem_g (by decide +kernel)
theorem ml_L_28 : Cond.methodLink RL 28 yX8_fault ∈ lw_g := mem_g (by decide +kernel)
theorem ml_L_31 : Cond.methodLink RL 31 yX9_fault ∈ lw_g := mem_g (by decide +kernel)
theorem ml_L_32 : Cond.methodLink RL 32 yX8_code ∈ lw_g := mem_g (by decide +kernel)
theorem ml_L_36 : Cond.methodLink RL 36 yX9_code ∈ lw_g := mem_g (by decide +kernel)
theorem ml_L_37 : Cond.methodLink RL 37 yX8_answer ∈ lw_g := mem_g (by decide +kernel)
theorem ml_L_40 : Cond.methodLink RL 40 yX9_answer ∈ lw_g := mem_g (by decide +kernel)
theorem ml_L_41 : Cond.methodLink RL 41 yX8_score ∈ lw_g := mem_g (by decide +kernel)
theorem ml_L_45 : Cond.methodLink RL 45 yX9_score ∈ lw_g := mem_g (by decide +kernel)
theorem ml_L_46 : Cond.methodLink RL 46 yX8_swap ∈ lw_g := mem_g (by decide +kernel)
theorem ml_L_49 : Cond.methodLink RL 49 yX9_swap ∈ lw_g := mem_g (by decide +kernel)
theorem ml_L_50 : Cond.methodLink RL 50 yX8_annul ∈ lw_g := mem_g (by decide +kernel)
theorem ml_L_53 : Cond.methodLink RL 53 yX9_annul ∈ lw_g := mem_g (by decide +kernel)
theorem ml_L_54 : Cond.methodLink RL 54 yX8_as ∈ lw_g := mem_g (by decide +kernel)
theorem ml_L_57 : Cond.methodLink RL 57 yX9_as ∈ lw_g := mem_g (by decide +kernel)
theorem ml_L_58 : Cond.methodLink RL 58 yX8_open ∈ lw_g := mem_g (by decide +kernel)
theorem ml_L_62 : Cond.methodLink RL 62 yX9_open ∈ lw_g := mem_g (by decide +kernel)
theorem ml_L_63 : Cond.methodLink RL 63 yX8_answers ∈ lw_g := mem_g (by decide +kernel)
theorem ml_L_66 : Cond.methodLink RL 66 yX9_answers ∈ lw_g := mem_g (by decide +kernel)
theorem ml_L_67 : Cond.methodLink RL 67 yX8_inside ∈ lw_g := mem_g (by decide +kernel)
theorem ml_L_71 : Cond.methodLink RL 71 yX9_inside ∈ lw_g := mem_g (by decide +kernel)
theorem ml_L_72 : Cond.methodLink RL 72 yX8_trial ∈ lw_g := mem_g (by decide +kernel)
theorem ml_L_75 : Cond.methodLink RL 75 yX9_trial ∈ lw_g := mem_g (by decide +kernel)
theorem ml_L_76 : Cond.methodLink RL 76 yX8_chance ∈ lw_g := mem_g (by decide +kernel)
theorem ml_L_80 : Cond.methodLink RL 80 yX9_chance ∈ lw_g := mem_g (by decide +kernel)
theorem ml_L_81 : Cond.methodLink RL 81 yX8_guess ∈ lw_g := mem_g (by decide +kernel)
theorem ml_L_85 : Cond.methodLink RL 85 yX9_guess ∈ lw_g := mem_g (by decide +kernel)
theorem ml_L_86 : Cond.methodLink RL 86 yX8_table ∈ lw_g := mem_g (by decide +kernel)
theorem ml_L_90 : Cond.methodLink RL 90 yX9_table ∈ lw_g := mem_g (by decide +kernel)
theorem ml_L_91 : Cond.methodLink RL 91 yX8_needed ∈ lw_g := mem_g (by decide +kernel)
theorem ml_L_95 : Cond.methodLink RL 95 yX9_needed ∈ lw_g := mem_g (by decide +kernel)
theorem ml_L_96 : Cond.methodLink RL 96 yX8_mean ∈ lw_g := mem_g (by decide +kernel)
theorem ml_L_99 : Cond.methodLink RL 99 yX9_mean ∈ lw_g := mem_g (by decide +kernel)
theorem ml_L_100 : Cond.methodLink RL 100 yX8_drift ∈ lw_g := mem_g (by decide +kernel)
theorem ml_L_103 : Cond.methodLink RL 103 yX9_drift ∈ lw_g := mem_g (by decide +kernel)
theorem ml_L_104 : Cond.methodLink RL 104 yX8_scored ∈ lw_g := mem_g (by decide +kernel)
theorem ml_L_107 : Cond.methodLink RL 107 yX9_scored ∈ lw_g := mem_g (by decide +kernel)
theorem ml_L_108 : Cond.methodLink RL 108 yX8_claim ∈ lw_g := mem_g (by decide +kernel)
theorem ml_L_111 : Cond.methodLink RL 111 yX9_claim ∈ lw_g := mem_g (by decide +kernel)
theorem ml_L_112 : Cond.methodLink RL 112 yX8_orders ∈ lw_g := mem_g (by decide +kernel)
theorem ml_L_115 : Cond.methodLink RL 115 yX9_orders ∈ lw_g := mem_g (by decide +kernel)
theorem ml_L_116 : Cond.methodLink RL 116 yX8_served ∈ lw_g := mem_g (by decide +kernel)
theorem ml_L_119 : Cond.methodLink RL 119 yX9_served ∈ lw_g := mem_g (by decide +kernel)
theorem ml_L_120 : Cond.methodLink RL 120 yX8_serves ∈ lw_g := mem_g (by decide +kernel)
theorem ml_L_123 : Cond.methodLink RL 123 yX9_serves ∈ lw_g := mem_g (by decide +kernel)
theorem ml_L_124 : Cond.methodLink RL 124 yX8_all ∈ lw_g := mem_g (by decide +kernel)
theorem ml_L_127 : Cond.methodLink RL 127 yX9_all ∈ lw_g := mem_g (by decide +kernel)
theorem ml_X9_257 : Cond.methodLink RX9 257 yX9_look ∈ lw_g := mem_g (by decide +kernel)
theorem ml_X9_261 : Cond.methodLink RX9 261 yX9_isLetter ∈ lw_g := mem_g (by decide +kernel)
theorem ml_X9_268 : Cond.methodLink RX9 268 yX9_isHere ∈ lw_g := mem_g (by decide +kernel)
theorem ml_X9_272 : Cond.methodLink RX9 272 yX9_takes ∈ lw_g := mem_g (by decide +kernel)
theorem ml_X9_275 : Cond.methodLink RX9 275 yX9_fail ∈ lw_g := mem_g (by decide +kernel)
theorem ml_X9_279 : Cond.methodLink RX9 279 yX9_takesSign ∈ lw_g := mem_g (by decide +kernel)
theorem ml_X9_282 : Cond.methodLink RX9 282 yX9_isDigit ∈ lw_g := mem_g (by decide +kernel)
theorem ml_X9_285 : Cond.methodLink RX9 285 yX9_isIn ∈ lw_g := mem_g (by decide +kernel)
theorem ml_X9_289 : Cond.methodLink RX9 289 yX9_isOwnHere ∈ lw_g := mem_g (by decide +kernel)
theorem ml_X9_303 : Cond.methodLink RX9 303 yX9_name ∈ lw_g := mem_g (by decide +kernel)
theorem ml_X9_307 : Cond.methodLink RX9 307 yX9_productOf ∈ lw_g := mem_g (by decide +kernel)
theorem ml_X9_323 : Cond.methodLink RX9 323 yX9_puts ∈ lw_g := mem_g (by decide +kernel)
theorem ml_X9_330 : Cond.methodLink RX9 330 yX9_isMark ∈ lw_g := mem_g (by decide +kernel)
theorem ml_X9_333 : Cond.methodLink RX9 333 yX9_drops ∈ lw_g := mem_g (by decide +kernel)
theorem ml_X9_336 : Cond.methodLink RX9 336 yX9_opens ∈ lw_g := mem_g (by decide +kernel)
theorem ml_X9_339 : Cond.methodLink RX9 339 yX9_asks ∈ lw_g := mem_g (by decide +kernel)
theorem ml_X9_343 : Cond.methodLink RX9 343 yX9_asksSign ∈ lw_g := mem_g (by decide +kernel)
theorem ml_X9_349 : Cond.methodLink RX9 349 yX9_number ∈ lw_g := mem_g (by decide +kernel)
theorem ml_X9_353 : Cond.methodLink RX9 353 yX9_product ∈ lw_g := mem_g (by decide +kernel)
theorem ml_X9_356 : Cond.methodLink RX9 356 yX9_mark ∈ lw_g := mem_g (by decide +kernel)
theorem ml_X9_359 : Cond.methodLink RX9 359 yX9_dropsToMark ∈ lw_g := mem_g (by decide +kernel)
theorem ml_X9_362 : Cond.methodLink RX9 362 yX9_isOn ∈ lw_g := mem_g (by decide +kernel)
theorem ml_X9_365 : Cond.methodLink RX9 365 yX9_onePart ∈ lw_g := mem_g (by decide +kernel)
theorem ml_X9_368 : Cond.methodLink RX9 368 yX9_goesOn ∈ lw_g := mem_g (by decide +kernel)
theorem ml_X9_371 : Cond.methodLink RX9 371 yX9_sum ∈ lw_g := mem_g (by decide +kernel)
theorem ml_X9_374 : Cond.methodLink RX9 374 yX9_fact ∈ lw_g := mem_g (by decide +kernel)
theorem ml_X9_377 : Cond.methodLink RX9 377 yX9_dropsNots ∈ lw_g := mem_g (by decide +kernel)
theorem ml_X9_380 : Cond.methodLink RX9 380 yX9_goesOnTest ∈ lw_g := mem_g (by decide +kernel)
theorem ml_X9_383 : Cond.methodLink RX9 383 yX9_hasSquare ∈ lw_g := mem_g (by decide +kernel)
theorem ml_X9_389 : Cond.methodLink RX9 389 yX9_fresh ∈ lw_g := mem_g (by decide +kernel)
theorem ml_X9_392 : Cond.methodLink RX9 392 yX9_test ∈ lw_g := mem_g (by decide +kernel)
theorem ml_X9_395 : Cond.methodLink RX9 395 yX9_trialTold ∈ lw_g := mem_g (by decide +kernel)
theorem ml_X9_399 : Cond.methodLink RX9 399 yX9_lookTold ∈ lw_g := mem_g (by decide +kernel)
theorem ml_X9_412 : Cond.methodLink RX9 412 yX9_claimTold ∈ lw_g := mem_g (by decide +kernel)
theorem ml_X9_418 : Cond.methodLink RX9 418 yX9_statement ∈ lw_g := mem_g (by decide +kernel)
theorem ml_X9_427 : Cond.methodLink RX9 427 yX9_stands ∈ lw_g := mem_g (by decide +kernel)
theorem ml_X9_451 : Cond.methodLink RX9 451 yX9_codesOf ∈ lw_g := mem_g (by decide +kernel)
theorem ml_X9_454 : Cond.methodLink RX9 454 yX9_places ∈ lw_g := mem_g (by decide +kernel)
theorem ml_X9_470 : Cond.methodLink RX9 470 yX9_isTrial ∈ lw_g := mem_g (by decide +kernel)
theorem ml_X9_473 : Cond.methodLink RX9 473 yX9_isTaster ∈ lw_g := mem_g (by decide +kernel)
theorem ml_X9_476 : Cond.methodLink RX9 476 yX9_act ∈ lw_g := mem_g (by decide +kernel)
theorem ml_X9_480 : Cond.methodLink RX9 480 yX9_cupOf ∈ lw_g := mem_g (by decide +kernel)
theorem ml_X9_489 : Cond.methodLink RX9 489 yX9_now ∈ lw_g := mem_g (by decide +kernel)
theorem ml_X9_492 : Cond.methodLink RX9 492 yX9_orderOf ∈ lw_g := mem_g (by decide +kernel)
theorem ml_X9_496 : Cond.methodLink RX9 496 yX9_isKnown ∈ lw_g := mem_g (by decide +kernel)
theorem ml_X9_499 : Cond.methodLink RX9 499 yX9_fills ∈ lw_g := mem_g (by decide +kernel)
theorem ml_X9_517 : Cond.methodLink RX9 517 yX9_dueCup ∈ lw_g := mem_g (by decide +kernel)
theorem ml_X9_520 : Cond.methodLink RX9 520 yX9_ofN ∈ lw_g := mem_g (by decide +kernel)
theorem ml_X9_523 : Cond.methodLink RX9 523 yX9_ofK ∈ lw_g := mem_g (by decide +kernel)
theorem ml_X9_526 : Cond.methodLink RX9 526 yX9_isBelow ∈ lw_g := mem_g (by decide +kernel)
theorem ml_X9_530 : Cond.methodLink RX9 530 yX9_counts ∈ lw_g := mem_g (by decide +kernel)
theorem ml_X9_534 : Cond.methodLink RX9 534 yX9_over ∈ lw_g := mem_g (by decide +kernel)
theorem ml_X9_540 : Cond.methodLink RX9 540 yX9_power ∈ lw_g := mem_g (by decide +kernel)
theorem ml_X9_544 : Cond.methodLink RX9 544 yX9_guessed ∈ lw_g := mem_g (by decide +kernel)
theorem ml_X9_560 : Cond.methodLink RX9 560 yX9_tables ∈ lw_g := mem_g (by decide +kernel)
theorem ml_X9_564 : Cond.methodLink RX9 564 yX9_rowSum ∈ lw_g := mem_g (by decide +kernel)
theorem ml_X9_567 : Cond.methodLink RX9 567 yX9_thousandths ∈ lw_g := mem_g (by decide +kernel)
theorem ml_X9_573 : Cond.methodLink RX9 573 yX9_least ∈ lw_g := mem_g (by decide +kernel)
theorem ml_X9_576 : Cond.methodLink RX9 576 yX9_most ∈ lw_g := mem_g (by decide +kernel)
theorem ml_X9_579 : Cond.methodLink RX9 579 yX9_millionths ∈ lw_g := mem_g (by decide +kernel)
theorem ml_X9_582 : Cond.methodLink RX9 582 yX9_told ∈ lw_g := mem_g (by decide +kernel)
theorem ml_X9_585 : Cond.methodLink RX9 585 yX9_driftOf ∈ lw_g := mem_g (by decide +kernel)
theorem ml_X9_588 : Cond.methodLink RX9 588 yX9_gathers ∈ lw_g := mem_g (by decide +kernel)
theorem ml_X9_591 : Cond.methodLink RX9 591 yX9_scoreAct ∈ lw_g := mem_g (by decide +kernel)
theorem ml_X9_595 : Cond.methodLink RX9 595 yX9_scaled ∈ lw_g := mem_g (by decide +kernel)
theorem ml_X9_601 : Cond.methodLink RX9 601 yX9_floor1 ∈ lw_g := mem_g (by decide +kernel)
theorem ml_X9_605 : Cond.methodLink RX9 605 yX9_referenceMean ∈ lw_g := mem_g (by decide +kernel)
theorem ml_X9_609 : Cond.methodLink RX9 609 yX9_meanOf ∈ lw_g := mem_g (by decide +kernel)
theorem ml_X9_620 : Cond.methodLink RX9 620 yX9_clip ∈ lw_g := mem_g (by decide +kernel)
theorem ml_X9_624 : Cond.methodLink RX9 624 yX9_piles ∈ lw_g := mem_g (by decide +kernel)
theorem ml_X9_628 : Cond.methodLink RX9 628 yX9_floor ∈ lw_g := mem_g (by decide +kernel)
theorem ml_X9_631 : Cond.methodLink RX9 631 yX9_joins ∈ lw_g := mem_g (by decide +kernel)
theorem ml_X9_634 : Cond.methodLink RX9 634 yX9_square ∈ lw_g := mem_g (by decide +kernel)
theorem ml_X9_639 : Cond.methodLink RX9 639 yX9_lays ∈ lw_g := mem_g (by decide +kernel)
theorem ml_X9_643 : Cond.methodLink RX9 643 yX9_uneven ∈ lw_g := mem_g (by decide +kernel)
theorem ml_J0_335 : Cond.methodLink RJ0 335 yJ0_coder_7d493 ∈ lw_g := mem_g (by decide +kernel)
theorem ml_J0_492 : Cond.methodLink RJ0 492 yJ0_isLatin1_aae02 ∈ lw_g := mem_g (by decide +kernel)
theorem ml_J0_495 : Cond.methodLink RJ0 495 yJ1_charAt_3b067 ∈ lw_g := mem_g (by decide +kernel)
theorem ml_J0_498 : Cond.methodLink RJ0 498 yJ2_charAt_3b067 ∈ lw_g := mem_g (by decide +kernel)
theorem ml_J0_1059 : Cond.methodLink RJ0 1059 yJ3_checkIndex_8e157 ∈ lw_g := mem_g (by decide +kernel)
theorem ml_J1_9 : Cond.methodLink RJ1 9 yJ0_checkIndex_df160 ∈ lw_g := mem_g (by decide +kernel)
theorem ml_J2_48 : Cond.methodLink RJ2 48 yJ2_length_9d52b ∈ lw_g := mem_g (by decide +kernel)
theorem ml_J2_67 : Cond.methodLink RJ2 67 yJ2_checkIndex_2214a ∈ lw_g := mem_g (by decide +kernel)
theorem ml_J2_71 : Cond.methodLink RJ2 71 yJ2_getChar_3b067 ∈ lw_g := mem_g (by decide +kernel)
theorem ml_J2_414 : Cond.methodLink RJ2 414 yJ0_checkIndex_df160 ∈ lw_g := mem_g (by decide +kernel)
theorem ov_X8_all : okV yX8_all cX8_all 2 (some (.int)) 1 8 := ⟨mem_g (by decide +kernel), mem_g (by decide +kernel), mem_g (by decide +kernel), mem_g (by decide +kernel), ⟨by decide, by decide, by decide +kernel⟩, _, rfl, rfl⟩
theorem ov_X8_annul : okV yX8_annul cX8_annul 2 (some (.int)) 1 8 := ⟨mem_g (by decide +kernel), mem_g (by decide +kernel), mem_g (by decide +kernel), mem_g (by decide +kernel), ⟨by decide, by decide, by decide +kernel⟩, _, rfl, rfl⟩
theorem ov_X8_answer : okV yX8_answer cX8_answer 5 (some (.int)) 3 8 := ⟨mem_g (by decide +kernel), mem_g (by decide +kernel), mem_g (by decide +kernel), mem_g (by decide +kernel), ⟨by decide, by decide, by decide +kernel⟩, _, rfl, rfl⟩
theorem ov_X8_answers : okV yX8_answers cX8_answers 2 (some (.int)) 1 8 := ⟨mem_g (by decide +kernel), mem_g (by decide +kernel), mem_g (by decide +kernel), mem_g (by decide +kernel), ⟨by decide, by decide, by decide +kernel⟩, _, rfl, rfl⟩
theorem ov_X8_as : okV yX8_as cX8_as 2 (some (.boolean)) 1 8 := ⟨mem_g (by decide +kernel), mem_g (by decide +kernel), mem_g (by decide +kernel), mem_g (by decide +kernel), ⟨by decide, by decide, by decide +kernel⟩, _, rfl, rfl⟩
theorem ov_X8_chance : okV yX8_chance cX8_chance 4 (some (.long)) 2 8 := ⟨mem_g (by decide +kernel), mem_g (by decide +kernel), mem_g (by decide +kernel), mem_g (by decide +kernel), ⟨by decide, by decide, by decide +kernel⟩, _, rfl, rfl⟩
theorem ov_X8_claim : okV yX8_claim cX8_claim 2 (some (.int)) 1 8 := ⟨mem_g (by decide +kernel), mem_g (by decide +kernel), mem_g (by decide +kernel), mem_g (by decide +kernel), ⟨by decide, by decide, by decide +kernel⟩, _, rfl, rfl⟩
theorem ov_X8_code : okV yX8_code cX8_code 4 (some (.int)) 3 8 := ⟨mem_g (by decide +kernel), mem_g (by decide +kernel), mem_g (by decide +kernel), mem_g (by decide +kernel), ⟨by decide, by decide, by decide +kernel⟩, _, rfl, rfl⟩
theorem ov_X8_drift : okV yX8_drift cX8_drift 2 (some (.int)) 1 8 := ⟨mem_g (by decide +kernel), mem_g (by decide +kernel), mem_g (by decide +kernel), mem_g (by decide +kernel), ⟨by decide, by decide, by decide +kernel⟩, _, rfl, rfl⟩
theorem ov_X8_end : okV yX8_end cX8_end 2 (some (.boolean)) 1 8 := ⟨mem_g (by decide +kernel), mem_g (by decide +kernel), mem_g (by decide +kernel), mem_g (by decide +kernel), ⟨by decide, by decide, by decide +kernel⟩, _, rfl, rfl⟩
theorem ov_X8_fault : okV yX8_fault cX8_fault 2 (some (.int)) 1 8 := ⟨mem_g (by decide +kernel), mem_g (by decide +kernel), mem_g (by decide +kernel), mem_g (by decide +kernel), ⟨by decide, by decide, by decide +kernel⟩, _, rfl, rfl⟩
theorem ov_X8_feed : okV yX8_feed cX8_feed 6 (some (.int)) 5 8 := ⟨mem_g (by decide +kernel), mem_g (by decide +kernel), mem_g (by decide +kernel), mem_g (by decide +kernel), ⟨by decide, by decide, by decide +kernel⟩, _, rfl, rfl⟩
theorem ov_X8_guess : okV yX8_guess cX8_guess 4 (some (.long)) 3 8 := ⟨mem_g (by decide +kernel), mem_g (by decide +kernel), mem_g (by decide +kernel), mem_g (by decide +kernel), ⟨by decide, by decide, by decide +kernel⟩, _, rfl, rfl⟩
theorem ov_X8_inside : okV yX8_inside cX8_inside 4 (some (.int)) 2 8 := ⟨mem_g (by decide +kernel), mem_g (by decide +kernel), mem_g (by decide +kernel), mem_g (by decide +kernel), ⟨by decide, by decide, by decide +kernel⟩, _, rfl, rfl⟩
theorem os_X8_isInThousand : okS yX8_isInThousand cX8_isInThousand 1 (some (.boolean)) 1 := ⟨mem_g (by decide +kernel), mem_g (by decide +kernel), mem_g (by decide +kernel), by decide, by decide, by decide +kernel⟩
theorem os_X8_isPartOf : okS yX8_isPartOf cX8_isPartOf 2 (some (.boolean)) 2 := ⟨mem_g (by decide +kernel), mem_g (by decide +kernel), mem_g (by decide +kernel), by decide, by decide, by decide +kernel⟩
theorem ov_X8_isProduct : okV yX8_isProduct cX8_isProduct 2 (some (.boolean)) 1 8 := ⟨mem_g (by decide +kernel), mem_g (by decide +kernel), mem_g (by decide +kernel), mem_g (by decide +kernel), ⟨by decide, by decide, by decide +kernel⟩, _, rfl, rfl⟩
theorem os_X8_isSession : okS yX8_isSession cX8_isSession 1 (some (.boolean)) 1 := ⟨mem_g (by decide +kernel), mem_g (by decide +kernel), mem_g (by decide +kernel), by decide, by decide, by decide +kernel⟩
theorem os_X8_isTaster : okS yX8_isTaster cX8_isTaster 1 (some (.boolean)) 1 := ⟨mem_g (by decide +kernel), mem_g (by decide +kernel), mem_g (by decide +kernel), by decide, by decide, by decide +kernel⟩
theorem ov_X8_isTrial : okV yX8_isTrial cX8_isTrial 2 (some (.boolean)) 1 8 := ⟨mem_g (by decide +kernel), mem_g (by decide +kernel), mem_g (by decide +kernel), mem_g (by decide +kernel), ⟨by decide, by decide, by decide +kernel⟩, _, rfl, rfl⟩
theorem ov_X8_known : okV yX8_known cX8_known 1 (some (.int)) 0 8 := ⟨mem_g (by decide +kernel), mem_g (by decide +kernel), mem_g (by decide +kernel), mem_g (by decide +kernel), ⟨by decide, by decide, by decide +kernel⟩, _, rfl, rfl⟩
theorem ov_X8_mean : okV yX8_mean cX8_mean 2 (some (.int)) 1 8 := ⟨mem_g (by decide +kernel), mem_g (by decide +kernel), mem_g (by decide +kernel), mem_g (by decide +kernel), ⟨by decide, by decide, by decide +kernel⟩, _, rfl, rfl⟩
theorem ov_X8_needed : okV yX8_needed cX8_needed 5 (some (.int)) 4 8 := ⟨mem_g (by decide +kernel), mem_g (by decide +kernel), mem_g (by decide +kernel), mem_g (by decide +kernel), ⟨by decide, by decide, by decide +kernel⟩, _, rfl, rfl⟩
theorem ov_X8_open : okV yX8_open cX8_open 1 (some (.boolean)) 0 8 := ⟨mem_g (by decide +kernel), mem_g (by decide +kernel), mem_g (by decide +kernel), mem_g (by decide +kernel), ⟨by decide, by decide, by decide +kernel⟩, _, rfl, rfl⟩
theorem ov_X8_orders : okV yX8_orders cX8_orders 3 (some (.int)) 2 8 := ⟨mem_g (by decide +kernel), mem_g (by decide +kernel), mem_g (by decide +kernel), mem_g (by decide +kernel), ⟨by decide, by decide, by decide +kernel⟩, _, rfl, rfl⟩
theorem ov_X8_plan : okV yX8_plan cX8_plan 3 (some (.int)) 1 8 := ⟨mem_g (by decide +kernel), mem_g (by decide +kernel), mem_g (by decide +kernel), mem_g (by decide +kernel), ⟨by decide, by decide, by decide +kernel⟩, _, rfl, rfl⟩
theorem ov_X8_score : okV yX8_score cX8_score 5 (some (.int)) 4 8 := ⟨mem_g (by decide +kernel), mem_g (by decide +kernel), mem_g (by decide +kernel), mem_g (by decide +kernel), ⟨by decide, by decide, by decide +kernel⟩, _, rfl, rfl⟩
theorem ov_X8_scored : okV yX8_scored cX8_scored 4 (some (.int)) 3 8 := ⟨mem_g (by decide +kernel), mem_g (by decide +kernel), mem_g (by decide +kernel), mem_g (by decide +kernel), ⟨by decide, by decide, by decide +kernel⟩, _, rfl, rfl⟩
theorem ov_X8_served : okV yX8_served cX8_served 3 (some (.int)) 2 8 := ⟨mem_g (by decide +kernel), mem_g (by decide +kernel), mem_g (by decide +kernel), mem_g (by decide +kernel), ⟨by decide, by decide, by decide +kernel⟩, _, rfl, rfl⟩
theorem ov_X8_serves : okV yX8_serves cX8_serves 2 (some (.int)) 1 8 := ⟨mem_g (by decide +kernel), mem_g (by decide +kernel), mem_g (by decide +kernel), mem_g (by decide +kernel), ⟨by decide, by decide, by decide +kernel⟩, _, rfl, rfl⟩
theorem ov_X8_swap : okV yX8_swap cX8_swap 6 (some (.int)) 3 8 := ⟨mem_g (by decide +kernel), mem_g (by decide +kernel), mem_g (by decide +kernel), mem_g (by decide +kernel), ⟨by decide, by decide, by decide +kernel⟩, _, rfl, rfl⟩
theorem ov_X8_table : okV yX8_table cX8_table 5 (some (.long)) 4 8 := ⟨mem_g (by decide +kernel), mem_g (by decide +kernel), mem_g (by decide +kernel), mem_g (by decide +kernel), ⟨by decide, by decide, by decide +kernel⟩, _, rfl, rfl⟩
theorem ov_X8_trial : okV yX8_trial cX8_trial 3 (some (.int)) 2 8 := ⟨mem_g (by decide +kernel), mem_g (by decide +kernel), mem_g (by decide +kernel), mem_g (by decide +kernel), ⟨by decide, by decide, by decide +kernel⟩, _, rfl, rfl⟩
theorem ov_X0_above : okV yX0_above cX0_above 9 (some (.long)) 3 0 := ⟨mem_g (by decide +kernel), mem_g (by decide +kernel), mem_g (by decide +kernel), mem_g (by decide +kernel), ⟨by decide, by decide, by decide +kernel⟩, _, rfl, rfl⟩
theorem ov_X0_below : okV yX0_below cX0_below 6 (some (.long)) 2 0 := ⟨mem_g (by decide +kernel), mem_g (by decide +kernel), mem_g (by decide +kernel), mem_g (by decide +kernel), ⟨by decide, by decide, by decide +kernel⟩, _, rfl, rfl⟩
theorem ov_X0_fillRow : okV yX0_fillRow cX0_fillRow 10 none 3 0 := ⟨mem_g (by decide +kernel), mem_g (by decide +kernel), mem_g (by decide +kernel), mem_g (by decide +kernel), ⟨by decide, by decide, by decide +kernel⟩, _, rfl, rfl⟩
theorem ov_X0_inMillion : okV yX0_inMillion cX0_inMillion 12 (some (.int)) 3 0 := ⟨mem_g (by decide +kernel), mem_g (by decide +kernel), mem_g (by decide +kernel), mem_g (by decide +kernel), ⟨by decide, by decide, by decide +kernel⟩, _, rfl, rfl⟩
theorem ov_X0_isBelow : okV yX0_isBelow cX0_isBelow 6 (some (.boolean)) 5 0 := ⟨mem_g (by decide +kernel), mem_g (by decide +kernel), mem_g (by decide +kernel), mem_g (by decide +kernel), ⟨by decide, by decide, by decide +kernel⟩, _, rfl, rfl⟩
theorem ov_X0_isEnough : okV yX0_isEnough cX0_isEnough 9 (some (.boolean)) 4 0 := ⟨mem_g (by decide +kernel), mem_g (by decide +kernel), mem_g (by decide +kernel), mem_g (by decide +kernel), ⟨by decide, by decide, by decide +kernel⟩, _, rfl, rfl⟩
theorem ov_X0_leastShare : okV yX0_leastShare cX0_leastShare 8 (some (.int)) 3 0 := ⟨mem_g (by decide +kernel), mem_g (by decide +kernel), mem_g (by decide +kernel), mem_g (by decide +kernel), ⟨by decide, by decide, by decide +kernel⟩, _, rfl, rfl⟩
theorem ov_X0_mostShare : okV yX0_mostShare cX0_mostShare 8 (some (.int)) 3 0 := ⟨mem_g (by decide +kernel), mem_g (by decide +kernel), mem_g (by decide +kernel), mem_g (by decide +kernel), ⟨by decide, by decide, by decide +kernel⟩, _, rfl, rfl⟩
theorem ov_X0_sum : okV yX0_sum cX0_sum 9 (some (.long)) 5 0 := ⟨mem_g (by decide +kernel), mem_g (by decide +kernel), mem_g (by decide +kernel), mem_g (by decide +kernel), ⟨by decide, by decide, by decide +kernel⟩, _, rfl, rfl⟩
theorem ov_X0_tastersFor : okV yX0_tastersFor cX0_tastersFor 8 (some (.int)) 4 0 := ⟨mem_g (by decide +kernel), mem_g (by decide +kernel), mem_g (by decide +kernel), mem_g (by decide +kernel), ⟨by decide, by decide, by decide +kernel⟩, _, rfl, rfl⟩
theorem os_X1_bounded : okS yX1_bounded cX1_bounded 2 (some (.int)) 1 := ⟨mem_g (by decide +kernel), mem_g (by decide +kernel), mem_g (by decide +kernel), by decide, by decide, by decide +kernel⟩
theorem ov_X1_holds : okV yX1_holds cX1_holds 9 (some (.boolean)) 3 1 := ⟨mem_g (by decide +kernel), mem_g (by decide +kernel), mem_g (by decide +kernel), mem_g (by decide +kernel), ⟨by decide, by decide, by decide +kernel⟩, _, rfl, rfl⟩
theorem os_X1_isPart : okS yX1_isPart cX1_isPart 1 (some (.boolean)) 1 := ⟨mem_g (by decide +kernel), mem_g (by decide +kernel), mem_g (by decide +kernel), by decide, by decide, by decide +kernel⟩
theorem os_X1_joined : okS yX1_joined cX1_joined 3 (some (.int)) 3 := ⟨mem_g (by decide +kernel), mem_g (by decide +kernel), mem_g (by decide +kernel), by decide, by decide, by decide +kernel⟩
theorem ov_X1_part : okV yX1_part cX1_part 5 (some (.int)) 4 1 := ⟨mem_g (by decide +kernel), mem_g (by decide +kernel), mem_g (by decide +kernel), mem_g (by decide +kernel), ⟨by decide, by decide, by decide +kernel⟩, _, rfl, rfl⟩
theorem ov_X1_pop : okV yX1_pop cX1_pop 1 (some (.int)) 0 1 := ⟨mem_g (by decide +kernel), mem_g (by decide +kernel), mem_g (by decide +kernel), mem_g (by decide +kernel), ⟨by decide, by decide, by decide +kernel⟩, _, rfl, rfl⟩
theorem ov_X1_push : okV yX1_push cX1_push 2 none 1 1 := ⟨mem_g (by decide +kernel), mem_g (by decide +kernel), mem_g (by decide +kernel), mem_g (by decide +kernel), ⟨by decide, by decide, by decide +kernel⟩, _, rfl, rfl⟩
theorem ov_X2_canBeVoid : okV yX2_canBeVoid cX2_canBeVoid 2 (some (.boolean)) 1 2 := ⟨mem_g (by decide +kernel), mem_g (by decide +kernel), mem_g (by decide +kernel), mem_g (by decide +kernel), ⟨by decide, by decide, by decide +kernel⟩, _, rfl, rfl⟩
theorem ov_X2_clear : okV yX2_clear cX2_clear 1 none 0 2 := ⟨mem_g (by decide +kernel), mem_g (by decide +kernel), mem_g (by decide +kernel), mem_g (by decide +kernel), ⟨by decide, by decide, by decide +kernel⟩, _, rfl, rfl⟩
theorem ov_X2_isFull : okV yX2_isFull cX2_isFull 1 (some (.boolean)) 0 2 := ⟨mem_g (by decide +kernel), mem_g (by decide +kernel), mem_g (by decide +kernel), mem_g (by decide +kernel), ⟨by decide, by decide, by decide +kernel⟩, _, rfl, rfl⟩
theorem ov_X2_isKnown : okV yX2_isKnown cX2_isKnown 4 (some (.boolean)) 3 2 := ⟨mem_g (by decide +kernel), mem_g (by decide +kernel), mem_g (by decide +kernel), mem_g (by decide +kernel), ⟨by decide, by decide, by decide +kernel⟩, _, rfl, rfl⟩
theorem ov_X2_note : okV yX2_note cX2_note 6 (some (.int)) 5 2 := ⟨mem_g (by decide +kernel), mem_g (by decide +kernel), mem_g (by decide +kernel), mem_g (by decide +kernel), ⟨by decide, by decide, by decide +kernel⟩, _, rfl, rfl⟩
theorem ov_X2_noteVoid : okV yX2_noteVoid cX2_noteVoid 3 (some (.int)) 1 2 := ⟨mem_g (by decide +kernel), mem_g (by decide +kernel), mem_g (by decide +kernel), mem_g (by decide +kernel), ⟨by decide, by decide, by decide +kernel⟩, _, rfl, rfl⟩
theorem ov_X3_addClaim : okV yX3_addClaim cX3_addClaim 3 none 1 3 := ⟨mem_g (by decide +kernel), mem_g (by decide +kernel), mem_g (by decide +kernel), mem_g (by decide +kernel), ⟨by decide, by decide, by decide +kernel⟩, _, rfl, rfl⟩
theorem ov_X3_addLook : okV yX3_addLook cX3_addLook 6 none 3 3 := ⟨mem_g (by decide +kernel), mem_g (by decide +kernel), mem_g (by decide +kernel), mem_g (by decide +kernel), ⟨by decide, by decide, by decide +kernel⟩, _, rfl, rfl⟩
theorem ov_X3_addProduct : okV yX3_addProduct cX3_addProduct 3 none 1 3 := ⟨mem_g (by decide +kernel), mem_g (by decide +kernel), mem_g (by decide +kernel), mem_g (by decide +kernel), ⟨by decide, by decide, by decide +kernel⟩, _, rfl, rfl⟩
theorem ov_X3_addStep : okV yX3_addStep cX3_addStep 3 none 2 3 := ⟨mem_g (by decide +kernel), mem_g (by decide +kernel), mem_g (by decide +kernel), mem_g (by decide +kernel), ⟨by decide, by decide, by decide +kernel⟩, _, rfl, rfl⟩
theorem ov_X3_addTrial : okV yX3_addTrial cX3_addTrial 2 none 1 3 := ⟨mem_g (by decide +kernel), mem_g (by decide +kernel), mem_g (by decide +kernel), mem_g (by decide +kernel), ⟨by decide, by decide, by decide +kernel⟩, _, rfl, rfl⟩
theorem ov_X3_allLooks : okV yX3_allLooks cX3_allLooks 3 (some (.int)) 0 3 := ⟨mem_g (by decide +kernel), mem_g (by decide +kernel), mem_g (by decide +kernel), mem_g (by decide +kernel), ⟨by decide, by decide, by decide +kernel⟩, _, rfl, rfl⟩
theorem ov_X3_answersAtLatestLook : okV yX3_answersAtLatestLook cX3_answersAtLatestLook 2 (some (.int)) 0 3 := ⟨mem_g (by decide +kernel), mem_g (by decide +kernel), mem_g (by decide +kernel), mem_g (by decide +kernel), ⟨by decide, by decide, by decide +kernel⟩, _, rfl, rfl⟩
theorem ov_X3_clear : okV yX3_clear cX3_clear 1 none 0 3 := ⟨mem_g (by decide +kernel), mem_g (by decide +kernel), mem_g (by decide +kernel), mem_g (by decide +kernel), ⟨by decide, by decide, by decide +kernel⟩, _, rfl, rfl⟩
theorem ov_X3_cupOf : okV yX3_cupOf cX3_cupOf 4 (some (.int)) 2 3 := ⟨mem_g (by decide +kernel), mem_g (by decide +kernel), mem_g (by decide +kernel), mem_g (by decide +kernel), ⟨by decide, by decide, by decide +kernel⟩, _, rfl, rfl⟩
theorem ov_X3_cups : okV yX3_cups cX3_cups 2 (some (.int)) 1 3 := ⟨mem_g (by decide +kernel), mem_g (by decide +kernel), mem_g (by decide +kernel), mem_g (by decide +kernel), ⟨by decide, by decide, by decide +kernel⟩, _, rfl, rfl⟩
theorem ov_X3_freeCode : okV yX3_freeCode cX3_freeCode 5 (some (.int)) 2 3 := ⟨mem_g (by decide +kernel), mem_g (by decide +kernel), mem_g (by decide +kernel), mem_g (by decide +kernel), ⟨by decide, by decide, by decide +kernel⟩, _, rfl, rfl⟩
theorem ov_X3_hasName : okV yX3_hasName cX3_hasName 4 (some (.boolean)) 1 3 := ⟨mem_g (by decide +kernel), mem_g (by decide +kernel), mem_g (by decide +kernel), mem_g (by decide +kernel), ⟨by decide, by decide, by decide +kernel⟩, _, rfl, rfl⟩
theorem ov_X3_layCodes : okV yX3_layCodes cX3_layCodes 6 none 1 3 := ⟨mem_g (by decide +kernel), mem_g (by decide +kernel), mem_g (by decide +kernel), mem_g (by decide +kernel), ⟨by decide, by decide, by decide +kernel⟩, _, rfl, rfl⟩
theorem ov_X3_places : okV yX3_places cX3_places 2 (some (.int)) 1 3 := ⟨mem_g (by decide +kernel), mem_g (by decide +kernel), mem_g (by decide +kernel), mem_g (by decide +kernel), ⟨by decide, by decide, by decide +kernel⟩, _, rfl, rfl⟩
theorem ov_X3_productNamed : okV yX3_productNamed cX3_productNamed 4 (some (.int)) 1 3 := ⟨mem_g (by decide +kernel), mem_g (by decide +kernel), mem_g (by decide +kernel), mem_g (by decide +kernel), ⟨by decide, by decide, by decide +kernel⟩, _, rfl, rfl⟩
theorem ov_X4_append : okV yX4_append cX4_append 3 none 1 4 := ⟨mem_g (by decide +kernel), mem_g (by decide +kernel), mem_g (by decide +kernel), mem_g (by decide +kernel), ⟨by decide, by decide, by decide +kernel⟩, _, rfl, rfl⟩
theorem ov_X4_enter : okV yX4_enter cX4_enter 1 (some (.boolean)) 0 4 := ⟨mem_g (by decide +kernel), mem_g (by decide +kernel), mem_g (by decide +kernel), mem_g (by decide +kernel), ⟨by decide, by decide, by decide +kernel⟩, _, rfl, rfl⟩
theorem ov_X4_expectSign : okV yX4_expectSign cX4_expectSign 2 none 1 4 := ⟨mem_g (by decide +kernel), mem_g (by decide +kernel), mem_g (by decide +kernel), mem_g (by decide +kernel), ⟨by decide, by decide, by decide +kernel⟩, _, rfl, rfl⟩
theorem ov_X4_expectWord : okV yX4_expectWord cX4_expectWord 2 none 1 4 := ⟨mem_g (by decide +kernel), mem_g (by decide +kernel), mem_g (by decide +kernel), mem_g (by decide +kernel), ⟨by decide, by decide, by decide +kernel⟩, _, rfl, rfl⟩
theorem ov_X4_fail : okV yX4_fail cX4_fail 3 none 2 4 := ⟨mem_g (by decide +kernel), mem_g (by decide +kernel), mem_g (by decide +kernel), mem_g (by decide +kernel), ⟨by decide, by decide, by decide +kernel⟩, _, rfl, rfl⟩
theorem os_X4_kindOf : okS yX4_kindOf cX4_kindOf 1 (some (.int)) 1 := ⟨mem_g (by decide +kernel), mem_g (by decide +kernel), mem_g (by decide +kernel), by decide, by decide, by decide +kernel⟩
theorem ov_X4_ownWord : okV yX4_ownWord cX4_ownWord 6 (some (.int)) 0 4 := ⟨mem_g (by decide +kernel), mem_g (by decide +kernel), mem_g (by decide +kernel), mem_g (by decide +kernel), ⟨by decide, by decide, by decide +kernel⟩, _, rfl, rfl⟩
theorem ov_X4_readBoth : okV yX4_readBoth cX4_readBoth 2 none 0 4 := ⟨mem_g (by decide +kernel), mem_g (by decide +kernel), mem_g (by decide +kernel), mem_g (by decide +kernel), ⟨by decide, by decide, by decide +kernel⟩, _, rfl, rfl⟩
theorem ov_X4_readClaim : okV yX4_readClaim cX4_readClaim 3 none 0 4 := ⟨mem_g (by decide +kernel), mem_g (by decide +kernel), mem_g (by decide +kernel), mem_g (by decide +kernel), ⟨by decide, by decide, by decide +kernel⟩, _, rfl, rfl⟩
theorem ov_X4_readComparison : okV yX4_readComparison cX4_readComparison 2 none 0 4 := ⟨mem_g (by decide +kernel), mem_g (by decide +kernel), mem_g (by decide +kernel), mem_g (by decide +kernel), ⟨by decide, by decide, by decide +kernel⟩, _, rfl, rfl⟩
theorem ov_X4_readFact : okV yX4_readFact cX4_readFact 1 none 0 4 := ⟨mem_g (by decide +kernel), mem_g (by decide +kernel), mem_g (by decide +kernel), mem_g (by decide +kernel), ⟨by decide, by decide, by decide +kernel⟩, _, rfl, rfl⟩
theorem ov_X4_readInParentheses : okV yX4_readInParentheses cX4_readInParentheses 2 none 1 4 := ⟨mem_g (by decide +kernel), mem_g (by decide +kernel), mem_g (by decide +kernel), mem_g (by decide +kernel), ⟨by decide, by decide, by decide +kernel⟩, _, rfl, rfl⟩
theorem ov_X4_readLook : okV yX4_readLook cX4_readLook 4 none 0 4 := ⟨mem_g (by decide +kernel), mem_g (by decide +kernel), mem_g (by decide +kernel), mem_g (by decide +kernel), ⟨by decide, by decide, by decide +kernel⟩, _, rfl, rfl⟩
theorem ov_X4_readOfTrial : okV yX4_readOfTrial cX4_readOfTrial 2 none 0 4 := ⟨mem_g (by decide +kernel), mem_g (by decide +kernel), mem_g (by decide +kernel), mem_g (by decide +kernel), ⟨by decide, by decide, by decide +kernel⟩, _, rfl, rfl⟩
theorem ov_X4_readPart : okV yX4_readPart cX4_readPart 2 none 0 4 := ⟨mem_g (by decide +kernel), mem_g (by decide +kernel), mem_g (by decide +kernel), mem_g (by decide +kernel), ⟨by decide, by decide, by decide +kernel⟩, _, rfl, rfl⟩
theorem ov_X4_readPlan : okV yX4_readPlan cX4_readPlan 3 (some (.int)) 0 4 := ⟨mem_g (by decide +kernel), mem_g (by decide +kernel), mem_g (by decide +kernel), mem_g (by decide +kernel), ⟨by decide, by decide, by decide +kernel⟩, _, rfl, rfl⟩
theorem ov_X4_readProduct : okV yX4_readProduct cX4_readProduct 3 none 0 4 := ⟨mem_g (by decide +kernel), mem_g (by decide +kernel), mem_g (by decide +kernel), mem_g (by decide +kernel), ⟨by decide, by decide, by decide +kernel⟩, _, rfl, rfl⟩
theorem ov_X4_readReference : okV yX4_readReference cX4_readReference 2 none 0 4 := ⟨mem_g (by decide +kernel), mem_g (by decide +kernel), mem_g (by decide +kernel), mem_g (by decide +kernel), ⟨by decide, by decide, by decide +kernel⟩, _, rfl, rfl⟩
theorem ov_X4_readScale : okV yX4_readScale cX4_readScale 1 none 0 4 := ⟨mem_g (by decide +kernel), mem_g (by decide +kernel), mem_g (by decide +kernel), mem_g (by decide +kernel), ⟨by decide, by decide, by decide +kernel⟩, _, rfl, rfl⟩
theorem ov_X4_readSum : okV yX4_readSum cX4_readSum 3 none 0 4 := ⟨mem_g (by decide +kernel), mem_g (by decide +kernel), mem_g (by decide +kernel), mem_g (by decide +kernel), ⟨by decide, by decide, by decide +kernel⟩, _, rfl, rfl⟩
theorem ov_X4_readTerm : okV yX4_readTerm cX4_readTerm 3 none 0 4 := ⟨mem_g (by decide +kernel), mem_g (by decide +kernel), mem_g (by decide +kernel), mem_g (by decide +kernel), ⟨by decide, by decide, by decide +kernel⟩, _, rfl, rfl⟩
theorem ov_X4_readTest : okV yX4_readTest cX4_readTest 2 none 0 4 := ⟨mem_g (by decide +kernel), mem_g (by decide +kernel), mem_g (by decide +kernel), mem_g (by decide +kernel), ⟨by decide, by decide, by decide +kernel⟩, _, rfl, rfl⟩
theorem ov_X4_readTies : okV yX4_readTies cX4_readTies 1 none 0 4 := ⟨mem_g (by decide +kernel), mem_g (by decide +kernel), mem_g (by decide +kernel), mem_g (by decide +kernel), ⟨by decide, by decide, by decide +kernel⟩, _, rfl, rfl⟩
theorem ov_X4_readToken : okV yX4_readToken cX4_readToken 3 none 0 4 := ⟨mem_g (by decide +kernel), mem_g (by decide +kernel), mem_g (by decide +kernel), mem_g (by decide +kernel), ⟨by decide, by decide, by decide +kernel⟩, _, rfl, rfl⟩
theorem ov_X4_readTrial : okV yX4_readTrial cX4_readTrial 3 none 1 4 := ⟨mem_g (by decide +kernel), mem_g (by decide +kernel), mem_g (by decide +kernel), mem_g (by decide +kernel), ⟨by decide, by decide, by decide +kernel⟩, _, rfl, rfl⟩
theorem ov_X4_refuseMore : okV yX4_refuseMore cX4_refuseMore 3 none 2 4 := ⟨mem_g (by decide +kernel), mem_g (by decide +kernel), mem_g (by decide +kernel), mem_g (by decide +kernel), ⟨by decide, by decide, by decide +kernel⟩, _, rfl, rfl⟩
theorem ov_X4_takeName : okV yX4_takeName cX4_takeName 4 (some (.long)) 0 4 := ⟨mem_g (by decide +kernel), mem_g (by decide +kernel), mem_g (by decide +kernel), mem_g (by decide +kernel), ⟨by decide, by decide, by decide +kernel⟩, _, rfl, rfl⟩
theorem ov_X4_takeNewName : okV yX4_takeNewName cX4_takeNewName 4 (some (.long)) 0 4 := ⟨mem_g (by decide +kernel), mem_g (by decide +kernel), mem_g (by decide +kernel), mem_g (by decide +kernel), ⟨by decide, by decide, by decide +kernel⟩, _, rfl, rfl⟩
theorem ov_X4_takeNumber : okV yX4_takeNumber cX4_takeNumber 5 (some (.int)) 2 4 := ⟨mem_g (by decide +kernel), mem_g (by decide +kernel), mem_g (by decide +kernel), mem_g (by decide +kernel), ⟨by decide, by decide, by decide +kernel⟩, _, rfl, rfl⟩
theorem ov_X4_takeProduct : okV yX4_takeProduct cX4_takeProduct 4 (some (.int)) 1 4 := ⟨mem_g (by decide +kernel), mem_g (by decide +kernel), mem_g (by decide +kernel), mem_g (by decide +kernel), ⟨by decide, by decide, by decide +kernel⟩, _, rfl, rfl⟩
theorem ov_X4_trade : okV yX4_trade cX4_trade 3 (some (.object "TastingHouse$Plan")) 1 4 := ⟨mem_g (by decide +kernel), mem_g (by decide +kernel), mem_g (by decide +kernel), mem_g (by decide +kernel), ⟨by decide, by decide, by decide +kernel⟩, _, rfl, rfl⟩
theorem os_X5_cell : okS yX5_cell cX5_cell 3 (some (.int)) 3 := ⟨mem_g (by decide +kernel), mem_g (by decide +kernel), mem_g (by decide +kernel), by decide, by decide, by decide +kernel⟩
theorem ov_X5_countIn : okV yX5_countIn cX5_countIn 5 (some (.int)) 2 5 := ⟨mem_g (by decide +kernel), mem_g (by decide +kernel), mem_g (by decide +kernel), mem_g (by decide +kernel), ⟨by decide, by decide, by decide +kernel⟩, _, rfl, rfl⟩
theorem ov_X5_fill : okV yX5_fill cX5_fill 4 none 2 5 := ⟨mem_g (by decide +kernel), mem_g (by decide +kernel), mem_g (by decide +kernel), mem_g (by decide +kernel), ⟨by decide, by decide, by decide +kernel⟩, _, rfl, rfl⟩
theorem ov_X5_findDrifts : okV yX5_findDrifts cX5_findDrifts 7 none 1 5 := ⟨mem_g (by decide +kernel), mem_g (by decide +kernel), mem_g (by decide +kernel), mem_g (by decide +kernel), ⟨by decide, by decide, by decide +kernel⟩, _, rfl, rfl⟩
theorem ov_X5_meanOf : okV yX5_meanOf cX5_meanOf 6 (some (.int)) 1 5 := ⟨mem_g (by decide +kernel), mem_g (by decide +kernel), mem_g (by decide +kernel), mem_g (by decide +kernel), ⟨by decide, by decide, by decide +kernel⟩, _, rfl, rfl⟩
theorem ov_X5_scaled : okV yX5_scaled cX5_scaled 6 (some (.int)) 3 5 := ⟨mem_g (by decide +kernel), mem_g (by decide +kernel), mem_g (by decide +kernel), mem_g (by decide +kernel), ⟨by decide, by decide, by decide +kernel⟩, _, rfl, rfl⟩
theorem ov_X5_sumIn : okV yX5_sumIn cX5_sumIn 6 (some (.int)) 2 5 := ⟨mem_g (by decide +kernel), mem_g (by decide +kernel), mem_g (by decide +kernel), mem_g (by decide +kernel), ⟨by decide, by decide, by decide +kernel⟩, _, rfl, rfl⟩
theorem ov_X5_write : okV yX5_write cX5_write 4 none 3 5 := ⟨mem_g (by decide +kernel), mem_g (by decide +kernel), mem_g (by decide +kernel), mem_g (by decide +kernel), ⟨by decide, by decide, by decide +kernel⟩, _, rfl, rfl⟩
theorem ov_X6_append : okV yX6_append cX6_append 3 none 1 6 := ⟨mem_g (by decide +kernel), mem_g (by decide +kernel), mem_g (by decide +kernel), mem_g (by decide +kernel), ⟨by decide, by decide, by decide +kernel⟩, _, rfl, rfl⟩
theorem ov_X6_exchange : okV yX6_exchange cX6_exchange 4 none 2 6 := ⟨mem_g (by decide +kernel), mem_g (by decide +kernel), mem_g (by decide +kernel), mem_g (by decide +kernel), ⟨by decide, by decide, by decide +kernel⟩, _, rfl, rfl⟩
theorem ov_X6_findBest : okV yX6_findBest cX6_findBest 5 none 0 6 := ⟨mem_g (by decide +kernel), mem_g (by decide +kernel), mem_g (by decide +kernel), mem_g (by decide +kernel), ⟨by decide, by decide, by decide +kernel⟩, _, rfl, rfl⟩
theorem ov_X6_lay : okV yX6_lay cX6_lay 4 (some (.int)) 2 6 := ⟨mem_g (by decide +kernel), mem_g (by decide +kernel), mem_g (by decide +kernel), mem_g (by decide +kernel), ⟨by decide, by decide, by decide +kernel⟩, _, rfl, rfl⟩
theorem ov_X6_layByHand : okV yX6_layByHand cX6_layByHand 4 (some (.int)) 1 6 := ⟨mem_g (by decide +kernel), mem_g (by decide +kernel), mem_g (by decide +kernel), mem_g (by decide +kernel), ⟨by decide, by decide, by decide +kernel⟩, _, rfl, rfl⟩
theorem ov_X6_nextRow : okV yX6_nextRow cX6_nextRow 5 (some (.boolean)) 0 6 := ⟨mem_g (by decide +kernel), mem_g (by decide +kernel), mem_g (by decide +kernel), mem_g (by decide +kernel), ⟨by decide, by decide, by decide +kernel⟩, _, rfl, rfl⟩
theorem ov_X6_squareOfGap : okV yX6_squareOfGap cX6_squareOfGap 3 (some (.int)) 1 6 := ⟨mem_g (by decide +kernel), mem_g (by decide +kernel), mem_g (by decide +kernel), mem_g (by decide +kernel), ⟨by decide, by decide, by decide +kernel⟩, _, rfl, rfl⟩
theorem ov_X6_sumOfCounts : okV yX6_sumOfCounts cX6_sumOfCounts 3 (some (.int)) 0 6 := ⟨mem_g (by decide +kernel), mem_g (by decide +kernel), mem_g (by decide +kernel), mem_g (by decide +kernel), ⟨by decide, by decide, by decide +kernel⟩, _, rfl, rfl⟩
theorem ov_X6_unevenness : okV yX6_unevenness cX6_unevenness 5 (some (.int)) 0 6 := ⟨mem_g (by decide +kernel), mem_g (by decide +kernel), mem_g (by decide +kernel), mem_g (by decide +kernel), ⟨by decide, by decide, by decide +kernel⟩, _, rfl, rfl⟩
theorem ov_X7_clear : okV yX7_clear cX7_clear 2 none 0 7 := ⟨mem_g (by decide +kernel), mem_g (by decide +kernel), mem_g (by decide +kernel), mem_g (by decide +kernel), ⟨by decide, by decide, by decide +kernel⟩, _, rfl, rfl⟩
theorem ov_X7_contentOf : okV yX7_contentOf cX7_contentOf 5 (some (.int)) 4 7 := ⟨mem_g (by decide +kernel), mem_g (by decide +kernel), mem_g (by decide +kernel), mem_g (by decide +kernel), ⟨by decide, by decide, by decide +kernel⟩, _, rfl, rfl⟩
theorem ov_X7_count : okV yX7_count cX7_count 2 none 1 7 := ⟨mem_g (by decide +kernel), mem_g (by decide +kernel), mem_g (by decide +kernel), mem_g (by decide +kernel), ⟨by decide, by decide, by decide +kernel⟩, _, rfl, rfl⟩
theorem ov_X7_exchange : okV yX7_exchange cX7_exchange 4 none 2 7 := ⟨mem_g (by decide +kernel), mem_g (by decide +kernel), mem_g (by decide +kernel), mem_g (by decide +kernel), ⟨by decide, by decide, by decide +kernel⟩, _, rfl, rfl⟩
theorem ov_X7_hear : okV yX7_hear cX7_hear 6 none 3 7 := ⟨mem_g (by decide +kernel), mem_g (by decide +kernel), mem_g (by decide +kernel), mem_g (by decide +kernel), ⟨by decide, by decide, by decide +kernel⟩, _, rfl, rfl⟩
theorem ov_X7_likeCups : okV yX7_likeCups cX7_likeCups 6 (some (.int)) 3 7 := ⟨mem_g (by decide +kernel), mem_g (by decide +kernel), mem_g (by decide +kernel), mem_g (by decide +kernel), ⟨by decide, by decide, by decide +kernel⟩, _, rfl, rfl⟩
theorem ov_X7_lookThatStops : okV yX7_lookThatStops cX7_lookThatStops 6 (some (.int)) 2 7 := ⟨mem_g (by decide +kernel), mem_g (by decide +kernel), mem_g (by decide +kernel), mem_g (by decide +kernel), ⟨by decide, by decide, by decide +kernel⟩, _, rfl, rfl⟩
theorem ov_X7_measure : okV yX7_measure cX7_measure 6 (some (.int)) 4 7 := ⟨mem_g (by decide +kernel), mem_g (by decide +kernel), mem_g (by decide +kernel), mem_g (by decide +kernel), ⟨by decide, by decide, by decide +kernel⟩, _, rfl, rfl⟩
theorem ov_X7_pour : okV yX7_pour cX7_pour 6 none 3 7 := ⟨mem_g (by decide +kernel), mem_g (by decide +kernel), mem_g (by decide +kernel), mem_g (by decide +kernel), ⟨by decide, by decide, by decide +kernel⟩, _, rfl, rfl⟩
theorem ov_X7_tally : okV yX7_tally cX7_tally 8 none 4 7 := ⟨mem_g (by decide +kernel), mem_g (by decide +kernel), mem_g (by decide +kernel), mem_g (by decide +kernel), ⟨by decide, by decide, by decide +kernel⟩, _, rfl, rfl⟩
theorem ov_X9_act : okV yX9_act cX9_act 6 (some (.int)) 5 9 := ⟨mem_g (by decide +kernel), mem_g (by decide +kernel), mem_g (by decide +kernel), mem_g (by decide +kernel), ⟨by decide, by decide, by decide +kernel⟩, _, rfl, rfl⟩
theorem ov_X9_all : okV yX9_all cX9_all 4 (some (.int)) 1 9 := ⟨mem_g (by decide +kernel), mem_g (by decide +kernel), mem_g (by decide +kernel), mem_g (by decide +kernel), ⟨by decide, by decide, by decide +kernel⟩, _, rfl, rfl⟩
theorem ov_X9_annul : okV yX9_annul cX9_annul 2 (some (.int)) 1 9 := ⟨mem_g (by decide +kernel), mem_g (by decide +kernel), mem_g (by decide +kernel), mem_g (by decide +kernel), ⟨by decide, by decide, by decide +kernel⟩, _, rfl, rfl⟩
theorem ov_X9_answer : okV yX9_answer cX9_answer 5 (some (.int)) 3 9 := ⟨mem_g (by decide +kernel), mem_g (by decide +kernel), mem_g (by decide +kernel), mem_g (by decide +kernel), ⟨by decide, by decide, by decide +kernel⟩, _, rfl, rfl⟩
theorem ov_X9_answers : okV yX9_answers cX9_answers 2 (some (.int)) 1 9 := ⟨mem_g (by decide +kernel), mem_g (by decide +kernel), mem_g (by decide +kernel), mem_g (by decide +kernel), ⟨by decide, by decide, by decide +kernel⟩, _, rfl, rfl⟩
theorem ov_X9_as : okV yX9_as cX9_as 2 (some (.boolean)) 1 9 := ⟨mem_g (by decide +kernel), mem_g (by decide +kernel), mem_g (by decide +kernel), mem_g (by decide +kernel), ⟨by decide, by decide, by decide +kernel⟩, _, rfl, rfl⟩
theorem ov_X9_asks : okV yX9_asks cX9_asks 2 none 1 9 := ⟨mem_g (by decide +kernel), mem_g (by decide +kernel), mem_g (by decide +kernel), mem_g (by decide +kernel), ⟨by decide, by decide, by decide +kernel⟩, _, rfl, rfl⟩
theorem ov_X9_asksSign : okV yX9_asksSign cX9_asksSign 2 none 1 9 := ⟨mem_g (by decide +kernel), mem_g (by decide +kernel), mem_g (by decide +kernel), mem_g (by decide +kernel), ⟨by decide, by decide, by decide +kernel⟩, _, rfl, rfl⟩
theorem ov_X9_chance : okV yX9_chance cX9_chance 3 (some (.long)) 2 9 := ⟨mem_g (by decide +kernel), mem_g (by decide +kernel), mem_g (by decide +kernel), mem_g (by decide +kernel), ⟨by decide, by decide, by decide +kernel⟩, _, rfl, rfl⟩
theorem ov_X9_claim : okV yX9_claim cX9_claim 4 (some (.int)) 1 9 := ⟨mem_g (by decide +kernel), mem_g (by decide +kernel), mem_g (by decide +kernel), mem_g (by decide +kernel), ⟨by decide, by decide, by decide +kernel⟩, _, rfl, rfl⟩
theorem ov_X9_claimTold : okV yX9_claimTold cX9_claimTold 3 none 0 9 := ⟨mem_g (by decide +kernel), mem_g (by decide +kernel), mem_g (by decide +kernel), mem_g (by decide +kernel), ⟨by decide, by decide, by decide +kernel⟩, _, rfl, rfl⟩
theorem os_X9_clip : okS yX9_clip cX9_clip 2 (some (.long)) 1 := ⟨mem_g (by decide +kernel), mem_g (by decide +kernel), mem_g (by decide +kernel), by decide, by decide, by decide +kernel⟩
theorem ov_X9_code : okV yX9_code cX9_code 4 (some (.int)) 3 9 := ⟨mem_g (by decide +kernel), mem_g (by decide +kernel), mem_g (by decide +kernel), mem_g (by decide +kernel), ⟨by decide, by decide, by decide +kernel⟩, _, rfl, rfl⟩
theorem ov_X9_codesOf : okV yX9_codesOf cX9_codesOf 6 none 1 9 := ⟨mem_g (by decide +kernel), mem_g (by decide +kernel), mem_g (by decide +kernel), mem_g (by decide +kernel), ⟨by decide, by decide, by decide +kernel⟩, _, rfl, rfl⟩
theorem ov_X9_counts : okV yX9_counts cX9_counts 6 none 2 9 := ⟨mem_g (by decide +kernel), mem_g (by decide +kernel), mem_g (by decide +kernel), mem_g (by decide +kernel), ⟨by decide, by decide, by decide +kernel⟩, _, rfl, rfl⟩
theorem ov_X9_cupOf : okV yX9_cupOf cX9_cupOf 4 (some (.int)) 2 9 := ⟨mem_g (by decide +kernel), mem_g (by decide +kernel), mem_g (by decide +kernel), mem_g (by decide +kernel), ⟨by decide, by decide, by decide +kernel⟩, _, rfl, rfl⟩
theorem ov_X9_drift : okV yX9_drift cX9_drift 2 (some (.int)) 1 9 := ⟨mem_g (by decide +kernel), mem_g (by decide +kernel), mem_g (by decide +kernel), mem_g (by decide +kernel), ⟨by decide, by decide, by decide +kernel⟩, _, rfl, rfl⟩
theorem ov_X9_driftOf : okV yX9_driftOf cX9_driftOf 5 (some (.int)) 1 9 := ⟨mem_g (by decide +kernel), mem_g (by decide +kernel), mem_g (by decide +kernel), mem_g (by decide +kernel), ⟨by decide, by decide, by decide +kernel⟩, _, rfl, rfl⟩
theorem ov_X9_drops : okV yX9_drops cX9_drops 1 none 0 9 := ⟨mem_g (by decide +kernel), mem_g (by decide +kernel), mem_g (by decide +kernel), mem_g (by decide +kernel), ⟨by decide, by decide, by decide +kernel⟩, _, rfl, rfl⟩
theorem ov_X9_dropsNots : okV yX9_dropsNots cX9_dropsNots 1 none 0 9 := ⟨mem_g (by decide +kernel), mem_g (by decide +kernel), mem_g (by decide +kernel), mem_g (by decide +kernel), ⟨by decide, by decide, by decide +kernel⟩, _, rfl, rfl⟩
theorem ov_X9_dropsToMark : okV yX9_dropsToMark cX9_dropsToMark 1 none 0 9 := ⟨mem_g (by decide +kernel), mem_g (by decide +kernel), mem_g (by decide +kernel), mem_g (by decide +kernel), ⟨by decide, by decide, by decide +kernel⟩, _, rfl, rfl⟩
theorem ov_X9_dueCup : okV yX9_dueCup cX9_dueCup 7 (some (.int)) 2 9 := ⟨mem_g (by decide +kernel), mem_g (by decide +kernel), mem_g (by decide +kernel), mem_g (by decide +kernel), ⟨by decide, by decide, by decide +kernel⟩, _, rfl, rfl⟩
theorem ov_X9_end : okV yX9_end cX9_end 2 (some (.boolean)) 1 9 := ⟨mem_g (by decide +kernel), mem_g (by decide +kernel), mem_g (by decide +kernel), mem_g (by decide +kernel), ⟨by decide, by decide, by decide +kernel⟩, _, rfl, rfl⟩
theorem ov_X9_fact : okV yX9_fact cX9_fact 2 none 0 9 := ⟨mem_g (by decide +kernel), mem_g (by decide +kernel), mem_g (by decide +kernel), mem_g (by decide +kernel), ⟨by decide, by decide, by decide +kernel⟩, _, rfl, rfl⟩
theorem ov_X9_fail : okV yX9_fail cX9_fail 3 none 2 9 := ⟨mem_g (by decide +kernel), mem_g (by decide +kernel), mem_g (by decide +kernel), mem_g (by decide +kernel), ⟨by decide, by decide, by decide +kernel⟩, _, rfl, rfl⟩
theorem ov_X9_fault : okV yX9_fault cX9_fault 2 (some (.int)) 1 9 := ⟨mem_g (by decide +kernel), mem_g (by decide +kernel), mem_g (by decide +kernel), mem_g (by decide +kernel), ⟨by decide, by decide, by decide +kernel⟩, _, rfl, rfl⟩
theorem ov_X9_feed : okV yX9_feed cX9_feed 8 (some (.int)) 5 9 := ⟨mem_g (by decide +kernel), mem_g (by decide +kernel), mem_g (by decide +kernel), mem_g (by decide +kernel), ⟨by decide, by decide, by decide +kernel⟩, _, rfl, rfl⟩
theorem ov_X9_fills : okV yX9_fills cX9_fills 4 none 1 9 := ⟨mem_g (by decide +kernel), mem_g (by decide +kernel), mem_g (by decide +kernel), mem_g (by decide +kernel), ⟨by decide, by decide, by decide +kernel⟩, _, rfl, rfl⟩
theorem os_X9_floor : okS yX9_floor cX9_floor 6 (some (.long)) 2 := ⟨mem_g (by decide +kernel), mem_g (by decide +kernel), mem_g (by decide +kernel), by decide, by decide, by decide +kernel⟩
theorem os_X9_floor1 : okS yX9_floor1 cX9_floor1 6 (some (.long)) 2 := ⟨mem_g (by decide +kernel), mem_g (by decide +kernel), mem_g (by decide +kernel), by decide, by decide, by decide +kernel⟩
theorem ov_X9_fresh : okV yX9_fresh cX9_fresh 5 (some (.long)) 0 9 := ⟨mem_g (by decide +kernel), mem_g (by decide +kernel), mem_g (by decide +kernel), mem_g (by decide +kernel), ⟨by decide, by decide, by decide +kernel⟩, _, rfl, rfl⟩
theorem ov_X9_gathers : okV yX9_gathers cX9_gathers 4 none 0 9 := ⟨mem_g (by decide +kernel), mem_g (by decide +kernel), mem_g (by decide +kernel), mem_g (by decide +kernel), ⟨by decide, by decide, by decide +kernel⟩, _, rfl, rfl⟩
theorem ov_X9_goesOn : okV yX9_goesOn cX9_goesOn 2 (some (.boolean)) 0 9 := ⟨mem_g (by decide +kernel), mem_g (by decide +kernel), mem_g (by decide +kernel), mem_g (by decide +kernel), ⟨by decide, by decide, by decide +kernel⟩, _, rfl, rfl⟩
theorem ov_X9_goesOnTest : okV yX9_goesOnTest cX9_goesOnTest 1 (some (.boolean)) 0 9 := ⟨mem_g (by decide +kernel), mem_g (by decide +kernel), mem_g (by decide +kernel), mem_g (by decide +kernel), ⟨by decide, by decide, by decide +kernel⟩, _, rfl, rfl⟩
theorem ov_X9_guess : okV yX9_guess cX9_guess 4 (some (.long)) 3 9 := ⟨mem_g (by decide +kernel), mem_g (by decide +kernel), mem_g (by decide +kernel), mem_g (by decide +kernel), ⟨by decide, by decide, by decide +kernel⟩, _, rfl, rfl⟩
theorem os_X9_guessed : okS yX9_guessed cX9_guessed 6 (some (.long)) 3 := ⟨mem_g (by decide +kernel), mem_g (by decide +kernel), mem_g (by decide +kernel), by decide, by decide, by decide +kernel⟩
theorem ov_X9_hasSquare : okV yX9_hasSquare cX9_hasSquare 2 (some (.boolean)) 0 9 := ⟨mem_g (by decide +kernel), mem_g (by decide +kernel), mem_g (by decide +kernel), mem_g (by decide +kernel), ⟨by decide, by decide, by decide +kernel⟩, _, rfl, rfl⟩
theorem ov_X9_inside : okV yX9_inside cX9_inside 4 (some (.int)) 2 9 := ⟨mem_g (by decide +kernel), mem_g (by decide +kernel), mem_g (by decide +kernel), mem_g (by decide +kernel), ⟨by decide, by decide, by decide +kernel⟩, _, rfl, rfl⟩
theorem os_X9_isBelow : okS yX9_isBelow cX9_isBelow 7 (some (.boolean)) 5 := ⟨mem_g (by decide +kernel), mem_g (by decide +kernel), mem_g (by decide +kernel), by decide, by decide, by decide +kernel⟩
theorem os_X9_isDigit : okS yX9_isDigit cX9_isDigit 1 (some (.boolean)) 1 := ⟨mem_g (by decide +kernel), mem_g (by decide +kernel), mem_g (by decide +kernel), by decide, by decide, by decide +kernel⟩
theorem ov_X9_isHere : okV yX9_isHere cX9_isHere 4 (some (.boolean)) 1 9 := ⟨mem_g (by decide +kernel), mem_g (by decide +kernel), mem_g (by decide +kernel), mem_g (by decide +kernel), ⟨by decide, by decide, by decide +kernel⟩, _, rfl, rfl⟩
theorem os_X9_isIn : okS yX9_isIn cX9_isIn 6 (some (.boolean)) 3 := ⟨mem_g (by decide +kernel), mem_g (by decide +kernel), mem_g (by decide +kernel), by decide, by decide, by decide +kernel⟩
theorem ov_X9_isKnown : okV yX9_isKnown cX9_isKnown 2 (some (.boolean)) 1 9 := ⟨mem_g (by decide +kernel), mem_g (by decide +kernel), mem_g (by decide +kernel), mem_g (by decide +kernel), ⟨by decide, by decide, by decide +kernel⟩, _, rfl, rfl⟩
theorem os_X9_isLetter : okS yX9_isLetter cX9_isLetter 1 (some (.boolean)) 1 := ⟨mem_g (by decide +kernel), mem_g (by decide +kernel), mem_g (by decide +kernel), by decide, by decide, by decide +kernel⟩
theorem ov_X9_isMark : okV yX9_isMark cX9_isMark 2 (some (.boolean)) 1 9 := ⟨mem_g (by decide +kernel), mem_g (by decide +kernel), mem_g (by decide +kernel), mem_g (by decide +kernel), ⟨by decide, by decide, by decide +kernel⟩, _, rfl, rfl⟩
theorem ov_X9_isOn : okV yX9_isOn cX9_isOn 2 (some (.boolean)) 1 9 := ⟨mem_g (by decide +kernel), mem_g (by decide +kernel), mem_g (by decide +kernel), mem_g (by decide +kernel), ⟨by decide, by decide, by decide +kernel⟩, _, rfl, rfl⟩
theorem ov_X9_isOwnHere : okV yX9_isOwnHere cX9_isOwnHere 2 (some (.boolean)) 0 9 := ⟨mem_g (by decide +kernel), mem_g (by decide +kernel), mem_g (by decide +kernel), mem_g (by decide +kernel), ⟨by decide, by decide, by decide +kernel⟩, _, rfl, rfl⟩
theorem os_X9_isTaster : okS yX9_isTaster cX9_isTaster 1 (some (.boolean)) 1 := ⟨mem_g (by decide +kernel), mem_g (by decide +kernel), mem_g (by decide +kernel), by decide, by decide, by decide +kernel⟩
theorem ov_X9_isTrial : okV yX9_isTrial cX9_isTrial 2 (some (.boolean)) 1 9 := ⟨mem_g (by decide +kernel), mem_g (by decide +kernel), mem_g (by decide +kernel), mem_g (by decide +kernel), ⟨by decide, by decide, by decide +kernel⟩, _, rfl, rfl⟩
theorem ov_X9_joins : okV yX9_joins cX9_joins 6 none 1 9 := ⟨mem_g (by decide +kernel), mem_g (by decide +kernel), mem_g (by decide +kernel), mem_g (by decide +kernel), ⟨by decide, by decide, by decide +kernel⟩, _, rfl, rfl⟩
theorem ov_X9_lays : okV yX9_lays cX9_lays 7 (some (.boolean)) 3 9 := ⟨mem_g (by decide +kernel), mem_g (by decide +kernel), mem_g (by decide +kernel), mem_g (by decide +kernel), ⟨by decide, by decide, by decide +kernel⟩, _, rfl, rfl⟩
theorem ov_X9_least : okV yX9_least cX9_least 3 (some (.int)) 1 9 := ⟨mem_g (by decide +kernel), mem_g (by decide +kernel), mem_g (by decide +kernel), mem_g (by decide +kernel), ⟨by decide, by decide, by decide +kernel⟩, _, rfl, rfl⟩
theorem ov_X9_look : okV yX9_look cX9_look 1 (some (.int)) 0 9 := ⟨mem_g (by decide +kernel), mem_g (by decide +kernel), mem_g (by decide +kernel), mem_g (by decide +kernel), ⟨by decide, by decide, by decide +kernel⟩, _, rfl, rfl⟩
theorem ov_X9_lookTold : okV yX9_lookTold cX9_lookTold 4 none 0 9 := ⟨mem_g (by decide +kernel), mem_g (by decide +kernel), mem_g (by decide +kernel), mem_g (by decide +kernel), ⟨by decide, by decide, by decide +kernel⟩, _, rfl, rfl⟩
theorem ov_X9_mark : okV yX9_mark cX9_mark 2 (some (.int)) 0 9 := ⟨mem_g (by decide +kernel), mem_g (by decide +kernel), mem_g (by decide +kernel), mem_g (by decide +kernel), ⟨by decide, by decide, by decide +kernel⟩, _, rfl, rfl⟩
theorem ov_X9_mean : okV yX9_mean cX9_mean 2 (some (.int)) 1 9 := ⟨mem_g (by decide +kernel), mem_g (by decide +kernel), mem_g (by decide +kernel), mem_g (by decide +kernel), ⟨by decide, by decide, by decide +kernel⟩, _, rfl, rfl⟩
theorem ov_X9_meanOf : okV yX9_meanOf cX9_meanOf 9 (some (.int)) 1 9 := ⟨mem_g (by decide +kernel), mem_g (by decide +kernel), mem_g (by decide +kernel), mem_g (by decide +kernel), ⟨by decide, by decide, by decide +kernel⟩, _, rfl, rfl⟩
theorem ov_X9_millionths : okV yX9_millionths cX9_millionths 9 (some (.int)) 1 9 := ⟨mem_g (by decide +kernel), mem_g (by decide +kernel), mem_g (by decide +kernel), mem_g (by decide +kernel), ⟨by decide, by decide, by decide +kernel⟩, _, rfl, rfl⟩
theorem ov_X9_most : okV yX9_most cX9_most 3 (some (.int)) 1 9 := ⟨mem_g (by decide +kernel), mem_g (by decide +kernel), mem_g (by decide +kernel), mem_g (by decide +kernel), ⟨by decide, by decide, by decide +kernel⟩, _, rfl, rfl⟩
theorem ov_X9_name : okV yX9_name cX9_name 3 (some (.long)) 0 9 := ⟨mem_g (by decide +kernel), mem_g (by decide +kernel), mem_g (by decide +kernel), mem_g (by decide +kernel), ⟨by decide, by decide, by decide +kernel⟩, _, rfl, rfl⟩
theorem ov_X9_needed : okV yX9_needed cX9_needed 7 (some (.int)) 4 9 := ⟨mem_g (by decide +kernel), mem_g (by decide +kernel), mem_g (by decide +kernel), mem_g (by decide +kernel), ⟨by decide, by decide, by decide +kernel⟩, _, rfl, rfl⟩
theorem ov_X9_now : okV yX9_now cX9_now 1 (some (.int)) 0 9 := ⟨mem_g (by decide +kernel), mem_g (by decide +kernel), mem_g (by decide +kernel), mem_g (by decide +kernel), ⟨by decide, by decide, by decide +kernel⟩, _, rfl, rfl⟩
theorem ov_X9_number : okV yX9_number cX9_number 5 (some (.int)) 2 9 := ⟨mem_g (by decide +kernel), mem_g (by decide +kernel), mem_g (by decide +kernel), mem_g (by decide +kernel), ⟨by decide, by decide, by decide +kernel⟩, _, rfl, rfl⟩
theorem ov_X9_ofK : okV yX9_ofK cX9_ofK 2 (some (.int)) 1 9 := ⟨mem_g (by decide +kernel), mem_g (by decide +kernel), mem_g (by decide +kernel), mem_g (by decide +kernel), ⟨by decide, by decide, by decide +kernel⟩, _, rfl, rfl⟩
theorem ov_X9_ofN : okV yX9_ofN cX9_ofN 1 (some (.int)) 0 9 := ⟨mem_g (by decide +kernel), mem_g (by decide +kernel), mem_g (by decide +kernel), mem_g (by decide +kernel), ⟨by decide, by decide, by decide +kernel⟩, _, rfl, rfl⟩
theorem ov_X9_onePart : okV yX9_onePart cX9_onePart 5 none 0 9 := ⟨mem_g (by decide +kernel), mem_g (by decide +kernel), mem_g (by decide +kernel), mem_g (by decide +kernel), ⟨by decide, by decide, by decide +kernel⟩, _, rfl, rfl⟩
theorem ov_X9_open : okV yX9_open cX9_open 1 (some (.boolean)) 0 9 := ⟨mem_g (by decide +kernel), mem_g (by decide +kernel), mem_g (by decide +kernel), mem_g (by decide +kernel), ⟨by decide, by decide, by decide +kernel⟩, _, rfl, rfl⟩
theorem ov_X9_opens : okV yX9_opens cX9_opens 3 none 2 9 := ⟨mem_g (by decide +kernel), mem_g (by decide +kernel), mem_g (by decide +kernel), mem_g (by decide +kernel), ⟨by decide, by decide, by decide +kernel⟩, _, rfl, rfl⟩
theorem os_X9_orderOf : okS yX9_orderOf cX9_orderOf 6 (some (.int)) 3 := ⟨mem_g (by decide +kernel), mem_g (by decide +kernel), mem_g (by decide +kernel), by decide, by decide, by decide +kernel⟩
theorem ov_X9_orders : okV yX9_orders cX9_orders 10 (some (.int)) 2 9 := ⟨mem_g (by decide +kernel), mem_g (by decide +kernel), mem_g (by decide +kernel), mem_g (by decide +kernel), ⟨by decide, by decide, by decide +kernel⟩, _, rfl, rfl⟩
theorem os_X9_over : okS yX9_over cX9_over 5 (some (.long)) 2 := ⟨mem_g (by decide +kernel), mem_g (by decide +kernel), mem_g (by decide +kernel), by decide, by decide, by decide +kernel⟩
theorem ov_X9_piles : okV yX9_piles cX9_piles 3 none 1 9 := ⟨mem_g (by decide +kernel), mem_g (by decide +kernel), mem_g (by decide +kernel), mem_g (by decide +kernel), ⟨by decide, by decide, by decide +kernel⟩, _, rfl, rfl⟩
theorem ov_X9_places : okV yX9_places cX9_places 2 (some (.int)) 1 9 := ⟨mem_g (by decide +kernel), mem_g (by decide +kernel), mem_g (by decide +kernel), mem_g (by decide +kernel), ⟨by decide, by decide, by decide +kernel⟩, _, rfl, rfl⟩
theorem ov_X9_plan : okV yX9_plan cX9_plan 2 (some (.int)) 1 9 := ⟨mem_g (by decide +kernel), mem_g (by decide +kernel), mem_g (by decide +kernel), mem_g (by decide +kernel), ⟨by decide, by decide, by decide +kernel⟩, _, rfl, rfl⟩
theorem os_X9_power : okS yX9_power cX9_power 6 (some (.long)) 2 := ⟨mem_g (by decide +kernel), mem_g (by decide +kernel), mem_g (by decide +kernel), by decide, by decide, by decide +kernel⟩
theorem ov_X9_product : okV yX9_product cX9_product 4 (some (.int)) 0 9 := ⟨mem_g (by decide +kernel), mem_g (by decide +kernel), mem_g (by decide +kernel), mem_g (by decide +kernel), ⟨by decide, by decide, by decide +kernel⟩, _, rfl, rfl⟩
theorem ov_X9_productOf : okV yX9_productOf cX9_productOf 4 (some (.int)) 1 9 := ⟨mem_g (by decide +kernel), mem_g (by decide +kernel), mem_g (by decide +kernel), mem_g (by decide +kernel), ⟨by decide, by decide, by decide +kernel⟩, _, rfl, rfl⟩
theorem ov_X9_puts : okV yX9_puts cX9_puts 2 none 1 9 := ⟨mem_g (by decide +kernel), mem_g (by decide +kernel), mem_g (by decide +kernel), mem_g (by decide +kernel), ⟨by decide, by decide, by decide +kernel⟩, _, rfl, rfl⟩
theorem ov_X9_referenceMean : okV yX9_referenceMean cX9_referenceMean 6 (some (.int)) 1 9 := ⟨mem_g (by decide +kernel), mem_g (by decide +kernel), mem_g (by decide +kernel), mem_g (by decide +kernel), ⟨by decide, by decide, by decide +kernel⟩, _, rfl, rfl⟩
theorem ov_X9_rowSum : okV yX9_rowSum cX9_rowSum 6 (some (.long)) 2 9 := ⟨mem_g (by decide +kernel), mem_g (by decide +kernel), mem_g (by decide +kernel), mem_g (by decide +kernel), ⟨by decide, by decide, by decide +kernel⟩, _, rfl, rfl⟩
theorem ov_X9_scaled : okV yX9_scaled cX9_scaled 4 (some (.int)) 1 9 := ⟨mem_g (by decide +kernel), mem_g (by decide +kernel), mem_g (by decide +kernel), mem_g (by decide +kernel), ⟨by decide, by decide, by decide +kernel⟩, _, rfl, rfl⟩
theorem ov_X9_score : okV yX9_score cX9_score 5 (some (.int)) 4 9 := ⟨mem_g (by decide +kernel), mem_g (by decide +kernel), mem_g (by decide +kernel), mem_g (by decide +kernel), ⟨by decide, by decide, by decide +kernel⟩, _, rfl, rfl⟩
theorem ov_X9_scoreAct : okV yX9_scoreAct cX9_scoreAct 5 (some (.int)) 3 9 := ⟨mem_g (by decide +kernel), mem_g (by decide +kernel), mem_g (by decide +kernel), mem_g (by decide +kernel), ⟨by decide, by decide, by decide +kernel⟩, _, rfl, rfl⟩
theorem ov_X9_scored : okV yX9_scored cX9_scored 5 (some (.int)) 3 9 := ⟨mem_g (by decide +kernel), mem_g (by decide +kernel), mem_g (by decide +kernel), mem_g (by decide +kernel), ⟨by decide, by decide, by decide +kernel⟩, _, rfl, rfl⟩
theorem ov_X9_served : okV yX9_served cX9_served 3 (some (.int)) 2 9 := ⟨mem_g (by decide +kernel), mem_g (by decide +kernel), mem_g (by decide +kernel), mem_g (by decide +kernel), ⟨by decide, by decide, by decide +kernel⟩, _, rfl, rfl⟩
theorem ov_X9_serves : okV yX9_serves cX9_serves 5 (some (.int)) 1 9 := ⟨mem_g (by decide +kernel), mem_g (by decide +kernel), mem_g (by decide +kernel), mem_g (by decide +kernel), ⟨by decide, by decide, by decide +kernel⟩, _, rfl, rfl⟩
theorem os_X9_square : okS yX9_square cX9_square 1 (some (.int)) 1 := ⟨mem_g (by decide +kernel), mem_g (by decide +kernel), mem_g (by decide +kernel), by decide, by decide, by decide +kernel⟩
theorem ov_X9_stands : okV yX9_stands cX9_stands 2 none 0 9 := ⟨mem_g (by decide +kernel), mem_g (by decide +kernel), mem_g (by decide +kernel), mem_g (by decide +kernel), ⟨by decide, by decide, by decide +kernel⟩, _, rfl, rfl⟩
theorem ov_X9_statement : okV yX9_statement cX9_statement 3 none 0 9 := ⟨mem_g (by decide +kernel), mem_g (by decide +kernel), mem_g (by decide +kernel), mem_g (by decide +kernel), ⟨by decide, by decide, by decide +kernel⟩, _, rfl, rfl⟩
theorem ov_X9_sum : okV yX9_sum cX9_sum 3 none 0 9 := ⟨mem_g (by decide +kernel), mem_g (by decide +kernel), mem_g (by decide +kernel), mem_g (by decide +kernel), ⟨by decide, by decide, by decide +kernel⟩, _, rfl, rfl⟩
theorem ov_X9_swap : okV yX9_swap cX9_swap 6 (some (.int)) 3 9 := ⟨mem_g (by decide +kernel), mem_g (by decide +kernel), mem_g (by decide +kernel), mem_g (by decide +kernel), ⟨by decide, by decide, by decide +kernel⟩, _, rfl, rfl⟩
theorem ov_X9_table : okV yX9_table cX9_table 5 (some (.long)) 4 9 := ⟨mem_g (by decide +kernel), mem_g (by decide +kernel), mem_g (by decide +kernel), mem_g (by decide +kernel), ⟨by decide, by decide, by decide +kernel⟩, _, rfl, rfl⟩
theorem ov_X9_tables : okV yX9_tables cX9_tables 12 none 3 9 := ⟨mem_g (by decide +kernel), mem_g (by decide +kernel), mem_g (by decide +kernel), mem_g (by decide +kernel), ⟨by decide, by decide, by decide +kernel⟩, _, rfl, rfl⟩
theorem ov_X9_takes : okV yX9_takes cX9_takes 2 (some (.boolean)) 1 9 := ⟨mem_g (by decide +kernel), mem_g (by decide +kernel), mem_g (by decide +kernel), mem_g (by decide +kernel), ⟨by decide, by decide, by decide +kernel⟩, _, rfl, rfl⟩
theorem ov_X9_takesSign : okV yX9_takesSign cX9_takesSign 2 (some (.boolean)) 1 9 := ⟨mem_g (by decide +kernel), mem_g (by decide +kernel), mem_g (by decide +kernel), mem_g (by decide +kernel), ⟨by decide, by decide, by decide +kernel⟩, _, rfl, rfl⟩
theorem ov_X9_test : okV yX9_test cX9_test 3 none 0 9 := ⟨mem_g (by decide +kernel), mem_g (by decide +kernel), mem_g (by decide +kernel), mem_g (by decide +kernel), ⟨by decide, by decide, by decide +kernel⟩, _, rfl, rfl⟩
theorem os_X9_thousandths : okS yX9_thousandths cX9_thousandths 1 (some (.long)) 1 := ⟨mem_g (by decide +kernel), mem_g (by decide +kernel), mem_g (by decide +kernel), by decide, by decide, by decide +kernel⟩
theorem ov_X9_told : okV yX9_told cX9_told 3 (some (.int)) 2 9 := ⟨mem_g (by decide +kernel), mem_g (by decide +kernel), mem_g (by decide +kernel), mem_g (by decide +kernel), ⟨by decide, by decide, by decide +kernel⟩, _, rfl, rfl⟩
theorem ov_X9_trial : okV yX9_trial cX9_trial 3 (some (.int)) 2 9 := ⟨mem_g (by decide +kernel), mem_g (by decide +kernel), mem_g (by decide +kernel), mem_g (by decide +kernel), ⟨by decide, by decide, by decide +kernel⟩, _, rfl, rfl⟩
theorem ov_X9_trialTold : okV yX9_trialTold cX9_trialTold 2 none 1 9 := ⟨mem_g (by decide +kernel), mem_g (by decide +kernel), mem_g (by decide +kernel), mem_g (by decide +kernel), ⟨by decide, by decide, by decide +kernel⟩, _, rfl, rfl⟩
theorem ov_X9_uneven : okV yX9_uneven cX9_uneven 6 (some (.int)) 2 9 := ⟨mem_g (by decide +kernel), mem_g (by decide +kernel), mem_g (by decide +kernel), mem_g (by decide +kernel), ⟨by decide, by decide, by decide +kernel⟩, _, rfl, rfl⟩
theorem os_J9_floorDiv_7cf53 : okS yJ9_floorDiv_7cf53 cJ9_floorDiv_7cf53 3 (some (.int)) 2 := ⟨mem_g (by decide +kernel), mem_g (by decide +kernel), mem_g (by decide +kernel), by decide, by decide, by decide +kernel⟩
theorem os_J9_max_7cf53 : okS yJ9_max_7cf53 cJ9_max_7cf53 2 (some (.int)) 2 := ⟨mem_g (by decide +kernel), mem_g (by decide +kernel), mem_g (by decide +kernel), by decide, by decide, by decide +kernel⟩
theorem os_J9_max_f86c9 : okS yJ9_max_f86c9 cJ9_max_f86c9 4 (some (.long)) 2 := ⟨mem_g (by decide +kernel), mem_g (by decide +kernel), mem_g (by decide +kernel), by decide, by decide, by decide +kernel⟩
theorem os_J9_min_7cf53 : okS yJ9_min_7cf53 cJ9_min_7cf53 2 (some (.int)) 2 := ⟨mem_g (by decide +kernel), mem_g (by decide +kernel), mem_g (by decide +kernel), by decide, by decide, by decide +kernel⟩
theorem os_J9_min_f86c9 : okS yJ9_min_f86c9 cJ9_min_f86c9 4 (some (.long)) 2 := ⟨mem_g (by decide +kernel), mem_g (by decide +kernel), mem_g (by decide +kernel), by decide, by decide, by decide +kernel⟩
theorem os_J0_checkIndex_df160 : okS yJ0_checkIndex_df160 cJ0_checkIndex_df160 2 none 2 := ⟨mem_g (by decide +kernel), mem_g (by decide +kernel), mem_g (by decide +kernel), by decide, by decide, by decide +kernel⟩
theorem os_J1_charAt_3b067 : okS yJ1_charAt_3b067 cJ1_charAt_3b067 2 (some (.char)) 2 := ⟨mem_g (by decide +kernel), mem_g (by decide +kernel), mem_g (by decide +kernel), by decide, by decide, by decide +kernel⟩
theorem os_J2_charAt_3b067 : okS yJ2_charAt_3b067 cJ2_charAt_3b067 2 (some (.char)) 2 := ⟨mem_g (by decide +kernel), mem_g (by decide +kernel), mem_g (by decide +kernel), by decide, by decide, by decide +kernel⟩
theorem os_J2_checkIndex_2214a : okS yJ2_checkIndex_2214a cJ2_checkIndex_2214a 2 none 2 := ⟨mem_g (by decide +kernel), mem_g (by decide +kernel), mem_g (by decide +kernel), by decide, by decide, by decide +kernel⟩
theorem os_J2_getChar_3b067 : okS yJ2_getChar_3b067 cJ2_getChar_3b067 2 (some (.char)) 2 := ⟨mem_g (by decide +kernel), mem_g (by decide +kernel), mem_g (by decide +kernel), by decide, by decide, by decide +kernel⟩
theorem os_J2_length_9d52b : okS yJ2_length_9d52b cJ2_length_9d52b 1 (some (.int)) 1 := ⟨mem_g (by decide +kernel), mem_g (by decide +kernel), mem_g (by decide +kernel), by decide, by decide, by decide +kernel⟩
theorem os_J7_fill_53178 : okS yJ7_fill_53178 cJ7_fill_53178 4 none 2 := ⟨mem_g (by decide +kernel), mem_g (by decide +kernel), mem_g (by decide +kernel), by decide, by decide, by decide +kernel⟩
theorem os_J7_fill_d0a16 : okS yJ7_fill_d0a16 cJ7_fill_d0a16 5 none 2 := ⟨mem_g (by decide +kernel), mem_g (by decide +kernel), mem_g (by decide +kernel), by decide, by decide, by decide +kernel⟩
theorem os_J3_checkIndex_8e157 : okS yJ3_checkIndex_8e157 cJ3_checkIndex_8e157 3 (some (.int)) 3 := ⟨mem_g (by decide +kernel), mem_g (by decide +kernel), mem_g (by decide +kernel), by decide, by decide, by decide +kernel⟩
def OB (c k N : Nat) : Prop := lay c = (k, N) ∧ k < 10 ∧ c < 121 ∧ ∀ q : vw_C, vwCl[k]? = some q → q.2.2 = N
theorem ob_0 : OB 0 8 11 := ⟨by decide +kernel, by decide, by decide, fun q h => by cases (Option.some.inj h : (RX8, TX8, 11) = q); rfl⟩
theorem ob_1 : OB 1 2 7 := ⟨by decide +kernel, by decide, by decide, fun q h => by cases (Option.some.inj h : (RX2, TX2, 7) = q); rfl⟩
theorem ar_2 : lay 2 = (100, 251) ∧ 2 < 121 ∧ 251 < 2147483648 := ⟨by decide +kernel, by decide, by decide⟩
theorem ar_3 : lay 3 = (100, 251) ∧ 3 < 121 ∧ 251 < 2147483648 := ⟨by decide +kernel, by decide, by decide⟩
theorem ar_4 : lay 4 = (100, 251) ∧ 4 < 121 ∧ 251 < 2147483648 := ⟨by decide +kernel, by decide, by decide⟩
theorem ar_5 : lay 5 = (100, 251) ∧ 5 < 121 ∧ 251 < 2147483648 := ⟨by decide +kernel, by decide, by decide⟩
theorem ar_6 : lay 6 = (100, 251) ∧ 6 < 121 ∧ 251 < 2147483648 := ⟨by decide +kernel, by decide, by decide⟩
theorem ar_7 : lay 7 = (100, 251) ∧ 7 < 121 ∧ 251 < 2147483648 := ⟨by decide +kernel, by decide, by decide⟩
theorem ob_8 : OB 8 0 1 := ⟨by decide +kernel, by decide, by decide, fun q h => by cases (Option.some.inj h : (RX0, TX0, 1) = q); rfl⟩
theorem ar_9 : lay 9 = (101, 31) ∧ 9 < 121 ∧ 31 < 2147483648 := ⟨by decide +kernel, by decide, by decide⟩
theorem ob_10 : OB 10 7 11 := ⟨by decide +kernel, by decide, by decide, fun q h => by cases (Option.some.inj h : (RX7, TX7, 11) = q); rfl⟩
theorem ar_11 : lay 11 = (100, 90) ∧ 11 < 121 ∧ 90 < 2147483648 := ⟨by decide +kernel, by decide, by decide⟩
theorem ar_12 : lay 12 = (102, 30) ∧ 12 < 121 ∧ 30 < 2147483648 := ⟨by decide +kernel, by decide, by decide⟩
theorem ob_13 : OB 13 5 6 := ⟨by decide +kernel, by decide, by decide, fun q h => by cases (Option.some.inj h : (RX5, TX5, 6) = q); rfl⟩
theorem ar_14 : lay 14 = (100, 1800) ∧ 14 < 121 ∧ 1800 < 2147483648 := ⟨by decide +kernel, by decide, by decide⟩
theorem ar_15 : lay 15 = (100, 30) ∧ 15 < 121 ∧ 30 < 2147483648 := ⟨by decide +kernel, by decide, by decide⟩
theorem ar_16 : lay 16 = (100, 30) ∧ 16 < 121 ∧ 30 < 2147483648 := ⟨by decide +kernel, by decide, by decide⟩
theorem ar_17 : lay 17 = (100, 10) ∧ 17 < 121 ∧ 10 < 2147483648 := ⟨by decide +kernel, by decide, by decide⟩
theorem ob_18 : OB 18 1 4 := ⟨by decide +kernel, by decide, by decide, fun q h => by cases (Option.some.inj h : (RX1, TX1, 4) = q); rfl⟩
theorem ar_19 : lay 19 = (100, 64) ∧ 19 < 121 ∧ 64 < 2147483648 := ⟨by decide +kernel, by decide, by decide⟩
theorem ob_20 : OB 20 4 10 := ⟨by decide +kernel, by decide, by decide, fun q h => by cases (Option.some.inj h : (RX4, TX4, 10) = q); rfl⟩
theorem ob_21 : OB 21 3 16 := ⟨by decide +kernel, by decide, by decide, fun q h => by cases (Option.some.inj h : (RX3, TX3, 16) = q); rfl⟩
theorem ar_22 : lay 22 = (101, 14) ∧ 22 < 121 ∧ 14 < 2147483648 := ⟨by decide +kernel, by decide, by decide⟩
theorem ar_23 : lay 23 = (102, 4) ∧ 23 < 121 ∧ 4 < 2147483648 := ⟨by decide +kernel, by decide, by decide⟩
theorem ar_24 : lay 24 = (100, 4) ∧ 24 < 121 ∧ 4 < 2147483648 := ⟨by decide +kernel, by decide, by decide⟩
theorem ar_25 : lay 25 = (100, 20) ∧ 25 < 121 ∧ 20 < 2147483648 := ⟨by decide +kernel, by decide, by decide⟩
theorem ar_26 : lay 26 = (100, 20) ∧ 26 < 121 ∧ 20 < 2147483648 := ⟨by decide +kernel, by decide, by decide⟩
theorem ar_27 : lay 27 = (100, 20) ∧ 27 < 121 ∧ 20 < 2147483648 := ⟨by decide +kernel, by decide, by decide⟩
theorem ar_28 : lay 28 = (100, 360) ∧ 28 < 121 ∧ 360 < 2147483648 := ⟨by decide +kernel, by decide, by decide⟩
theorem ar_29 : lay 29 = (100, 700) ∧ 29 < 121 ∧ 700 < 2147483648 := ⟨by decide +kernel, by decide, by decide⟩
theorem ar_30 : lay 30 = (100, 8) ∧ 30 < 121 ∧ 8 < 2147483648 := ⟨by decide +kernel, by decide, by decide⟩
theorem ar_31 : lay 31 = (103, 700) ∧ 31 < 121 ∧ 700 < 2147483648 := ⟨by decide +kernel, by decide, by decide⟩
theorem ob_32 : OB 32 6 7 := ⟨by decide +kernel, by decide, by decide, fun q h => by cases (Option.some.inj h : (RX6, TX6, 7) = q); rfl⟩
theorem ar_33 : lay 33 = (100, 150) ∧ 33 < 121 ∧ 150 < 2147483648 := ⟨by decide +kernel, by decide, by decide⟩
theorem ar_34 : lay 34 = (100, 25) ∧ 34 < 121 ∧ 25 < 2147483648 := ⟨by decide +kernel, by decide, by decide⟩
theorem ar_35 : lay 35 = (100, 25) ∧ 35 < 121 ∧ 25 < 2147483648 := ⟨by decide +kernel, by decide, by decide⟩
theorem ar_36 : lay 36 = (100, 5) ∧ 36 < 121 ∧ 5 < 2147483648 := ⟨by decide +kernel, by decide, by decide⟩
theorem ar_37 : lay 37 = (100, 5) ∧ 37 < 121 ∧ 5 < 2147483648 := ⟨by decide +kernel, by decide, by decide⟩
theorem ob_38 : OB 38 3 16 := ⟨by decide +kernel, by decide, by decide, fun q h => by cases (Option.some.inj h : (RX3, TX3, 16) = q); rfl⟩
theorem ar_39 : lay 39 = (101, 14) ∧ 39 < 121 ∧ 14 < 2147483648 := ⟨by decide +kernel, by decide, by decide⟩
theorem ar_40 : lay 40 = (102, 4) ∧ 40 < 121 ∧ 4 < 2147483648 := ⟨by decide +kernel, by decide, by decide⟩
theorem ar_41 : lay 41 = (100, 4) ∧ 41 < 121 ∧ 4 < 2147483648 := ⟨by decide +kernel, by decide, by decide⟩
theorem ar_42 : lay 42 = (100, 20) ∧ 42 < 121 ∧ 20 < 2147483648 := ⟨by decide +kernel, by decide, by decide⟩
theorem ar_43 : lay 43 = (100, 20) ∧ 43 < 121 ∧ 20 < 2147483648 := ⟨by decide +kernel, by decide, by decide⟩
theorem ar_44 : lay 44 = (100, 20) ∧ 44 < 121 ∧ 20 < 2147483648 := ⟨by decide +kernel, by decide, by decide⟩
theorem ar_45 : lay 45 = (100, 360) ∧ 45 < 121 ∧ 360 < 2147483648 := ⟨by decide +kernel, by decide, by decide⟩
theorem ar_46 : lay 46 = (100, 700) ∧ 46 < 121 ∧ 700 < 2147483648 := ⟨by decide +kernel, by decide, by decide⟩
theorem ar_47 : lay 47 = (100, 8) ∧ 47 < 121 ∧ 8 < 2147483648 := ⟨by decide +kernel, by decide, by decide⟩
theorem ob_48 : OB 48 9 113 := ⟨by decide +kernel, by decide, by decide, fun q h => by cases (Option.some.inj h : (RX9, TX9, 113) = q); rfl⟩
theorem ar_49 : lay 49 = (100, 700) ∧ 49 < 121 ∧ 700 < 2147483648 := ⟨by decide +kernel, by decide, by decide⟩
theorem ar_50 : lay 50 = (103, 7) ∧ 50 < 121 ∧ 7 < 2147483648 := ⟨by decide +kernel, by decide, by decide⟩
theorem ar_51 : lay 51 = (103, 8) ∧ 51 < 121 ∧ 8 < 2147483648 := ⟨by decide +kernel, by decide, by decide⟩
theorem ar_52 : lay 52 = (103, 7) ∧ 52 < 121 ∧ 7 < 2147483648 := ⟨by decide +kernel, by decide, by decide⟩
theorem ar_53 : lay 53 = (103, 4) ∧ 53 < 121 ∧ 4 < 2147483648 := ⟨by decide +kernel, by decide, by decide⟩
theorem ar_54 : lay 54 = (103, 4) ∧ 54 < 121 ∧ 4 < 2147483648 := ⟨by decide +kernel, by decide, by decide⟩
theorem ar_55 : lay 55 = (103, 5) ∧ 55 < 121 ∧ 5 < 2147483648 := ⟨by decide +kernel, by decide, by decide⟩
theorem ar_56 : lay 56 = (103, 2) ∧ 56 < 121 ∧ 2 < 2147483648 := ⟨by decide +kernel, by decide, by decide⟩
theorem ar_57 : lay 57 = (103, 4) ∧ 57 < 121 ∧ 4 < 2147483648 := ⟨by decide +kernel, by decide, by decide⟩
theorem ar_58 : lay 58 = (103, 4) ∧ 58 < 121 ∧ 4 < 2147483648 := ⟨by decide +kernel, by decide, by decide⟩
theorem ar_59 : lay 59 = (103, 4) ∧ 59 < 121 ∧ 4 < 2147483648 := ⟨by decide +kernel, by decide, by decide⟩
theorem ar_60 : lay 60 = (103, 4) ∧ 60 < 121 ∧ 4 < 2147483648 := ⟨by decide +kernel, by decide, by decide⟩
theorem ar_61 : lay 61 = (103, 5) ∧ 61 < 121 ∧ 5 < 2147483648 := ⟨by decide +kernel, by decide, by decide⟩
theorem ar_62 : lay 62 = (103, 3) ∧ 62 < 121 ∧ 3 < 2147483648 := ⟨by decide +kernel, by decide, by decide⟩
theorem ar_63 : lay 63 = (103, 3) ∧ 63 < 121 ∧ 3 < 2147483648 := ⟨by decide +kernel, by decide, by decide⟩
theorem ar_64 : lay 64 = (103, 9) ∧ 64 < 121 ∧ 9 < 2147483648 := ⟨by decide +kernel, by decide, by decide⟩
theorem ar_65 : lay 65 = (103, 5) ∧ 65 < 121 ∧ 5 < 2147483648 := ⟨by decide +kernel, by decide, by decide⟩
theorem ar_66 : lay 66 = (103, 4) ∧ 66 < 121 ∧ 4 < 2147483648 := ⟨by decide +kernel, by decide, by decide⟩
theorem ar_67 : lay 67 = (103, 2) ∧ 67 < 121 ∧ 2 < 2147483648 := ⟨by decide +kernel, by decide, by decide⟩
theorem ar_68 : lay 68 = (103, 3) ∧ 68 < 121 ∧ 3 < 2147483648 := ⟨by decide +kernel, by decide, by decide⟩
theorem ar_69 : lay 69 = (103, 3) ∧ 69 < 121 ∧ 3 < 2147483648 := ⟨by decide +kernel, by decide, by decide⟩
theorem ar_70 : lay 70 = (103, 4) ∧ 70 < 121 ∧ 4 < 2147483648 := ⟨by decide +kernel, by decide, by decide⟩
theorem ar_71 : lay 71 = (103, 5) ∧ 71 < 121 ∧ 5 < 2147483648 := ⟨by decide +kernel, by decide, by decide⟩
theorem ar_72 : lay 72 = (103, 5) ∧ 72 < 121 ∧ 5 < 2147483648 := ⟨by decide +kernel, by decide, by decide⟩
theorem ar_73 : lay 73 = (103, 4) ∧ 73 < 121 ∧ 4 < 2147483648 := ⟨by decide +kernel, by decide, by decide⟩
theorem ar_74 : lay 74 = (103, 6) ∧ 74 < 121 ∧ 6 < 2147483648 := ⟨by decide +kernel, by decide, by decide⟩
theorem ar_75 : lay 75 = (103, 5) ∧ 75 < 121 ∧ 5 < 2147483648 := ⟨by decide +kernel, by decide, by decide⟩
theorem ar_76 : lay 76 = (103, 4) ∧ 76 < 121 ∧ 4 < 2147483648 := ⟨by decide +kernel, by decide, by decide⟩
theorem ar_77 : lay 77 = (103, 4) ∧ 77 < 121 ∧ 4 < 2147483648 := ⟨by decide +kernel, by decide, by decide⟩
theorem ar_78 : lay 78 = (103, 5) ∧ 78 < 121 ∧ 5 < 2147483648 := ⟨by decide +kernel, by decide, by decide⟩
theorem ar_79 : lay 79 = (103, 3) ∧ 79 < 121 ∧ 3 < 2147483648 := ⟨by decide +kernel, by decide, by decide⟩
theorem ar_80 : lay 80 = (103, 3) ∧ 80 < 121 ∧ 3 < 2147483648 := ⟨by decide +kernel, by decide, by decide⟩
theorem ar_81 : lay 81 = (103, 7) ∧ 81 < 121 ∧ 7 < 2147483648 := ⟨by decide +kernel, by decide, by decide⟩
theorem ar_82 : lay 82 = (100, 1600) ∧ 82 < 121 ∧ 1600 < 2147483648 := ⟨by decide +kernel, by decide, by decide⟩
theorem ar_83 : lay 83 = (100, 800) ∧ 83 < 121 ∧ 800 < 2147483648 := ⟨by decide +kernel, by decide, by decide⟩
theorem ar_84 : lay 84 = (101, 6) ∧ 84 < 121 ∧ 6 < 2147483648 := ⟨by decide +kernel, by decide, by decide⟩
theorem ar_85 : lay 85 = (102, 4) ∧ 85 < 121 ∧ 4 < 2147483648 := ⟨by decide +kernel, by decide, by decide⟩
theorem ar_86 : lay 86 = (100, 4) ∧ 86 < 121 ∧ 4 < 2147483648 := ⟨by decide +kernel, by decide, by decide⟩
theorem ar_87 : lay 87 = (100, 4) ∧ 87 < 121 ∧ 4 < 2147483648 := ⟨by decide +kernel, by decide, by decide⟩
theorem ar_88 : lay 88 = (100, 4) ∧ 88 < 121 ∧ 4 < 2147483648 := ⟨by decide +kernel, by decide, by decide⟩
theorem ar_89 : lay 89 = (100, 20) ∧ 89 < 121 ∧ 20 < 2147483648 := ⟨by decide +kernel, by decide, by decide⟩
theorem ar_90 : lay 90 = (100, 20) ∧ 90 < 121 ∧ 20 < 2147483648 := ⟨by decide +kernel, by decide, by decide⟩
theorem ar_91 : lay 91 = (100, 20) ∧ 91 < 121 ∧ 20 < 2147483648 := ⟨by decide +kernel, by decide, by decide⟩
theorem ar_92 : lay 92 = (101, 8) ∧ 92 < 121 ∧ 8 < 2147483648 := ⟨by decide +kernel, by decide, by decide⟩
theorem ar_93 : lay 93 = (100, 8) ∧ 93 < 121 ∧ 8 < 2147483648 := ⟨by decide +kernel, by decide, by decide⟩
theorem ar_94 : lay 94 = (102, 4) ∧ 94 < 121 ∧ 4 < 2147483648 := ⟨by decide +kernel, by decide, by decide⟩
theorem ar_95 : lay 95 = (100, 4) ∧ 95 < 121 ∧ 4 < 2147483648 := ⟨by decide +kernel, by decide, by decide⟩
theorem ar_96 : lay 96 = (100, 4) ∧ 96 < 121 ∧ 4 < 2147483648 := ⟨by decide +kernel, by decide, by decide⟩
theorem ar_97 : lay 97 = (100, 4) ∧ 97 < 121 ∧ 4 < 2147483648 := ⟨by decide +kernel, by decide, by decide⟩
theorem ar_98 : lay 98 = (100, 20) ∧ 98 < 121 ∧ 20 < 2147483648 := ⟨by decide +kernel, by decide, by decide⟩
theorem ar_99 : lay 99 = (100, 20) ∧ 99 < 121 ∧ 20 < 2147483648 := ⟨by decide +kernel, by decide, by decide⟩
theorem ar_100 : lay 100 = (100, 20) ∧ 100 < 121 ∧ 20 < 2147483648 := ⟨by decide +kernel, by decide, by decide⟩
theorem ar_101 : lay 101 = (100, 8) ∧ 101 < 121 ∧ 8 < 2147483648 := ⟨by decide +kernel, by decide, by decide⟩
theorem ar_102 : lay 102 = (100, 360) ∧ 102 < 121 ∧ 360 < 2147483648 := ⟨by decide +kernel, by decide, by decide⟩
theorem ar_103 : lay 103 = (102, 1000) ∧ 103 < 121 ∧ 1000 < 2147483648 := ⟨by decide +kernel, by decide, by decide⟩
theorem ar_104 : lay 104 = (100, 251) ∧ 104 < 121 ∧ 251 < 2147483648 := ⟨by decide +kernel, by decide, by decide⟩
theorem ar_105 : lay 105 = (100, 251) ∧ 105 < 121 ∧ 251 < 2147483648 := ⟨by decide +kernel, by decide, by decide⟩
theorem ar_106 : lay 106 = (100, 251) ∧ 106 < 121 ∧ 251 < 2147483648 := ⟨by decide +kernel, by decide, by decide⟩
theorem ar_107 : lay 107 = (100, 251) ∧ 107 < 121 ∧ 251 < 2147483648 := ⟨by decide +kernel, by decide, by decide⟩
theorem ar_108 : lay 108 = (100, 251) ∧ 108 < 121 ∧ 251 < 2147483648 := ⟨by decide +kernel, by decide, by decide⟩
theorem ar_109 : lay 109 = (100, 251) ∧ 109 < 121 ∧ 251 < 2147483648 := ⟨by decide +kernel, by decide, by decide⟩
theorem ar_110 : lay 110 = (100, 90) ∧ 110 < 121 ∧ 90 < 2147483648 := ⟨by decide +kernel, by decide, by decide⟩
theorem ar_111 : lay 111 = (102, 30) ∧ 111 < 121 ∧ 30 < 2147483648 := ⟨by decide +kernel, by decide, by decide⟩
theorem ar_112 : lay 112 = (101, 32) ∧ 112 < 121 ∧ 32 < 2147483648 := ⟨by decide +kernel, by decide, by decide⟩
theorem ar_113 : lay 113 = (100, 1800) ∧ 113 < 121 ∧ 1800 < 2147483648 := ⟨by decide +kernel, by decide, by decide⟩
theorem ar_114 : lay 114 = (100, 30) ∧ 114 < 121 ∧ 30 < 2147483648 := ⟨by decide +kernel, by decide, by decide⟩
theorem ar_115 : lay 115 = (100, 30) ∧ 115 < 121 ∧ 30 < 2147483648 := ⟨by decide +kernel, by decide, by decide⟩
theorem ar_116 : lay 116 = (100, 10) ∧ 116 < 121 ∧ 10 < 2147483648 := ⟨by decide +kernel, by decide, by decide⟩
theorem ar_117 : lay 117 = (101, 800) ∧ 117 < 121 ∧ 800 < 2147483648 := ⟨by decide +kernel, by decide, by decide⟩
theorem ar_118 : lay 118 = (100, 150) ∧ 118 < 121 ∧ 150 < 2147483648 := ⟨by decide +kernel, by decide, by decide⟩
theorem ar_119 : lay 119 = (100, 25) ∧ 119 < 121 ∧ 25 < 2147483648 := ⟨by decide +kernel, by decide, by decide⟩
theorem ar_120 : lay 120 = (100, 25) ∧ 120 < 121 ∧ 25 < 2147483648 := ⟨by decide +kernel, by decide, by decide⟩
def rtL : List (Nat × Nat × Nat) := [(0, 0, 20), (0, 1, 1), (0, 2, 8), (0, 3, 10), (0, 4, 13), (0, 5, 18), (0, 6, 32), (0, 7, 38), (1, 1, 2), (1, 2, 3), (1, 3, 4), (1, 4, 5), (1, 5, 6), (1, 6, 7), (8, 0, 9), (10, 0, 1), (10, 1, 8), (10, 2, 11), (10, 3, 12), (13, 0, 1), (13, 1, 14), (13, 2, 15), (13, 3, 16), (13, 5, 17), (18, 0, 10), (18, 1, 13), (18, 2, 19), (20, 0, 31), (20, 1, 21), (21, 7, 22), (21, 8, 23), (21, 9, 24), (21, 10, 25), (21, 11, 26), (21, 12, 27), (21, 13, 28), (21, 14, 29), (21, 15, 30), (32, 2, 33), (32, 3, 34), (32, 4, 35), (32, 5, 36), (32, 6, 37), (38, 7, 39), (38, 8, 40), (38, 9, 41), (38, 10, 42), (38, 11, 43), (38, 12, 44), (38, 13, 45), (38, 14, 46), (38, 15, 47), (48, 0, 49), (48, 9, 50), (48, 10, 51), (48, 11, 52), (48, 12, 53), (48, 13, 54), (48, 14, 55), (48, 15, 56), (48, 16, 57), (48, 17, 58), (48, 18, 59), (48, 19, 60), (48, 20, 61), (48, 21, 62), (48, 22, 63), (48, 23, 64), (48, 24, 65), (48, 25, 66), (48, 26, 67), (48, 27, 68), (48, 28, 69), (48, 29, 70), (48, 30, 71), (48, 31, 72), (48, 32, 73), (48, 33, 74), (48, 34, 75), (48, 35, 76), (48, 36, 77), (48, 37, 78), (48, 38, 79), (48, 39, 80), (48, 40, 81), (48, 42, 82), (48, 44, 83), (48, 49, 84), (48, 51, 85), (48, 52, 86), (48, 53, 87), (48, 54, 88), (48, 55, 89), (48, 56, 90), (48, 57, 91), (48, 62, 92), (48, 63, 93), (48, 67, 94), (48, 68, 95), (48, 69, 96), (48, 70, 97), (48, 71, 98), (48, 72, 99), (48, 73, 100), (48, 78, 101), (48, 82, 102), (48, 83, 103), (48, 85, 104), (48, 86, 105), (48, 87, 106), (48, 88, 107), (48, 89, 108), (48, 90, 109), (48, 93, 110), (48, 99, 111), (48, 100, 112), (48, 101, 113), (48, 102, 114), (48, 103, 115), (48, 105, 116), (48, 106, 117), (48, 110, 118), (48, 111, 119), (48, 112, 120)]
def rs : Rt := fun c i => (rtL.find? (fun q => q.1 == c && q.2.1 == i)).map (fun q => q.2.2)
theorem rs_0_0 : rs 0 0 = some 20 := by decide +kernel
theorem rs_0_1 : rs 0 1 = some 1 := by decide +kernel
theorem rs_0_2 : rs 0 2 = some 8 := by decide +kernel
theorem rs_0_3 : rs 0 3 = some 10 := by decide +kernel
theorem rs_0_4 : rs 0 4 = some 13 := by decide +kernel
theorem rs_0_5 : rs 0 5 = some 18 := by decide +kernel
theorem rs_0_6 : rs 0 6 = some 32 := by decide +kernel
theorem rs_0_7 : rs 0 7 = some 38 := by decide +kernel
theorem rs_1_1 : rs 1 1 = some 2 := by decide +kernel
theorem rs_1_2 : rs 1 2 = some 3 := by decide +kernel
theorem rs_1_3 : rs 1 3 = some 4 := by decide +kernel
theorem rs_1_4 : rs 1 4 = some 5 := by decide +kernel
theorem rs_1_5 : rs 1 5 = some 6 := by decide +kernel
theorem rs_1_6 : rs 1 6 = some 7 := by decide +kernel
theorem rs_8_0 : rs 8 0 = some 9 := by decide +kernel
theorem rs_10_0 : rs 10 0 = some 1 := by decide +kernel
theorem rs_10_1 : rs 10 1 = some 8 := by decide +kernel
theorem rs_10_2 : rs 10 2 = some 11 := by decide +kernel
theorem rs_10_3 : rs 10 3 = some 12 := by decide +kernel
theorem rs_13_0 : rs 13 0 = some 1 := by decide +kernel
theorem rs_13_1 : rs 13 1 = some 14 := by decide +kernel
theorem rs_13_2 : rs 13 2 = some 15 := by decide +kernel
theorem rs_13_3 : rs 13 3 = some 16 := by decide +kernel
theorem rs_13_5 : rs 13 5 = some 17 := by decide +kernel
theorem rs_18_0 : rs 18 0 = some 10 := by decide +kernel
theorem rs_18_1 : rs 18 1 = some 13 := by decide +kernel
theorem rs_18_2 : rs 18 2 = some 19 := by decide +kernel
theorem rs_20_0 : rs 20 0 = some 31 := by decide +kernel
theorem rs_20_1 : rs 20 1 = some 21 := by decide +kernel
theorem rs_21_7 : rs 21 7 = some 22 := by decide +kernel
theorem rs_21_8 : rs 21 8 = some 23 := by decide +kernel
theorem rs_21_9 : rs 21 9 = some 24 := by decide +kernel
theorem rs_21_10 : rs 21 10 = some 25 := by decide +kernel
theorem rs_21_11 : rs 21 11 = some 26 := by decide +kernel
theorem rs_21_12 : rs 21 12 = some 27 := by decide +kernel
theorem rs_21_13 : rs 21 13 = some 28 := by decide +kernel
theorem rs_21_14 : rs 21 14 = some 29 := by decide +kernel
theorem rs_21_15 : rs 21 15 = some 30 := by decide +kernel
theorem rs_32_2 : rs 32 2 = some 33 := by decide +kernel
theorem rs_32_3 : rs 32 3 = some 34 := by decide +kernel
theorem rs_32_4 : rs 32 4 = some 35 := by decide +kernel
theorem rs_32_5 : rs 32 5 = some 36 := by decide +kernel
theorem rs_32_6 : rs 32 6 = some 37 := by decide +kernel
theorem rs_38_7 : rs 38 7 = some 39 := by decide +kernel
theorem rs_38_8 : rs 38 8 = some 40 := by decide +kernel
theorem rs_38_9 : rs 38 9 = some 41 := by decide +kernel
theorem rs_38_10 : rs 38 10 = some 42 := by decide +kernel
theorem rs_38_11 : rs 38 11 = some 43 := by decide +kernel
theorem rs_38_12 : rs 38 12 = some 44 := by decide +kernel
theorem rs_38_13 : rs 38 13 = some 45 := by decide +kernel
theorem rs_38_14 : rs 38 14 = some 46 := by decide +kernel
theorem rs_38_15 : rs 38 15 = some 47 := by decide +kernel
theorem rs_48_0 : rs 48 0 = some 49 := by decide +kernel
theorem rs_48_9 : rs 48 9 = some 50 := by decide +kernel
theorem rs_48_10 : rs 48 10 = some 51 := by decide +kernel
theorem rs_48_11 : rs 48 11 = some 52 := by decide +kernel
theorem rs_48_12 : rs 48 12 = some 53 := by decide +kernel
theorem rs_48_13 : rs 48 13 = some 54 := by decide +kernel
theorem rs_48_14 : rs 48 14 = some 55 := by decide +kernel
theorem rs_48_15 : rs 48 15 = some 56 := by decide +kernel
theorem rs_48_16 : rs 48 16 = some 57 := by decide +kernel
theorem rs_48_17 : rs 48 17 = some 58 := by decide +kernel
theorem rs_48_18 : rs 48 18 = some 59 := by decide +kernel
theorem rs_48_19 : rs 48 19 = some 60 := by decide +kernel
theorem rs_48_20 : rs 48 20 = some 61 := by decide +kernel
theorem rs_48_21 : rs 48 21 = some 62 := by decide +kernel
theorem rs_48_22 : rs 48 22 = some 63 := by decide +kernel
theorem rs_48_23 : rs 48 23 = some 64 := by decide +kernel
theorem rs_48_24 : rs 48 24 = some 65 := by decide +kernel
theorem rs_48_25 : rs 48 25 = some 66 := by decide +kernel
theorem rs_48_26 : rs 48 26 = some 67 := by decide +kernel
theorem rs_48_27 : rs 48 27 = some 68 := by decide +kernel
theorem rs_48_28 : rs 48 28 = some 69 := by decide +kernel
theorem rs_48_29 : rs 48 29 = some 70 := by decide +kernel
theorem rs_48_30 : rs 48 30 = some 71 := by decide +kernel
theorem rs_48_31 : rs 48 31 = some 72 := by decide +kernel
theorem rs_48_32 : rs 48 32 = some 73 := by decide +kernel
theorem rs_48_33 : rs 48 33 = some 74 := by decide +kernel
theorem rs_48_34 : rs 48 34 = some 75 := by decide +kernel
theorem rs_48_35 : rs 48 35 = some 76 := by decide +kernel
theorem rs_48_36 : rs 48 36 = some 77 := by decide +kernel
theorem rs_48_37 : rs 48 37 = some 78 := by decide +kernel
theorem rs_48_38 : rs 48 38 = some 79 := by decide +kernel
theorem rs_48_39 : rs 48 39 = some 80 := by decide +kernel
theorem rs_48_40 : rs 48 40 = some 81 := by decide +kernel
theorem rs_48_42 : rs 48 42 = some 82 := by decide +kernel
theorem rs_48_44 : rs 48 44 = some 83 := by decide +kernel
theorem rs_48_49 : rs 48 49 = some 84 := by decide +kernel
theorem rs_48_51 : rs 48 51 = some 85 := by decide +kernel
theorem rs_48_52 : rs 48 52 = some 86 := by decide +kernel
theorem rs_48_53 : rs 48 53 = some 87 := by decide +kernel
theorem rs_48_54 : rs 48 54 = some 88 := by decide +kernel
theorem rs_48_55 : rs 48 55 = some 89 := by decide +kernel
theorem rs_48_56 : rs 48 56 = some 90 := by decide +kernel
theorem rs_48_57 : rs 48 57 = some 91 := by decide +kernel
theorem rs_48_62 : rs 48 62 = some 92 := by decide +kernel
theorem rs_48_63 : rs 48 63 = some 93 := by decide +kernel
theorem rs_48_67 : rs 48 67 = some 94 := by decide +kernel
theorem rs_48_68 : rs 48 68 = some 95 := by decide +kernel
theorem rs_48_69 : rs 48 69 = some 96 := by decide +kernel
theorem rs_48_70 : rs 48 70 = some 97 := by decide +kernel
theorem rs_48_71 : rs 48 71 = some 98 := by decide +kernel
theorem rs_48_72 : rs 48 72 = some 99 := by decide +kernel
theorem rs_48_73 : rs 48 73 = some 100 := by decide +kernel
theorem rs_48_78 : rs 48 78 = some 101 := by decide +kernel
theorem rs_48_82 : rs 48 82 = some 102 := by decide +kernel
theorem rs_48_83 : rs 48 83 = some 103 := by decide +kernel
theorem rs_48_85 : rs 48 85 = some 104 := by decide +kernel
theorem rs_48_86 : rs 48 86 = some 105 := by decide +kernel
theorem rs_48_87 : rs 48 87 = some 106 := by decide +kernel
theorem rs_48_88 : rs 48 88 = some 107 := by decide +kernel
theorem rs_48_89 : rs 48 89 = some 108 := by decide +kernel
theorem rs_48_90 : rs 48 90 = some 109 := by decide +kernel
theorem rs_48_93 : rs 48 93 = some 110 := by decide +kernel
theorem rs_48_99 : rs 48 99 = some 111 := by decide +kernel
theorem rs_48_100 : rs 48 100 = some 112 := by decide +kernel
theorem rs_48_101 : rs 48 101 = some 113 := by decide +kernel
theorem rs_48_102 : rs 48 102 = some 114 := by decide +kernel
theorem rs_48_103 : rs 48 103 = some 115 := by decide +kernel
theorem rs_48_105 : rs 48 105 = some 116 := by decide +kernel
theorem rs_48_106 : rs 48 106 = some 117 := by decide +kernel
theorem rs_48_110 : rs 48 110 = some 118 := by decide +kernel
theorem rs_48_111 : rs 48 111 = some 119 := by decide +kernel
theorem rs_48_112 : rs 48 112 = some 120 := by decide +kernel
theorem ft_0_0 : (∃ n, fty 0 0 = .object n) ∨ ∃ n, fty 0 0 = .array n := Or.inr ⟨_, rfl⟩
theorem ft_1_0 : (∃ n, fty 1 0 = .object n) ∨ ∃ n, fty 1 0 = .array n := Or.inl ⟨_, rfl⟩
theorem ft_1_1 : (∃ n, fty 1 1 = .object n) ∨ ∃ n, fty 1 1 = .array n := Or.inl ⟨_, rfl⟩
theorem ft_1_2 : (∃ n, fty 1 2 = .object n) ∨ ∃ n, fty 1 2 = .array n := Or.inr ⟨_, rfl⟩
theorem ft_1_3 : fty 1 3 = .int := rfl
theorem ft_2_0 : fty 2 0 = .int := rfl
theorem ft_2_1 : (∃ n, fty 2 1 = .object n) ∨ ∃ n, fty 2 1 = .array n := Or.inr ⟨_, rfl⟩
theorem ft_2_2 : (∃ n, fty 2 2 = .object n) ∨ ∃ n, fty 2 2 = .array n := Or.inr ⟨_, rfl⟩
theorem ft_2_3 : (∃ n, fty 2 3 = .object n) ∨ ∃ n, fty 2 3 = .array n := Or.inr ⟨_, rfl⟩
theorem ft_2_4 : (∃ n, fty 2 4 = .object n) ∨ ∃ n, fty 2 4 = .array n := Or.inr ⟨_, rfl⟩
theorem ft_2_5 : (∃ n, fty 2 5 = .object n) ∨ ∃ n, fty 2 5 = .array n := Or.inr ⟨_, rfl⟩
theorem ft_2_6 : (∃ n, fty 2 6 = .object n) ∨ ∃ n, fty 2 6 = .array n := Or.inr ⟨_, rfl⟩
theorem ft_3_0 : fty 3 0 = .int := rfl
theorem ft_3_1 : fty 3 1 = .int := rfl
theorem ft_3_2 : fty 3 2 = .int := rfl
theorem ft_3_3 : fty 3 3 = .int := rfl
theorem ft_3_4 : fty 3 4 = .boolean := rfl
theorem ft_3_5 : fty 3 5 = .int := rfl
theorem ft_3_6 : fty 3 6 = .int := rfl
theorem ft_3_7 : (∃ n, fty 3 7 = .object n) ∨ ∃ n, fty 3 7 = .array n := Or.inr ⟨_, rfl⟩
theorem ft_3_8 : (∃ n, fty 3 8 = .object n) ∨ ∃ n, fty 3 8 = .array n := Or.inr ⟨_, rfl⟩
theorem ft_3_9 : (∃ n, fty 3 9 = .object n) ∨ ∃ n, fty 3 9 = .array n := Or.inr ⟨_, rfl⟩
theorem ft_3_10 : (∃ n, fty 3 10 = .object n) ∨ ∃ n, fty 3 10 = .array n := Or.inr ⟨_, rfl⟩
theorem ft_3_11 : (∃ n, fty 3 11 = .object n) ∨ ∃ n, fty 3 11 = .array n := Or.inr ⟨_, rfl⟩
theorem ft_3_12 : (∃ n, fty 3 12 = .object n) ∨ ∃ n, fty 3 12 = .array n := Or.inr ⟨_, rfl⟩
theorem ft_3_13 : (∃ n, fty 3 13 = .object n) ∨ ∃ n, fty 3 13 = .array n := Or.inr ⟨_, rfl⟩
theorem ft_3_14 : (∃ n, fty 3 14 = .object n) ∨ ∃ n, fty 3 14 = .array n := Or.inr ⟨_, rfl⟩
theorem ft_3_15 : (∃ n, fty 3 15 = .object n) ∨ ∃ n, fty 3 15 = .array n := Or.inr ⟨_, rfl⟩
theorem ft_4_0 : (∃ n, fty 4 0 = .object n) ∨ ∃ n, fty 4 0 = .array n := Or.inr ⟨_, rfl⟩
theorem ft_4_1 : (∃ n, fty 4 1 = .object n) ∨ ∃ n, fty 4 1 = .array n := Or.inl ⟨_, rfl⟩
theorem ft_4_2 : fty 4 2 = .int := rfl
theorem ft_4_3 : fty 4 3 = .int := rfl
theorem ft_4_4 : fty 4 4 = .int := rfl
theorem ft_4_5 : fty 4 5 = .int := rfl
theorem ft_4_6 : fty 4 6 = .int := rfl
theorem ft_4_7 : fty 4 7 = .int := rfl
theorem ft_4_8 : fty 4 8 = .int := rfl
theorem ft_4_9 : fty 4 9 = .int := rfl
theorem ft_5_0 : (∃ n, fty 5 0 = .object n) ∨ ∃ n, fty 5 0 = .array n := Or.inl ⟨_, rfl⟩
theorem ft_5_1 : (∃ n, fty 5 1 = .object n) ∨ ∃ n, fty 5 1 = .array n := Or.inr ⟨_, rfl⟩
theorem ft_5_2 : (∃ n, fty 5 2 = .object n) ∨ ∃ n, fty 5 2 = .array n := Or.inr ⟨_, rfl⟩
theorem ft_5_3 : (∃ n, fty 5 3 = .object n) ∨ ∃ n, fty 5 3 = .array n := Or.inr ⟨_, rfl⟩
theorem ft_5_4 : fty 5 4 = .boolean := rfl
theorem ft_5_5 : (∃ n, fty 5 5 = .object n) ∨ ∃ n, fty 5 5 = .array n := Or.inr ⟨_, rfl⟩
theorem ft_6_0 : fty 6 0 = .int := rfl
theorem ft_6_1 : fty 6 1 = .int := rfl
theorem ft_6_2 : (∃ n, fty 6 2 = .object n) ∨ ∃ n, fty 6 2 = .array n := Or.inr ⟨_, rfl⟩
theorem ft_6_3 : (∃ n, fty 6 3 = .object n) ∨ ∃ n, fty 6 3 = .array n := Or.inr ⟨_, rfl⟩
theorem ft_6_4 : (∃ n, fty 6 4 = .object n) ∨ ∃ n, fty 6 4 = .array n := Or.inr ⟨_, rfl⟩
theorem ft_6_5 : (∃ n, fty 6 5 = .object n) ∨ ∃ n, fty 6 5 = .array n := Or.inr ⟨_, rfl⟩
theorem ft_6_6 : (∃ n, fty 6 6 = .object n) ∨ ∃ n, fty 6 6 = .array n := Or.inr ⟨_, rfl⟩
theorem ft_7_0 : (∃ n, fty 7 0 = .object n) ∨ ∃ n, fty 7 0 = .array n := Or.inl ⟨_, rfl⟩
theorem ft_7_1 : (∃ n, fty 7 1 = .object n) ∨ ∃ n, fty 7 1 = .array n := Or.inl ⟨_, rfl⟩
theorem ft_7_2 : (∃ n, fty 7 2 = .object n) ∨ ∃ n, fty 7 2 = .array n := Or.inr ⟨_, rfl⟩
theorem ft_7_3 : (∃ n, fty 7 3 = .object n) ∨ ∃ n, fty 7 3 = .array n := Or.inr ⟨_, rfl⟩
theorem ft_7_4 : fty 7 4 = .int := rfl
theorem ft_7_5 : fty 7 5 = .int := rfl
theorem ft_7_6 : fty 7 6 = .int := rfl
theorem ft_7_7 : fty 7 7 = .int := rfl
theorem ft_7_8 : fty 7 8 = .int := rfl
theorem ft_7_9 : fty 7 9 = .int := rfl
theorem ft_7_10 : fty 7 10 = .int := rfl
theorem ft_8_0 : (∃ n, fty 8 0 = .object n) ∨ ∃ n, fty 8 0 = .array n := Or.inl ⟨_, rfl⟩
theorem ft_8_1 : (∃ n, fty 8 1 = .object n) ∨ ∃ n, fty 8 1 = .array n := Or.inl ⟨_, rfl⟩
theorem ft_8_2 : (∃ n, fty 8 2 = .object n) ∨ ∃ n, fty 8 2 = .array n := Or.inl ⟨_, rfl⟩
theorem ft_8_3 : (∃ n, fty 8 3 = .object n) ∨ ∃ n, fty 8 3 = .array n := Or.inl ⟨_, rfl⟩
theorem ft_8_4 : (∃ n, fty 8 4 = .object n) ∨ ∃ n, fty 8 4 = .array n := Or.inl ⟨_, rfl⟩
theorem ft_8_5 : (∃ n, fty 8 5 = .object n) ∨ ∃ n, fty 8 5 = .array n := Or.inl ⟨_, rfl⟩
theorem ft_8_6 : (∃ n, fty 8 6 = .object n) ∨ ∃ n, fty 8 6 = .array n := Or.inl ⟨_, rfl⟩
theorem ft_8_7 : (∃ n, fty 8 7 = .object n) ∨ ∃ n, fty 8 7 = .array n := Or.inl ⟨_, rfl⟩
theorem ft_8_8 : fty 8 8 = .boolean := rfl
theorem ft_8_9 : fty 8 9 = .boolean := rfl
theorem ft_8_10 : fty 8 10 = .int := rfl
theorem ft_9_0 : (∃ n, fty 9 0 = .object n) ∨ ∃ n, fty 9 0 = .array n := Or.inr ⟨_, rfl⟩
theorem ft_9_1 : fty 9 1 = .int := rfl
theorem ft_9_2 : fty 9 2 = .int := rfl
theorem ft_9_3 : fty 9 3 = .int := rfl
theorem ft_9_4 : fty 9 4 = .int := rfl
theorem ft_9_5 : fty 9 5 = .int := rfl
theorem ft_9_6 : fty 9 6 = .int := rfl
theorem ft_9_7 : fty 9 7 = .int := rfl
theorem ft_9_8 : fty 9 8 = .int := rfl
theorem ft_9_9 : (∃ n, fty 9 9 = .object n) ∨ ∃ n, fty 9 9 = .array n := Or.inr ⟨_, rfl⟩
theorem ft_9_10 : (∃ n, fty 9 10 = .object n) ∨ ∃ n, fty 9 10 = .array n := Or.inr ⟨_, rfl⟩
theorem ft_9_11 : (∃ n, fty 9 11 = .object n) ∨ ∃ n, fty 9 11 = .array n := Or.inr ⟨_, rfl⟩
theorem ft_9_12 : (∃ n, fty 9 12 = .object n) ∨ ∃ n, fty 9 12 = .array n := Or.inr ⟨_, rfl⟩
theorem ft_9_13 : (∃ n, fty 9 13 = .object n) ∨ ∃ n, fty 9 13 = .array n := Or.inr ⟨_, rfl⟩
theorem ft_9_14 : (∃ n, fty 9 14 = .object n) ∨ ∃ n, fty 9 14 = .array n := Or.inr ⟨_, rfl⟩
theorem ft_9_15 : (∃ n, fty 9 15 = .object n) ∨ ∃ n, fty 9 15 = .array n := Or.inr ⟨_, rfl⟩
theorem ft_9_16 : (∃ n, fty 9 16 = .object n) ∨ ∃ n, fty 9 16 = .array n := Or.inr ⟨_, rfl⟩
theorem ft_9_17 : (∃ n, fty 9 17 = .object n) ∨ ∃ n, fty 9 17 = .array n := Or.inr ⟨_, rfl⟩
theorem ft_9_18 : (∃ n, fty 9 18 = .object n) ∨ ∃ n, fty 9 18 = .array n := Or.inr ⟨_, rfl⟩
theorem ft_9_19 : (∃ n, fty 9 19 = .object n) ∨ ∃ n, fty 9 19 = .array n := Or.inr ⟨_, rfl⟩
theorem ft_9_20 : (∃ n, fty 9 20 = .object n) ∨ ∃ n, fty 9 20 = .array n := Or.inr ⟨_, rfl⟩
theorem ft_9_21 : (∃ n, fty 9 21 = .object n) ∨ ∃ n, fty 9 21 = .array n := Or.inr ⟨_, rfl⟩
theorem ft_9_22 : (∃ n, fty 9 22 = .object n) ∨ ∃ n, fty 9 22 = .array n := Or.inr ⟨_, rfl⟩
theorem ft_9_23 : (∃ n, fty 9 23 = .object n) ∨ ∃ n, fty 9 23 = .array n := Or.inr ⟨_, rfl⟩
theorem ft_9_24 : (∃ n, fty 9 24 = .object n) ∨ ∃ n, fty 9 24 = .array n := Or.inr ⟨_, rfl⟩
theorem ft_9_25 : (∃ n, fty 9 25 = .object n) ∨ ∃ n, fty 9 25 = .array n := Or.inr ⟨_, rfl⟩
theorem ft_9_26 : (∃ n, fty 9 26 = .object n) ∨ ∃ n, fty 9 26 = .array n := Or.inr ⟨_, rfl⟩
theorem ft_9_27 : (∃ n, fty 9 27 = .object n) ∨ ∃ n, fty 9 27 = .array n := Or.inr ⟨_, rfl⟩
theorem ft_9_28 : (∃ n, fty 9 28 = .object n) ∨ ∃ n, fty 9 28 = .array n := Or.inr ⟨_, rfl⟩
theorem ft_9_29 : (∃ n, fty 9 29 = .object n) ∨ ∃ n, fty 9 29 = .array n := Or.inr ⟨_, rfl⟩
theorem ft_9_30 : (∃ n, fty 9 30 = .object n) ∨ ∃ n, fty 9 30 = .array n := Or.inr ⟨_, rfl⟩
theorem ft_9_31 : (∃ n, fty 9 31 = .object n) ∨ ∃ n, fty 9 31 = .array n := Or.inr ⟨_, rfl⟩
theorem ft_9_32 : (∃ n, fty 9 32 = .object n) ∨ ∃ n, fty 9 32 = .array n := Or.inr ⟨_, rfl⟩
theorem ft_9_33 : (∃ n, fty 9 33 = .object n) ∨ ∃ n, fty 9 33 = .array n := Or.inr ⟨_, rfl⟩
theorem ft_9_34 : (∃ n, fty 9 34 = .object n) ∨ ∃ n, fty 9 34 = .array n := Or.inr ⟨_, rfl⟩
theorem ft_9_35 : (∃ n, fty 9 35 = .object n) ∨ ∃ n, fty 9 35 = .array n := Or.inr ⟨_, rfl⟩
theorem ft_9_36 : (∃ n, fty 9 36 = .object n) ∨ ∃ n, fty 9 36 = .array n := Or.inr ⟨_, rfl⟩
theorem ft_9_37 : (∃ n, fty 9 37 = .object n) ∨ ∃ n, fty 9 37 = .array n := Or.inr ⟨_, rfl⟩
theorem ft_9_38 : (∃ n, fty 9 38 = .object n) ∨ ∃ n, fty 9 38 = .array n := Or.inr ⟨_, rfl⟩
theorem ft_9_39 : (∃ n, fty 9 39 = .object n) ∨ ∃ n, fty 9 39 = .array n := Or.inr ⟨_, rfl⟩
theorem ft_9_40 : (∃ n, fty 9 40 = .object n) ∨ ∃ n, fty 9 40 = .array n := Or.inr ⟨_, rfl⟩
theorem ft_9_41 : fty 9 41 = .int := rfl
theorem ft_9_42 : (∃ n, fty 9 42 = .object n) ∨ ∃ n, fty 9 42 = .array n := Or.inr ⟨_, rfl⟩
theorem ft_9_43 : fty 9 43 = .int := rfl
theorem ft_9_44 : (∃ n, fty 9 44 = .object n) ∨ ∃ n, fty 9 44 = .array n := Or.inr ⟨_, rfl⟩
theorem ft_9_45 : fty 9 45 = .int := rfl
theorem ft_9_46 : fty 9 46 = .int := rfl
theorem ft_9_47 : fty 9 47 = .int := rfl
theorem ft_9_48 : fty 9 48 = .int := rfl
theorem ft_9_49 : (∃ n, fty 9 49 = .object n) ∨ ∃ n, fty 9 49 = .array n := Or.inr ⟨_, rfl⟩
theorem ft_9_50 : fty 9 50 = .int := rfl
theorem ft_9_51 : (∃ n, fty 9 51 = .object n) ∨ ∃ n, fty 9 51 = .array n := Or.inr ⟨_, rfl⟩
theorem ft_9_52 : (∃ n, fty 9 52 = .object n) ∨ ∃ n, fty 9 52 = .array n := Or.inr ⟨_, rfl⟩
theorem ft_9_53 : (∃ n, fty 9 53 = .object n) ∨ ∃ n, fty 9 53 = .array n := Or.inr ⟨_, rfl⟩
theorem ft_9_54 : (∃ n, fty 9 54 = .object n) ∨ ∃ n, fty 9 54 = .array n := Or.inr ⟨_, rfl⟩
theorem ft_9_55 : (∃ n, fty 9 55 = .object n) ∨ ∃ n, fty 9 55 = .array n := Or.inr ⟨_, rfl⟩
theorem ft_9_56 : (∃ n, fty 9 56 = .object n) ∨ ∃ n, fty 9 56 = .array n := Or.inr ⟨_, rfl⟩
theorem ft_9_57 : (∃ n, fty 9 57 = .object n) ∨ ∃ n, fty 9 57 = .array n := Or.inr ⟨_, rfl⟩
theorem ft_9_58 : fty 9 58 = .int := rfl
theorem ft_9_59 : fty 9 59 = .boolean := rfl
theorem ft_9_60 : fty 9 60 = .int := rfl
theorem ft_9_61 : fty 9 61 = .int := rfl
theorem ft_9_62 : (∃ n, fty 9 62 = .object n) ∨ ∃ n, fty 9 62 = .array n := Or.inr ⟨_, rfl⟩
theorem ft_9_63 : (∃ n, fty 9 63 = .object n) ∨ ∃ n, fty 9 63 = .array n := Or.inr ⟨_, rfl⟩
theorem ft_9_64 : fty 9 64 = .boolean := rfl
theorem ft_9_65 : fty 9 65 = .int := rfl
theorem ft_9_66 : fty 9 66 = .int := rfl
theorem ft_9_67 : (∃ n, fty 9 67 = .object n) ∨ ∃ n, fty 9 67 = .array n := Or.inr ⟨_, rfl⟩
theorem ft_9_68 : (∃ n, fty 9 68 = .object n) ∨ ∃ n, fty 9 68 = .array n := Or.inr ⟨_, rfl⟩
theorem ft_9_69 : (∃ n, fty 9 69 = .object n) ∨ ∃ n, fty 9 69 = .array n := Or.inr ⟨_, rfl⟩
theorem ft_9_70 : (∃ n, fty 9 70 = .object n) ∨ ∃ n, fty 9 70 = .array n := Or.inr ⟨_, rfl⟩
theorem ft_9_71 : (∃ n, fty 9 71 = .object n) ∨ ∃ n, fty 9 71 = .array n := Or.inr ⟨_, rfl⟩
theorem ft_9_72 : (∃ n, fty 9 72 = .object n) ∨ ∃ n, fty 9 72 = .array n := Or.inr ⟨_, rfl⟩
theorem ft_9_73 : (∃ n, fty 9 73 = .object n) ∨ ∃ n, fty 9 73 = .array n := Or.inr ⟨_, rfl⟩
theorem ft_9_74 : fty 9 74 = .int := rfl
theorem ft_9_75 : fty 9 75 = .boolean := rfl
theorem ft_9_76 : fty 9 76 = .int := rfl
theorem ft_9_77 : fty 9 77 = .int := rfl
theorem ft_9_78 : (∃ n, fty 9 78 = .object n) ∨ ∃ n, fty 9 78 = .array n := Or.inr ⟨_, rfl⟩
theorem ft_9_79 : fty 9 79 = .int := rfl
theorem ft_9_80 : fty 9 80 = .int := rfl
theorem ft_9_81 : fty 9 81 = .int := rfl
theorem ft_9_82 : (∃ n, fty 9 82 = .object n) ∨ ∃ n, fty 9 82 = .array n := Or.inr ⟨_, rfl⟩
theorem ft_9_83 : (∃ n, fty 9 83 = .object n) ∨ ∃ n, fty 9 83 = .array n := Or.inr ⟨_, rfl⟩
theorem ft_9_84 : fty 9 84 = .int := rfl
theorem ft_9_85 : (∃ n, fty 9 85 = .object n) ∨ ∃ n, fty 9 85 = .array n := Or.inr ⟨_, rfl⟩
theorem ft_9_86 : (∃ n, fty 9 86 = .object n) ∨ ∃ n, fty 9 86 = .array n := Or.inr ⟨_, rfl⟩
theorem ft_9_87 : (∃ n, fty 9 87 = .object n) ∨ ∃ n, fty 9 87 = .array n := Or.inr ⟨_, rfl⟩
theorem ft_9_88 : (∃ n, fty 9 88 = .object n) ∨ ∃ n, fty 9 88 = .array n := Or.inr ⟨_, rfl⟩
theorem ft_9_89 : (∃ n, fty 9 89 = .object n) ∨ ∃ n, fty 9 89 = .array n := Or.inr ⟨_, rfl⟩
theorem ft_9_90 : (∃ n, fty 9 90 = .object n) ∨ ∃ n, fty 9 90 = .array n := Or.inr ⟨_, rfl⟩
theorem ft_9_91 : fty 9 91 = .int := rfl
theorem ft_9_92 : fty 9 92 = .boolean := rfl
theorem ft_9_93 : (∃ n, fty 9 93 = .object n) ∨ ∃ n, fty 9 93 = .array n := Or.inr ⟨_, rfl⟩
theorem ft_9_94 : fty 9 94 = .int := rfl
theorem ft_9_95 : fty 9 95 = .int := rfl
theorem ft_9_96 : fty 9 96 = .int := rfl
theorem ft_9_97 : fty 9 97 = .int := rfl
theorem ft_9_98 : fty 9 98 = .int := rfl
theorem ft_9_99 : (∃ n, fty 9 99 = .object n) ∨ ∃ n, fty 9 99 = .array n := Or.inr ⟨_, rfl⟩
theorem ft_9_100 : (∃ n, fty 9 100 = .object n) ∨ ∃ n, fty 9 100 = .array n := Or.inr ⟨_, rfl⟩
theorem ft_9_101 : (∃ n, fty 9 101 = .object n) ∨ ∃ n, fty 9 101 = .array n := Or.inr ⟨_, rfl⟩
theorem ft_9_102 : (∃ n, fty 9 102 = .object n) ∨ ∃ n, fty 9 102 = .array n := Or.inr ⟨_, rfl⟩
theorem ft_9_103 : (∃ n, fty 9 103 = .object n) ∨ ∃ n, fty 9 103 = .array n := Or.inr ⟨_, rfl⟩
theorem ft_9_104 : fty 9 104 = .int := rfl
theorem ft_9_105 : (∃ n, fty 9 105 = .object n) ∨ ∃ n, fty 9 105 = .array n := Or.inr ⟨_, rfl⟩
theorem ft_9_106 : (∃ n, fty 9 106 = .object n) ∨ ∃ n, fty 9 106 = .array n := Or.inr ⟨_, rfl⟩
theorem ft_9_107 : fty 9 107 = .int := rfl
theorem ft_9_108 : fty 9 108 = .int := rfl
theorem ft_9_109 : fty 9 109 = .int := rfl
theorem ft_9_110 : (∃ n, fty 9 110 = .object n) ∨ ∃ n, fty 9 110 = .array n := Or.inr ⟨_, rfl⟩
theorem ft_9_111 : (∃ n, fty 9 111 = .object n) ∨ ∃ n, fty 9 111 = .array n := Or.inr ⟨_, rfl⟩
theorem ft_9_112 : (∃ n, fty 9 112 = .object n) ∨ ∃ n, fty 9 112 = .array n := Or.inr ⟨_, rfl⟩
