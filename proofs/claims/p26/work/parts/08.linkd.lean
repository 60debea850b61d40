def OB (c k N : Nat) : Prop := lay c = (k, N) ∧ k < 10 ∧ c < 121 ∧ ∀ q : vw_C, vwCl[k]? = some q → q.2.2 = N
theorem ob_0 : OB 0 8 11 := ⟨by decide +kernel, by decide, by decide, fun q h => by cases (Option.some.inj h : (RX8, TX8, 11) = q); rfl⟩
theorem ob_1 : OB 1 2 7 := ⟨by decide +kernel, by decide, by decide, fun q h => by cases (Option.some.inj h : (RX2, TX2, 7) = q); rfl⟩
theorem ar_2 : lay 2 = (100, 251) ∧ 2 < 121 ∧ 251 < 2147483648 := ⟨by decide +kernel, by decide, by decide⟩
theorem ar_3 : lay 3 = (100, 251) ∧ 3 < 121 ∧ 251 < 2147483648 := ⟨by decide +kernel, by decide, by decide⟩
theorem ar_4 : lay 4 = (100, 251) ∧ 4 < 121 ∧ 251 < 2147483648 := ⟨by decide +kernel, by decide, by decide⟩
theorem ar_5 : lay 5 = (100, 251) ∧ 5 < 121 ∧ 251 < 2147483648 := ⟨by decide +kernel, by decide, by decide⟩
theorem ar_6 : lay 6 = (100, 251) ∧ 6 < 121 ∧ 251 < 2147483648 := ⟨by decide +kernel, by decide, by decide⟩
theorem ar_7 : lay 7 = (100, 251) ∧ 7 < 121 ∧ 251 < 2147483648 := ⟨by decide +kernel, by decide, by decide⟩
theorem ob_8 : OB 8 0 1 := ⟨by decide +kernel, by decide, by decide, fun q h => by cases (Option.some.inj h : (RX0, TX0, 1) = q); rfl⟩
theorem ar_9 : lay 9 = (101, 31) ∧ 9 < 121 ∧ 31 < 2147483648 := ⟨by decide +kernel, by decide, by decide⟩
theorem ob_10 : OB 10 7 11 := ⟨by decide +kernel, by decide, by decide, fun q h => by cases (Option.some.inj h : (RX7, TX7, 11) = q); rfl⟩
theorem ar_11 : lay 11 = (100, 90) ∧ 11 < 121 ∧ 90 < 2147483648 := ⟨by decide +kernel, by decide, by decide⟩
theorem ar_12 : lay 12 = (102, 30) ∧ 12 < 121 ∧ 30 < 2147483648 := ⟨by decide +kernel, by decide, by decide⟩
theorem ob_13 : OB 13 5 6 := ⟨by decide +kernel, by decide, by decide, fun q h => by cases (Option.some.inj h : (RX5, TX5, 6) = q); rfl⟩
theorem ar_14 : lay 14 = (100, 1800) ∧ 14 < 121 ∧ 1800 < 2147483648 := ⟨by decide +kernel, by decide, by decide⟩
theorem ar_15 : lay 15 = (100, 30) ∧ 15 < 121 ∧ 30 < 2147483648 := ⟨by decide +kernel, by decide, by decide⟩
theorem ar_16 : lay 16 = (100, 30) ∧ 16 < 121 ∧ 30 < 2147483648 := ⟨by decide +kernel, by decide, by decide⟩
theorem ar_17 : lay 17 = (100, 10) ∧ 17 < 121 ∧ 10 < 2147483648 := ⟨by decide +kernel, by decide, by decide⟩
theorem ob_18 : OB 18 1 4 := ⟨by decide +kernel, by decide, by decide, fun q h => by cases (Option.some.inj h : (RX1, TX1, 4) = q); rfl⟩
theorem ar_19 : lay 19 = (100, 64) ∧ 19 < 121 ∧ 64 < 2147483648 := ⟨by decide +kernel, by decide, by decide⟩
theorem ob_20 : OB 20 4 10 := ⟨by decide +kernel, by decide, by decide, fun q h => by cases (Option.some.inj h : (RX4, TX4, 10) = q); rfl⟩
theorem ob_21 : OB 21 3 16 := ⟨by decide +kernel, by decide, by decide, fun q h => by cases (Option.some.inj h : (RX3, TX3, 16) = q); rfl⟩
theorem ar_22 : lay 22 = (101, 14) ∧ 22 < 121 ∧ 14 < 2147483648 := ⟨by decide +kernel, by decide, by decide⟩
theorem ar_23 : lay 23 = (102, 4) ∧ 23 < 121 ∧ 4 < 2147483648 := ⟨by decide +kernel, by decide, by decide⟩
theorem ar_24 : lay 24 = (100, 4) ∧ 24 < 121 ∧ 4 < 2147483648 := ⟨by decide +kernel, by decide, by decide⟩
theorem ar_25 : lay 25 = (100, 20) ∧ 25 < 121 ∧ 20 < 2147483648 := ⟨by decide +kernel, by decide, by decide⟩
theorem ar_26 : lay 26 = (100, 20) ∧ 26 < 121 ∧ 20 < 2147483648 := ⟨by decide +kernel, by decide, by decide⟩
theorem ar_27 : lay 27 = (100, 20) ∧ 27 < 121 ∧ 20 < 2147483648 := ⟨by decide +kernel, by decide, by decide⟩
theorem ar_28 : lay 28 = (100, 360) ∧ 28 < 121 ∧ 360 < 2147483648 := ⟨by decide +kernel, by decide, by decide⟩
theorem ar_29 : lay 29 = (100, 700) ∧ 29 < 121 ∧ 700 < 2147483648 := ⟨by decide +kernel, by decide, by decide⟩
theorem ar_30 : lay 30 = (100, 8) ∧ 30 < 121 ∧ 8 < 2147483648 := ⟨by decide +kernel, by decide, by decide⟩
theorem ar_31 : lay 31 = (103, 700) ∧ 31 < 121 ∧ 700 < 2147483648 := ⟨by decide +kernel, by decide, by decide⟩
theorem ob_32 : OB 32 6 7 := ⟨by decide +kernel, by decide, by decide, fun q h => by cases (Option.some.inj h : (RX6, TX6, 7) = q); rfl⟩
theorem ar_33 : lay 33 = (100, 150) ∧ 33 < 121 ∧ 150 < 2147483648 := ⟨by decide +kernel, by decide, by decide⟩
theorem ar_34 : lay 34 = (100, 25) ∧ 34 < 121 ∧ 25 < 2147483648 := ⟨by decide +kernel, by decide, by decide⟩
theorem ar_35 : lay 35 = (100, 25) ∧ 35 < 121 ∧ 25 < 2147483648 := ⟨by decide +kernel, by decide, by decide⟩
theorem ar_36 : lay 36 = (100, 5) ∧ 36 < 121 ∧ 5 < 2147483648 := ⟨by decide +kernel, by decide, by decide⟩
theorem ar_37 : lay 37 = (100, 5) ∧ 37 < 121 ∧ 5 < 2147483648 := ⟨by decide +kernel, by decide, by decide⟩
theorem ob_38 : OB 38 3 16 := ⟨by decide +kernel, by decide, by decide, fun q h => by cases (Option.some.inj h : (RX3, TX3, 16) = q); rfl⟩
theorem ar_39 : lay 39 = (101, 14) ∧ 39 < 121 ∧ 14 < 2147483648 := ⟨by decide +kernel, by decide, by decide⟩
theorem ar_40 : lay 40 = (102, 4) ∧ 40 < 121 ∧ 4 < 2147483648 := ⟨by decide +kernel, by decide, by decide⟩
theorem ar_41 : lay 41 = (100, 4) ∧ 41 < 121 ∧ 4 < 2147483648 := ⟨by decide +kernel, by decide, by decide⟩
theorem ar_42 : lay 42 = (100, 20) ∧ 42 < 121 ∧ 20 < 2147483648 := ⟨by decide +kernel, by decide, by decide⟩
theorem ar_43 : lay 43 = (100, 20) ∧ 43 < 121 ∧ 20 < 2147483648 := ⟨by decide +kernel, by decide, by decide⟩
theorem ar_44 : lay 44 = (100, 20) ∧ 44 < 121 ∧ 20 < 2147483648 := ⟨by decide +kernel, by decide, by decide⟩
theorem ar_45 : lay 45 = (100, 360) ∧ 45 < 121 ∧ 360 < 2147483648 := ⟨by decide +kernel, by decide, by decide⟩
theorem ar_46 : lay 46 = (100, 700) ∧ 46 < 121 ∧ 700 < 2147483648 := ⟨by decide +kernel, by decide, by decide⟩
theorem ar_47 : lay 47 = (100, 8) ∧ 47 < 121 ∧ 8 < 2147483648 := ⟨by decide +kernel, by decide, by decide⟩
theorem ob_48 : OB 48 9 113 := ⟨by decide +kernel, by decide, by decide, fun q h => by cases (Option.some.inj h : (RX9, TX9, 113) = q); rfl⟩
theorem ar_49 : lay 49 = (100, 700) ∧ 49 < 121 ∧ 700 < 2147483648 := ⟨by decide +kernel, by decide, by decide⟩
theorem ar_50 : lay 50 = (103, 7) ∧ 50 < 121 ∧ 7 < 2147483648 := ⟨by decide +kernel, by decide, by decide⟩
theorem ar_51 : lay 51 = (103, 8) ∧ 51 < 121 ∧ 8 < 2147483648 := ⟨by decide +kernel, by decide, by decide⟩
theorem ar_52 : lay 52 = (103, 7) ∧ 52 < 121 ∧ 7 < 2147483648 := ⟨by decide +kernel, by decide, by decide⟩
theorem ar_53 : lay 53 = (103, 4) ∧ 53 < 121 ∧ 4 < 2147483648 := ⟨by decide +kernel, by decide, by decide⟩
theorem ar_54 : lay 54 = (103, 4) ∧ 54 < 121 ∧ 4 < 2147483648 := ⟨by decide +kernel, by decide, by decide⟩
theorem ar_55 : lay 55 = (103, 5) ∧ 55 < 121 ∧ 5 < 2147483648 := ⟨by decide +kernel, by decide, by decide⟩
theorem ar_56 : lay 56 = (103, 2) ∧ 56 < 121 ∧ 2 < 2147483648 := ⟨by decide +kernel, by decide, by decide⟩
theorem ar_57 : lay 57 = (103, 4) ∧ 57 < 121 ∧ 4 < 2147483648 := ⟨by decide +kernel, by decide, by decide⟩
theorem ar_58 : lay 58 = (103, 4) ∧ 58 < 121 ∧ 4 < 2147483648 := ⟨by decide +kernel, by decide, by decide⟩
theorem ar_59 : lay 59 = (103, 4) ∧ 59 < 121 ∧ 4 < 2147483648 := ⟨by decide +kernel, by decide, by decide⟩
theorem ar_60 : lay 60 = (103, 4) ∧ 60 < 121 ∧ 4 < 2147483648 := ⟨by decide +kernel, by decide, by decide⟩
theorem ar_61 : lay 61 = (103, 5) ∧ 61 < 121 ∧ 5 < 2147483648 := ⟨by decide +kernel, by decide, by decide⟩
theorem ar_62 : lay 62 = (103, 3) ∧ 62 < 121 ∧ 3 < 2147483648 := ⟨by decide +kernel, by decide, by decide⟩
theorem ar_63 : lay 63 = (103, 3) ∧ 63 < 121 ∧ 3 < 2147483648 := ⟨by decide +kernel, by decide, by decide⟩
theorem ar_64 : lay 64 = (103, 9) ∧ 64 < 121 ∧ 9 < 2147483648 := ⟨by decide +kernel, by decide, by decide⟩
theorem ar_65 : lay 65 = (103, 5) ∧ 65 < 121 ∧ 5 < 2147483648 := ⟨by decide +kernel, by decide, by decide⟩
theorem ar_66 : lay 66 = (103, 4) ∧ 66 < 121 ∧ 4 < 2147483648 := ⟨by decide +kernel, by decide, by decide⟩
theorem ar_67 : lay 67 = (103, 2) ∧ 67 < 121 ∧ 2 < 2147483648 := ⟨by decide +kernel, by decide, by decide⟩
theorem ar_68 : lay 68 = (103, 3) ∧ 68 < 121 ∧ 3 < 2147483648 := ⟨by decide +kernel, by decide, by decide⟩
theorem ar_69 : lay 69 = (103, 3) ∧ 69 < 121 ∧ 3 < 2147483648 := ⟨by decide +kernel, by decide, by decide⟩
theorem ar_70 : lay 70 = (103, 4) ∧ 70 < 121 ∧ 4 < 2147483648 := ⟨by decide +kernel, by decide, by decide⟩
theorem ar_71 : lay 71 = (103, 5) ∧ 71 < 121 ∧ 5 < 2147483648 := ⟨by decide +kernel, by decide, by decide⟩
theorem ar_72 : lay 72 = (103, 5) ∧ 72 < 121 ∧ 5 < 2147483648 := ⟨by decide +kernel, by decide, by decide⟩
theorem ar_73 : lay 73 = (103, 4) ∧ 73 < 121 ∧ 4 < 2147483648 := ⟨by decide +kernel, by decide, by decide⟩
theorem ar_74 : lay 74 = (103, 6) ∧ 74 < 121 ∧ 6 < 2147483648 := ⟨by decide +kernel, by decide, by decide⟩
theorem ar_75 : lay 75 = (103, 5) ∧ 75 < 121 ∧ 5 < 2147483648 := ⟨by decide +kernel, by decide, by decide⟩
theorem ar_76 : lay 76 = (103, 4) ∧ 76 < 121 ∧ 4 < 2147483648 := ⟨by decide +kernel, by decide, by decide⟩
theorem ar_77 : lay 77 = (103, 4) ∧ 77 < 121 ∧ 4 < 2147483648 := ⟨by decide +kernel, by decide, by decide⟩
theorem ar_78 : lay 78 = (103, 5) ∧ 78 < 121 ∧ 5 < 2147483648 := ⟨by decide +kernel, by decide, by decide⟩
theorem ar_79 : lay 79 = (103, 3) ∧ 79 < 121 ∧ 3 < 2147483648 := ⟨by decide +kernel, by decide, by decide⟩
theorem ar_80 : lay 80 = (103, 3) ∧ 80 < 121 ∧ 3 < 2147483648 := ⟨by decide +kernel, by decide, by decide⟩
theorem ar_81 : lay 81 = (103, 7) ∧ 81 < 121 ∧ 7 < 2147483648 := ⟨by decide +kernel, by decide, by decide⟩
theorem ar_82 : lay 82 = (100, 1600) ∧ 82 < 121 ∧ 1600 < 2147483648 := ⟨by decide +kernel, by decide, by decide⟩
theorem ar_83 : lay 83 = (100, 800) ∧ 83 < 121 ∧ 800 < 2147483648 := ⟨by decide +kernel, by decide, by decide⟩
theorem ar_84 : lay 84 = (101, 6) ∧ 84 < 121 ∧ 6 < 2147483648 := ⟨by decide +kernel, by decide, by decide⟩
theorem ar_85 : lay 85 = (102, 4) ∧ 85 < 121 ∧ 4 < 2147483648 := ⟨by decide +kernel, by decide, by decide⟩
theorem ar_86 : lay 86 = (100, 4) ∧ 86 < 121 ∧ 4 < 2147483648 := ⟨by decide +kernel, by decide, by decide⟩
theorem ar_87 : lay 87 = (100, 4) ∧ 87 < 121 ∧ 4 < 2147483648 := ⟨by decide +kernel, by decide, by decide⟩
theorem ar_88 : lay 88 = (100, 4) ∧ 88 < 121 ∧ 4 < 2147483648 := ⟨by decide +kernel, by decide, by decide⟩
theorem ar_89 : lay 89 = (100, 20) ∧ 89 < 121 ∧ 20 < 2147483648 := ⟨by decide +kernel, by decide, by decide⟩
theorem ar_90 : lay 90 = (100, 20) ∧ 90 < 121 ∧ 20 < 2147483648 := ⟨by decide +kernel, by decide, by decide⟩
theorem ar_91 : lay 91 = (100, 20) ∧ 91 < 121 ∧ 20 < 2147483648 := ⟨by decide +kernel, by decide, by decide⟩
theorem ar_92 : lay 92 = (101, 8) ∧ 92 < 121 ∧ 8 < 2147483648 := ⟨by decide +kernel, by decide, by decide⟩
theorem ar_93 : lay 93 = (100, 8) ∧ 93 < 121 ∧ 8 < 2147483648 := ⟨by decide +kernel, by decide, by decide⟩
theorem ar_94 : lay 94 = (102, 4) ∧ 94 < 121 ∧ 4 < 2147483648 := ⟨by decide +kernel, by decide, by decide⟩
theorem ar_95 : lay 95 = (100, 4) ∧ 95 < 121 ∧ 4 < 2147483648 := ⟨by decide +kernel, by decide, by decide⟩
theorem ar_96 : lay 96 = (100, 4) ∧ 96 < 121 ∧ 4 < 2147483648 := ⟨by decide +kernel, by decide, by decide⟩
theorem ar_97 : lay 97 = (100, 4) ∧ 97 < 121 ∧ 4 < 2147483648 := ⟨by decide +kernel, by decide, by decide⟩
theorem ar_98 : lay 98 = (100, 20) ∧ 98 < 121 ∧ 20 < 2147483648 := ⟨by decide +kernel, by decide, by decide⟩
theorem ar_99 : lay 99 = (100, 20) ∧ 99 < 121 ∧ 20 < 2147483648 := ⟨by decide +kernel, by decide, by decide⟩
theorem ar_100 : lay 100 = (100, 20) ∧ 100 < 121 ∧ 20 < 2147483648 := ⟨by decide +kernel, by decide, by decide⟩
theorem ar_101 : lay 101 = (100, 8) ∧ 101 < 121 ∧ 8 < 2147483648 := ⟨by decide +kernel, by decide, by decide⟩
theorem ar_102 : lay 102 = (100, 360) ∧ 102 < 121 ∧ 360 < 2147483648 := ⟨by decide +kernel, by decide, by decide⟩
theorem ar_103 : lay 103 = (102, 1000) ∧ 103 < 121 ∧ 1000 < 2147483648 := ⟨by decide +kernel, by decide, by decide⟩
theorem ar_104 : lay 104 = (100, 251) ∧ 104 < 121 ∧ 251 < 2147483648 := ⟨by decide +kernel, by decide, by decide⟩
theorem ar_105 : lay 105 = (100, 251) ∧ 105 < 121 ∧ 251 < 2147483648 := ⟨by decide +kernel, by decide, by decide⟩
theorem ar_106 : lay 106 = (100, 251) ∧ 106 < 121 ∧ 251 < 2147483648 := ⟨by decide +kernel, by decide, by decide⟩
theorem ar_107 : lay 107 = (100, 251) ∧ 107 < 121 ∧ 251 < 2147483648 := ⟨by decide +kernel, by decide, by decide⟩
theorem ar_108 : lay 108 = (100, 251) ∧ 108 < 121 ∧ 251 < 2147483648 := ⟨by decide +kernel, by decide, by decide⟩
theorem ar_109 : lay 109 = (100, 251) ∧ 109 < 121 ∧ 251 < 2147483648 := ⟨by decide +kernel, by decide, by decide⟩
theorem ar_110 : lay 110 = (100, 90) ∧ 110 < 121 ∧ 90 < 2147483648 := ⟨by decide +kernel, by decide, by decide⟩
theorem ar_111 : lay 111 = (102, 30) ∧ 111 < 121 ∧ 30 < 2147483648 := ⟨by decide +kernel, by decide, by decide⟩
theorem ar_112 : lay 112 = (101, 32) ∧ 112 < 121 ∧ 32 < 2147483648 := ⟨by decide +kernel, by decide, by decide⟩
theorem ar_113 : lay 113 = (100, 1800) ∧ 113 < 121 ∧ 1800 < 2147483648 := ⟨by decide +kernel, by decide, by decide⟩
theorem ar_114 : lay 114 = (100, 30) ∧ 114 < 121 ∧ 30 < 2147483648 := ⟨by decide +kernel, by decide, by decide⟩
theorem ar_115 : lay 115 = (100, 30) ∧ 115 < 121 ∧ 30 < 2147483648 := ⟨by decide +kernel, by decide, by decide⟩
theorem ar_116 : lay 116 = (100, 10) ∧ 116 < 121 ∧ 10 < 2147483648 := ⟨by decide +kernel, by decide, by decide⟩
theorem ar_117 : lay 117 = (101, 800) ∧ 117 < 121 ∧ 800 < 2147483648 := ⟨by decide +kernel, by decide, by decide⟩
theorem ar_118 : lay 118 = (100, 150) ∧ 118 < 121 ∧ 150 < 2147483648 := ⟨by decide +kernel, by decide, by decide⟩
theorem ar_119 : lay 119 = (100, 25) ∧ 119 < 121 ∧ 25 < 2147483648 := ⟨by decide +kernel, by decide, by decide⟩
theorem ar_120 : lay 120 = (100, 25) ∧ 120 < 121 ∧ 25 < 2147483648 := ⟨by decide +kernel, by decide, by decide⟩
def rtL : List (Nat × Nat × Nat) := [(0, 0, 20), (0, 1, 1), (0, 2, 8), (0, 3, 10), (0, 4, 13), (0, 5, 18), (0, 6, 32), (0, 7, 38), (1, 1, 2), (1, 2, 3), (1, 3, 4), (1, 4, 5), (1, 5, 6), (1, 6, 7), (8, 0, 9), (10, 0, 1), (10, 1, 8), (10, 2, 11), (10, 3, 12), (13, 0, 1), (13, 1, 14), (13, 2, 15), (13, 3, 16), (13, 5, 17), (18, 0, 10), (18, 1, 13), (18, 2, 19), (20, 0, 31), (20, 1, 21), (21, 7, 22), (21, 8, 23), (21, 9, 24), (21, 10, 25), (21, 11, 26), (21, 12, 27), (21, 13, 28), (21, 14, 29), (21, 15, 30), (32, 2, 33), (32, 3, 34), (32, 4, 35), (32, 5, 36), (32, 6, 37), (38, 7, 39), (38, 8, 40), (38, 9, 41), (38, 10, 42), (38, 11, 43), (38, 12, 44), (38, 13, 45), (38, 14, 46), (38, 15, 47), (48, 0, 49), (48, 9, 50), (48, 10, 51), (48, 11, 52), (48, 12, 53), (48, 13, 54), (48, 14, 55), (48, 15, 56), (48, 16, 57), (48, 17, 58), (48, 18, 59), (48, 19, 60), (48, 20, 61), (48, 21, 62), (48, 22, 63), (48, 23, 64), (48, 24, 65), (48, 25, 66), (48, 26, 67), (48, 27, 68), (48, 28, 69), (48, 29, 70), (48, 30, 71), (48, 31, 72), (48, 32, 73), (48, 33, 74), (48, 34, 75), (48, 35, 76), (48, 36, 77), (48, 37, 78), (48, 38, 79), (48, 39, 80), (48, 40, 81), (48, 42, 82), (48, 44, 83), (48, 49, 84), (48, 51, 85), (48, 52, 86), (48, 53, 87), (48, 54, 88), (48, 55, 89), (48, 56, 90), (48, 57, 91), (48, 62, 92), (48, 63, 93), (48, 67, 94), (48, 68, 95), (48, 69, 96), (48, 70, 97), (48, 71, 98), (48, 72, 99), (48, 73, 100), (48, 78, 101), (48, 82, 102), (48, 83, 103), (48, 85, 104), (48, 86, 105), (48, 87, 106), (48, 88, 107), (48, 89, 108), (48, 90, 109), (48, 93, 110), (48, 99, 111), (48, 100, 112), (48, 101, 113), (48, 102, 114), (48, 103, 115), (48, 105, 116), (48, 106, 117), (48, 110, 118), (48, 111, 119), (48, 112, 120)]
def rs : Rt := fun c i => (rtL.find? (fun q => q.1 == c && q.2.1 == i)).map (fun q => q.2.2)
theorem rs_0_0 : rs 0 0 = some 20 := by decide +kernel
theorem rs_0_1 : rs 0 1 = some 1 := by decide +kernel
theorem rs_0_2 : rs 0 2 = some 8 := by decide +kernel
theorem rs_0_3 : rs 0 3 = some 10 := by decide +kernel
theorem rs_0_4 : rs 0 4 = some 13 := by decide +kernel
theorem rs_0_5 : rs 0 5 = some 18 := by decide +kernel
theorem rs_0_6 : rs 0 6 = some 32 := by decide +kernel
theorem rs_0_7 : rs 0 7 = some 38 := by decide +kernel
theorem rs_1_1 : rs 1 1 = some 2 := by decide +kernel
theorem rs_1_2 : rs 1 2 = some 3 := by decide +kernel
theorem rs_1_3 : rs 1 3 = some 4 := by decide +kernel
theorem rs_1_4 : rs 1 4 = some 5 := by decide +kernel
theorem rs_1_5 : rs 1 5 = some 6 := by decide +kernel
theorem rs_1_6 : rs 1 6 = some 7 := by decide +kernel
theorem rs_8_0 : rs 8 0 = some 9 := by decide +kernel
theorem rs_10_0 : rs 10 0 = some 1 := by decide +kernel
theorem rs_10_1 : rs 10 1 = some 8 := by decide +kernel
theorem rs_10_2 : rs 10 2 = some 11 := by decide +kernel
theorem rs_10_3 : rs 10 3 = some 12 := by decide +kernel
theorem rs_13_0 : rs 13 0 = some 1 := by decide +kernel
theorem rs_13_1 : rs 13 1 = some 14 := by decide +kernel
theorem rs_13_2 : rs 13 2 = some 15 := by decide +kernel
theorem rs_13_3 : rs 13 3 = some 16 := by decide +kernel
theorem rs_13_5 : rs 13 5 = some 17 := by decide +kernel
theorem rs_18_0 : rs 18 0 = some 10 := by decide +kernel
theorem rs_18_1 : rs 18 1 = some 13 := by decide +kernel
theorem rs_18_2 : rs 18 2 = some 19 := by decide +kernel
theorem rs_20_0 : rs 20 0 = some 31 := by decide +kernel
theorem rs_20_1 : rs 20 1 = some 21 := by decide +kernel
theorem rs_21_7 : rs 21 7 = some 22 := by decide +kernel
theorem rs_21_8 : rs 21 8 = some 23 := by decide +kernel
theorem rs_21_9 : rs 21 9 = some 24 := by decide +kernel
theorem rs_21_10 : rs 21 10 = some 25 := by decide +kernel
theorem rs_21_11 : rs 21 11 = some 26 := by decide +kernel
theorem rs_21_12 : rs 21 12 = some 27 := by decide +kernel
theorem rs_21_13 : rs 21 13 = some 28 := by decide +kernel
theorem rs_21_14 : rs 21 14 = some 29 := by decide +kernel
theorem rs_21_15 : rs 21 15 = some 30 := by decide +kernel
theorem rs_32_2 : rs 32 2 = some 33 := by decide +kernel
theorem rs_32_3 : rs 32 3 = some 34 := by decide +kernel
theorem rs_32_4 : rs 32 4 = some 35 := by decide +kernel
theorem rs_32_5 : rs 32 5 = some 36 := by decide +kernel
theorem rs_32_6 : rs 32 6 = some 37 := by decide +kernel
theorem rs_38_7 : rs 38 7 = some 39 := by decide +kernel
theorem rs_38_8 : rs 38 8 = some 40 := by decide +kernel
theorem rs_38_9 : rs 38 9 = some 41 := by decide +kernel
theorem rs_38_10 : rs 38 10 = some 42 := by decide +kernel
theorem rs_38_11 : rs 38 11 = some 43 := by decide +kernel
theorem rs_38_12 : rs 38 12 = some 44 := by decide +kernel
theorem rs_38_13 : rs 38 13 = some 45 := by decide +kernel
theorem rs_38_14 : rs 38 14 = some 46 := by decide +kernel
theorem rs_38_15 : rs 38 15 = some 47 := by decide +kernel
theorem rs_48_0 : rs 48 0 = some 49 := by decide +kernel
theorem rs_48_9 : rs 48 9 = some 50 := by decide +kernel
theorem rs_48_10 : rs 48 10 = some 51 := by decide +kernel
theorem rs_48_11 : rs 48 11 = some 52 := by decide +kernel
theorem rs_48_12 : rs 48 12 = some 53 := by decide +kernel
theorem rs_48_13 : rs 48 13 = some 54 := by decide +kernel
theorem rs_48_14 : rs 48 14 = some 55 := by decide +kernel
theorem rs_48_15 : rs 48 15 = some 56 := by decide +kernel
theorem rs_48_16 : rs 48 16 = some 57 := by decide +kernel
theorem rs_48_17 : rs 48 17 = some 58 := by decide +kernel
theorem rs_48_18 : rs 48 18 = some 59 := by decide +kernel
theorem rs_48_19 : rs 48 19 = some 60 := by decide +kernel
theorem rs_48_20 : rs 48 20 = some 61 := by decide +kernel
theorem rs_48_21 : rs 48 21 = some 62 := by decide +kernel
theorem rs_48_22 : rs 48 22 = some 63 := by decide +kernel
theorem rs_48_23 : rs 48 23 = some 64 := by decide +kernel
theorem rs_48_24 : rs 48 24 = some 65 := by decide +kernel
theorem rs_48_25 : rs 48 25 = some 66 := by decide +kernel
theorem rs_48_26 : rs 48 26 = some 67 := by decide +kernel
theorem rs_48_27 : rs 48 27 = some 68 := by decide +kernel
theorem rs_48_28 : rs 48 28 = some 69 := by decide +kernel
theorem rs_48_29 : rs 48 29 = some 70 := by decide +kernel
theorem rs_48_30 : rs 48 30 = some 71 := by decide +kernel
theorem rs_48_31 : rs 48 31 = some 72 := by decide +kernel
theorem rs_48_32 : rs 48 32 = some 73 := by decide +kernel
theorem rs_48_33 : rs 48 33 = some 74 := by decide +kernel
theorem rs_48_34 : rs 48 34 = some 75 := by decide +kernel
theorem rs_48_35 : rs 48 35 = some 76 := by decide +kernel
theorem rs_48_36 : rs 48 36 = some 77 := by decide +kernel
theorem rs_48_37 : rs 48 37 = some 78 := by decide +kernel
theorem rs_48_38 : rs 48 38 = some 79 := by decide +kernel
theorem rs_48_39 : rs 48 39 = some 80 := by decide +kernel
theorem rs_48_40 : rs 48 40 = some 81 := by decide +kernel
theorem rs_48_42 : rs 48 42 = some 82 := by decide +kernel
theorem rs_48_44 : rs 48 44 = some 83 := by decide +kernel
theorem rs_48_49 : rs 48 49 = some 84 := by decide +kernel
theorem rs_48_51 : rs 48 51 = some 85 := by decide +kernel
theorem rs_48_52 : rs 48 52 = some 86 := by decide +kernel
theorem rs_48_53 : rs 48 53 = some 87 := by decide +kernel
theorem rs_48_54 : rs 48 54 = some 88 := by decide +kernel
theorem rs_48_55 : rs 48 55 = some 89 := by decide +kernel
theorem rs_48_56 : rs 48 56 = some 90 := by decide +kernel
theorem rs_48_57 : rs 48 57 = some 91 := by decide +kernel
theorem rs_48_62 : rs 48 62 = some 92 := by decide +kernel
theorem rs_48_63 : rs 48 63 = some 93 := by decide +kernel
theorem rs_48_67 : rs 48 67 = some 94 := by decide +kernel
theorem rs_48_68 : rs 48 68 = some 95 := by decide +kernel
theorem rs_48_69 : rs 48 69 = some 96 := by decide +kernel
theorem rs_48_70 : rs 48 70 = some 97 := by decide +kernel
theorem rs_48_71 : rs 48 71 = some 98 := by decide +kernel
theorem rs_48_72 : rs 48 72 = some 99 := by decide +kernel
theorem rs_48_73 : rs 48 73 = some 100 := by decide +kernel
theorem rs_48_78 : rs 48 78 = some 101 := by decide +kernel
theorem rs_48_82 : rs 48 82 = some 102 := by decide +kernel
theorem rs_48_83 : rs 48 83 = some 103 := by decide +kernel
theorem rs_48_85 : rs 48 85 = some 104 := by decide +kernel
theorem rs_48_86 : rs 48 86 = some 105 := by decide +kernel
theorem rs_48_87 : rs 48 87 = some 106 := by decide +kernel
theorem rs_48_88 : rs 48 88 = some 107 := by decide +kernel
theorem rs_48_89 : rs 48 89 = some 108 := by decide +kernel
theorem rs_48_90 : rs 48 90 = some 109 := by decide +kernel
theorem rs_48_93 : rs 48 93 = some 110 := by decide +kernel
theorem rs_48_99 : rs 48 99 = some 111 := by decide +kernel
theorem rs_48_100 : rs 48 100 = some 112 := by decide +kernel
theorem rs_48_101 : rs 48 101 = some 113 := by decide +kernel
theorem rs_48_102 : rs 48 102 = some 114 := by decide +kernel
theorem rs_48_103 : rs 48 103 = some 115 := by decide +kernel
theorem rs_48_105 : rs 48 105 = some 116 := by decide +kernel
theorem rs_48_106 : rs 48 106 = some 117 := by decide +kernel
theorem rs_48_110 : rs 48 110 = some 118 := by decide +kernel
theorem rs_48_111 : rs 48 111 = some 119 := by decide +kernel
theorem rs_48_112 : rs 48 112 = some 120 := by decide +kernel
