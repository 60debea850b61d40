theorem ft_0_0 : (∃ n, fty 0 0 = .object n) ∨ ∃ n, fty 0 0 = .array n := Or.inr ⟨_, rfl⟩
theorem ft_1_0 : (∃ n, fty 1 0 = .object n) ∨ ∃ n, fty 1 0 = .array n := Or.inl ⟨_, rfl⟩
theorem ft_1_1 : (∃ n, fty 1 1 = .object n) ∨ ∃ n, fty 1 1 = .array n := Or.inl ⟨_, rfl⟩
theorem ft_1_2 : (∃ n, fty 1 2 = .object n) ∨ ∃ n, fty 1 2 = .array n := Or.inr ⟨_, rfl⟩
theorem ft_1_3 : fty 1 3 = .int := rfl
theorem ft_2_0 : fty 2 0 = .int := rfl
theorem ft_2_1 : (∃ n, fty 2 1 = .object n) ∨ ∃ n, fty 2 1 = .array n := Or.inr ⟨_, rfl⟩
theorem ft_2_2 : (∃ n, fty 2 2 = .object n) ∨ ∃ n, fty 2 2 = .array n := Or.inr ⟨_, rfl⟩
theorem ft_2_3 : (∃ n, fty 2 3 = .object n) ∨ ∃ n, fty 2 3 = .array n := Or.inr ⟨_, rfl⟩
theorem ft_2_4 : (∃ n, fty 2 4 = .object n) ∨ ∃ n, fty 2 4 = .array n := Or.inr ⟨_, rfl⟩
theorem ft_2_5 : (∃ n, fty 2 5 = .object n) ∨ ∃ n, fty 2 5 = .array n := Or.inr ⟨_, rfl⟩
theorem ft_2_6 : (∃ n, fty 2 6 = .object n) ∨ ∃ n, fty 2 6 = .array n := Or.inr ⟨_, rfl⟩
theorem ft_3_0 : fty 3 0 = .int := rfl
theorem ft_3_1 : fty 3 1 = .int := rfl
theorem ft_3_2 : fty 3 2 = .int := rfl
theorem ft_3_3 : fty 3 3 = .int := rfl
theorem ft_3_4 : fty 3 4 = .boolean := rfl
theorem ft_3_5 : fty 3 5 = .int := rfl
theorem ft_3_6 : fty 3 6 = .int := rfl
theorem ft_3_7 : (∃ n, fty 3 7 = .object n) ∨ ∃ n, fty 3 7 = .array n := Or.inr ⟨_, rfl⟩
theorem ft_3_8 : (∃ n, fty 3 8 = .object n) ∨ ∃ n, fty 3 8 = .array n := Or.inr ⟨_, rfl⟩
theorem ft_3_9 : (∃ n, fty 3 9 = .object n) ∨ ∃ n, fty 3 9 = .array n := Or.inr ⟨_, rfl⟩
theorem ft_3_10 : (∃ n, fty 3 10 = .object n) ∨ ∃ n, fty 3 10 = .array n := Or.inr ⟨_, rfl⟩
theorem ft_3_11 : (∃ n, fty 3 11 = .object n) ∨ ∃ n, fty 3 11 = .array n := Or.inr ⟨_, rfl⟩
theorem ft_3_12 : (∃ n, fty 3 12 = .object n) ∨ ∃ n, fty 3 12 = .array n := Or.inr ⟨_, rfl⟩
theorem ft_3_13 : (∃ n, fty 3 13 = .object n) ∨ ∃ n, fty 3 13 = .array n := Or.inr ⟨_, rfl⟩
theorem ft_3_14 : (∃ n, fty 3 14 = .object n) ∨ ∃ n, fty 3 14 = .array n := Or.inr ⟨_, rfl⟩
theorem ft_3_15 : (∃ n, fty 3 15 = .object n) ∨ ∃ n, fty 3 15 = .array n := Or.inr ⟨_, rfl⟩
theorem ft_4_0 : (∃ n, fty 4 0 = .object n) ∨ ∃ n, fty 4 0 = .array n := Or.inr ⟨_, rfl⟩
theorem ft_4_1 : (∃ n, fty 4 1 = .object n) ∨ ∃ n, fty 4 1 = .array n := Or.inl ⟨_, rfl⟩
theorem ft_4_2 : fty 4 2 = .int := rfl
theorem ft_4_3 : fty 4 3 = .int := rfl
theorem ft_4_4 : fty 4 4 = .int := rfl
theorem ft_4_5 : fty 4 5 = .int := rfl
theorem ft_4_6 : fty 4 6 = .int := rfl
theorem ft_4_7 : fty 4 7 = .int := rfl
theorem ft_4_8 : fty 4 8 = .int := rfl
theorem ft_4_9 : fty 4 9 = .int := rfl
theorem ft_5_0 : (∃ n, fty 5 0 = .object n) ∨ ∃ n, fty 5 0 = .array n := Or.inl ⟨_, rfl⟩
theorem ft_5_1 : (∃ n, fty 5 1 = .object n) ∨ ∃ n, fty 5 1 = .array n := Or.inr ⟨_, rfl⟩
theorem ft_5_2 : (∃ n, fty 5 2 = .object n) ∨ ∃ n, fty 5 2 = .array n := Or.inr ⟨_, rfl⟩
theorem ft_5_3 : (∃ n, fty 5 3 = .object n) ∨ ∃ n, fty 5 3 = .array n := Or.inr ⟨_, rfl⟩
theorem ft_5_4 : fty 5 4 = .boolean := rfl
theorem ft_5_5 : (∃ n, fty 5 5 = .object n) ∨ ∃ n, fty 5 5 = .array n := Or.inr ⟨_, rfl⟩
theorem ft_6_0 : fty 6 0 = .int := rfl
theorem ft_6_1 : fty 6 1 = .int := rfl
theorem ft_6_2 : (∃ n, fty 6 2 = .object n) ∨ ∃ n, fty 6 2 = .array n := Or.inr ⟨_, rfl⟩
theorem ft_6_3 : (∃ n, fty 6 3 = .object n) ∨ ∃ n, fty 6 3 = .array n := Or.inr ⟨_, rfl⟩
theorem ft_6_4 : (∃ n, fty 6 4 = .object n) ∨ ∃ n, fty 6 4 = .array n := Or.inr ⟨_, rfl⟩
theorem ft_6_5 : (∃ n, fty 6 5 = .object n) ∨ ∃ n, fty 6 5 = .array n := Or.inr ⟨_, rfl⟩
theorem ft_6_6 : (∃ n, fty 6 6 = .object n) ∨ ∃ n, fty 6 6 = .array n := Or.inr ⟨_, rfl⟩
theorem ft_7_0 : (∃ n, fty 7 0 = .object n) ∨ ∃ n, fty 7 0 = .array n := Or.inl ⟨_, rfl⟩
theorem ft_7_1 : (∃ n, fty 7 1 = .object n) ∨ ∃ n, fty 7 1 = .array n := Or.inl ⟨_, rfl⟩
theorem ft_7_2 : (∃ n, fty 7 2 = .object n) ∨ ∃ n, fty 7 2 = .array n := Or.inr ⟨_, rfl⟩
theorem ft_7_3 : (∃ n, fty 7 3 = .object n) ∨ ∃ n, fty 7 3 = .array n := Or.inr ⟨_, rfl⟩
theorem ft_7_4 : fty 7 4 = .int := rfl
theorem ft_7_5 : fty 7 5 = .int := rfl
theorem ft_7_6 : fty 7 6 = .int := rfl
theorem ft_7_7 : fty 7 7 = .int := rfl
theorem ft_7_8 : fty 7 8 = .int := rfl
theorem ft_7_9 : fty 7 9 = .int := rfl
theorem ft_7_10 : fty 7 10 = .int := rfl
theorem ft_8_0 : (∃ n, fty 8 0 = .object n) ∨ ∃ n, fty 8 0 = .array n := Or.inl ⟨_, rfl⟩
theorem ft_8_1 : (∃ n, fty 8 1 = .object n) ∨ ∃ n, fty 8 1 = .array n := Or.inl ⟨_, rfl⟩
theorem ft_8_2 : (∃ n, fty 8 2 = .object n) ∨ ∃ n, fty 8 2 = .array n := Or.inl ⟨_, rfl⟩
theorem ft_8_3 : (∃ n, fty 8 3 = .object n) ∨ ∃ n, fty 8 3 = .array n := Or.inl ⟨_, rfl⟩
theorem ft_8_4 : (∃ n, fty 8 4 = .object n) ∨ ∃ n, fty 8 4 = .array n := Or.inl ⟨_, rfl⟩
theorem ft_8_5 : (∃ n, fty 8 5 = .object n) ∨ ∃ n, fty 8 5 = .array n := Or.inl ⟨_, rfl⟩
theorem ft_8_6 : (∃ n, fty 8 6 = .object n) ∨ ∃ n, fty 8 6 = .array n := Or.inl ⟨_, rfl⟩
theorem ft_8_7 : (∃ n, fty 8 7 = .object n) ∨ ∃ n, fty 8 7 = .array n := Or.inl ⟨_, rfl⟩
theorem ft_8_8 : fty 8 8 = .boolean := rfl
theorem ft_8_9 : fty 8 9 = .boolean := rfl
theorem ft_8_10 : fty 8 10 = .int := rfl
theorem ft_9_0 : (∃ n, fty 9 0 = .object n) ∨ ∃ n, fty 9 0 = .array n := Or.inr ⟨_, rfl⟩
theorem ft_9_1 : fty 9 1 = .int := rfl
theorem ft_9_2 : fty 9 2 = .int := rfl
theorem ft_9_3 : fty 9 3 = .int := rfl
theorem ft_9_4 : fty 9 4 = .int := rfl
theorem ft_9_5 : fty 9 5 = .int := rfl
theorem ft_9_6 : fty 9 6 = .int := rfl
theorem ft_9_7 : fty 9 7 = .int := rfl
theorem ft_9_8 : fty 9 8 = .int := rfl
theorem ft_9_9 : (∃ n, fty 9 9 = .object n) ∨ ∃ n, fty 9 9 = .array n := Or.inr ⟨_, rfl⟩
theorem ft_9_10 : (∃ n, fty 9 10 = .object n) ∨ ∃ n, fty 9 10 = .array n := Or.inr ⟨_, rfl⟩
theorem ft_9_11 : (∃ n, fty 9 11 = .object n) ∨ ∃ n, fty 9 11 = .array n := Or.inr ⟨_, rfl⟩
theorem ft_9_12 : (∃ n, fty 9 12 = .object n) ∨ ∃ n, fty 9 12 = .array n := Or.inr ⟨_, rfl⟩
theorem ft_9_13 : (∃ n, fty 9 13 = .object n) ∨ ∃ n, fty 9 13 = .array n := Or.inr ⟨_, rfl⟩
theorem ft_9_14 : (∃ n, fty 9 14 = .object n) ∨ ∃ n, fty 9 14 = .array n := Or.inr ⟨_, rfl⟩
theorem ft_9_15 : (∃ n, fty 9 15 = .object n) ∨ ∃ n, fty 9 15 = .array n := Or.inr ⟨_, rfl⟩
theorem ft_9_16 : (∃ n, fty 9 16 = .object n) ∨ ∃ n, fty 9 16 = .array n := Or.inr ⟨_, rfl⟩
theorem ft_9_17 : (∃ n, fty 9 17 = .object n) ∨ ∃ n, fty 9 17 = .array n := Or.inr ⟨_, rfl⟩
theorem ft_9_18 : (∃ n, fty 9 18 = .object n) ∨ ∃ n, fty 9 18 = .array n := Or.inr ⟨_, rfl⟩
theorem ft_9_19 : (∃ n, fty 9 19 = .object n) ∨ ∃ n, fty 9 19 = .array n := Or.inr ⟨_, rfl⟩
theorem ft_9_20 : (∃ n, fty 9 20 = .object n) ∨ ∃ n, fty 9 20 = .array n := Or.inr ⟨_, rfl⟩
theorem ft_9_21 : (∃ n, fty 9 21 = .object n) ∨ ∃ n, fty 9 21 = .array n := Or.inr ⟨_, rfl⟩
theorem ft_9_22 : (∃ n, fty 9 22 = .object n) ∨ ∃ n, fty 9 22 = .array n := Or.inr ⟨_, rfl⟩
theorem ft_9_23 : (∃ n, fty 9 23 = .object n) ∨ ∃ n, fty 9 23 = .array n := Or.inr ⟨_, rfl⟩
theorem ft_9_24 : (∃ n, fty 9 24 = .object n) ∨ ∃ n, fty 9 24 = .array n := Or.inr ⟨_, rfl⟩
theorem ft_9_25 : (∃ n, fty 9 25 = .object n) ∨ ∃ n, fty 9 25 = .array n := Or.inr ⟨_, rfl⟩
theorem ft_9_26 : (∃ n, fty 9 26 = .object n) ∨ ∃ n, fty 9 26 = .array n := Or.inr ⟨_, rfl⟩
theorem ft_9_27 : (∃ n, fty 9 27 = .object n) ∨ ∃ n, fty 9 27 = .array n := Or.inr ⟨_, rfl⟩
theorem ft_9_28 : (∃ n, fty 9 28 = .object n) ∨ ∃ n, fty 9 28 = .array n := Or.inr ⟨_, rfl⟩
theorem ft_9_29 : (∃ n, fty 9 29 = .object n) ∨ ∃ n, fty 9 29 = .array n := Or.inr ⟨_, rfl⟩
theorem ft_9_30 : (∃ n, fty 9 30 = .object n) ∨ ∃ n, fty 9 30 = .array n := Or.inr ⟨_, rfl⟩
theorem ft_9_31 : (∃ n, fty 9 31 = .object n) ∨ ∃ n, fty 9 31 = .array n := Or.inr ⟨_, rfl⟩
theorem ft_9_32 : (∃ n, fty 9 32 = .object n) ∨ ∃ n, fty 9 32 = .array n := Or.inr ⟨_, rfl⟩
theorem ft_9_33 : (∃ n, fty 9 33 = .object n) ∨ ∃ n, fty 9 33 = .array n := Or.inr ⟨_, rfl⟩
theorem ft_9_34 : (∃ n, fty 9 34 = .object n) ∨ ∃ n, fty 9 34 = .array n := Or.inr ⟨_, rfl⟩
theorem ft_9_35 : (∃ n, fty 9 35 = .object n) ∨ ∃ n, fty 9 35 = .array n := Or.inr ⟨_, rfl⟩
theorem ft_9_36 : (∃ n, fty 9 36 = .object n) ∨ ∃ n, fty 9 36 = .array n := Or.inr ⟨_, rfl⟩
theorem ft_9_37 : (∃ n, fty 9 37 = .object n) ∨ ∃ n, fty 9 37 = .array n := Or.inr ⟨_, rfl⟩
theorem ft_9_38 : (∃ n, fty 9 38 = .object n) ∨ ∃ n, fty 9 38 = .array n := Or.inr ⟨_, rfl⟩
theorem ft_9_39 : (∃ n, fty 9 39 = .object n) ∨ ∃ n, fty 9 39 = .array n := Or.inr ⟨_, rfl⟩
theorem ft_9_40 : (∃ n, fty 9 40 = .object n) ∨ ∃ n, fty 9 40 = .array n := Or.inr ⟨_, rfl⟩
theorem ft_9_41 : fty 9 41 = .int := rfl
theorem ft_9_42 : (∃ n, fty 9 42 = .object n) ∨ ∃ n, fty 9 42 = .array n := Or.inr ⟨_, rfl⟩
theorem ft_9_43 : fty 9 43 = .int := rfl
theorem ft_9_44 : (∃ n, fty 9 44 = .object n) ∨ ∃ n, fty 9 44 = .array n := Or.inr ⟨_, rfl⟩
theorem ft_9_45 : fty 9 45 = .int := rfl
theorem ft_9_46 : fty 9 46 = .int := rfl
theorem ft_9_47 : fty 9 47 = .int := rfl
theorem ft_9_48 : fty 9 48 = .int := rfl
theorem ft_9_49 : (∃ n, fty 9 49 = .object n) ∨ ∃ n, fty 9 49 = .array n := Or.inr ⟨_, rfl⟩
theorem ft_9_50 : fty 9 50 = .int := rfl
theorem ft_9_51 : (∃ n, fty 9 51 = .object n) ∨ ∃ n, fty 9 51 = .array n := Or.inr ⟨_, rfl⟩
theorem ft_9_52 : (∃ n, fty 9 52 = .object n) ∨ ∃ n, fty 9 52 = .array n := Or.inr ⟨_, rfl⟩
theorem ft_9_53 : (∃ n, fty 9 53 = .object n) ∨ ∃ n, fty 9 53 = .array n := Or.inr ⟨_, rfl⟩
theorem ft_9_54 : (∃ n, fty 9 54 = .object n) ∨ ∃ n, fty 9 54 = .array n := Or.inr ⟨_, rfl⟩
theorem ft_9_55 : (∃ n, fty 9 55 = .object n) ∨ ∃ n, fty 9 55 = .array n := Or.inr ⟨_, rfl⟩
theorem ft_9_56 : (∃ n, fty 9 56 = .object n) ∨ ∃ n, fty 9 56 = .array n := Or.inr ⟨_, rfl⟩
theorem ft_9_57 : (∃ n, fty 9 57 = .object n) ∨ ∃ n, fty 9 57 = .array n := Or.inr ⟨_, rfl⟩
theorem ft_9_58 : fty 9 58 = .int := rfl
theorem ft_9_59 : fty 9 59 = .boolean := rfl
theorem ft_9_60 : fty 9 60 = .int := rfl
theorem ft_9_61 : fty 9 61 = .int := rfl
theorem ft_9_62 : (∃ n, fty 9 62 = .object n) ∨ ∃ n, fty 9 62 = .array n := Or.inr ⟨_, rfl⟩
theorem ft_9_63 : (∃ n, fty 9 63 = .object n) ∨ ∃ n, fty 9 63 = .array n := Or.inr ⟨_, rfl⟩
theorem ft_9_64 : fty 9 64 = .boolean := rfl
theorem ft_9_65 : fty 9 65 = .int := rfl
theorem ft_9_66 : fty 9 66 = .int := rfl
theorem ft_9_67 : (∃ n, fty 9 67 = .object n) ∨ ∃ n, fty 9 67 = .array n := Or.inr ⟨_, rfl⟩
theorem ft_9_68 : (∃ n, fty 9 68 = .object n) ∨ ∃ n, fty 9 68 = .array n := Or.inr ⟨_, rfl⟩
theorem ft_9_69 : (∃ n, fty 9 69 = .object n) ∨ ∃ n, fty 9 69 = .array n := Or.inr ⟨_, rfl⟩
theorem ft_9_70 : (∃ n, fty 9 70 = .object n) ∨ ∃ n, fty 9 70 = .array n := Or.inr ⟨_, rfl⟩
theorem ft_9_71 : (∃ n, fty 9 71 = .object n) ∨ ∃ n, fty 9 71 = .array n := Or.inr ⟨_, rfl⟩
theorem ft_9_72 : (∃ n, fty 9 72 = .object n) ∨ ∃ n, fty 9 72 = .array n := Or.inr ⟨_, rfl⟩
theorem ft_9_73 : (∃ n, fty 9 73 = .object n) ∨ ∃ n, fty 9 73 = .array n := Or.inr ⟨_, rfl⟩
theorem ft_9_74 : fty 9 74 = .int := rfl
theorem ft_9_75 : fty 9 75 = .boolean := rfl
theorem ft_9_76 : fty 9 76 = .int := rfl
theorem ft_9_77 : fty 9 77 = .int := rfl
theorem ft_9_78 : (∃ n, fty 9 78 = .object n) ∨ ∃ n, fty 9 78 = .array n := Or.inr ⟨_, rfl⟩
theorem ft_9_79 : fty 9 79 = .int := rfl
theorem ft_9_80 : fty 9 80 = .int := rfl
theorem ft_9_81 : fty 9 81 = .int := rfl
theorem ft_9_82 : (∃ n, fty 9 82 = .object n) ∨ ∃ n, fty 9 82 = .array n := Or.inr ⟨_, rfl⟩
theorem ft_9_83 : (∃ n, fty 9 83 = .object n) ∨ ∃ n, fty 9 83 = .array n := Or.inr ⟨_, rfl⟩
theorem ft_9_84 : fty 9 84 = .int := rfl
theorem ft_9_85 : (∃ n, fty 9 85 = .object n) ∨ ∃ n, fty 9 85 = .array n := Or.inr ⟨_, rfl⟩
theorem ft_9_86 : (∃ n, fty 9 86 = .object n) ∨ ∃ n, fty 9 86 = .array n := Or.inr ⟨_, rfl⟩
theorem ft_9_87 : (∃ n, fty 9 87 = .object n) ∨ ∃ n, fty 9 87 = .array n := Or.inr ⟨_, rfl⟩
theorem ft_9_88 : (∃ n, fty 9 88 = .object n) ∨ ∃ n, fty 9 88 = .array n := Or.inr ⟨_, rfl⟩
theorem ft_9_89 : (∃ n, fty 9 89 = .object n) ∨ ∃ n, fty 9 89 = .array n := Or.inr ⟨_, rfl⟩
theorem ft_9_90 : (∃ n, fty 9 90 = .object n) ∨ ∃ n, fty 9 90 = .array n := Or.inr ⟨_, rfl⟩
theorem ft_9_91 : fty 9 91 = .int := rfl
theorem ft_9_92 : fty 9 92 = .boolean := rfl
theorem ft_9_93 : (∃ n, fty 9 93 = .object n) ∨ ∃ n, fty 9 93 = .array n := Or.inr ⟨_, rfl⟩
theorem ft_9_94 : fty 9 94 = .int := rfl
theorem ft_9_95 : fty 9 95 = .int := rfl
theorem ft_9_96 : fty 9 96 = .int := rfl
theorem ft_9_97 : fty 9 97 = .int := rfl
theorem ft_9_98 : fty 9 98 = .int := rfl
theorem ft_9_99 : (∃ n, fty 9 99 = .object n) ∨ ∃ n, fty 9 99 = .array n := Or.inr ⟨_, rfl⟩
theorem ft_9_100 : (∃ n, fty 9 100 = .object n) ∨ ∃ n, fty 9 100 = .array n := Or.inr ⟨_, rfl⟩
theorem ft_9_101 : (∃ n, fty 9 101 = .object n) ∨ ∃ n, fty 9 101 = .array n := Or.inr ⟨_, rfl⟩
theorem ft_9_102 : (∃ n, fty 9 102 = .object n) ∨ ∃ n, fty 9 102 = .array n := Or.inr ⟨_, rfl⟩
theorem ft_9_103 : (∃ n, fty 9 103 = .object n) ∨ ∃ n, fty 9 103 = .array n := Or.inr ⟨_, rfl⟩
theorem ft_9_104 : fty 9 104 = .int := rfl
theorem ft_9_105 : (∃ n, fty 9 105 = .object n) ∨ ∃ n, fty 9 105 = .array n := Or.inr ⟨_, rfl⟩
theorem ft_9_106 : (∃ n, fty 9 106 = .object n) ∨ ∃ n, fty 9 106 = .array n := Or.inr ⟨_, rfl⟩
theorem ft_9_107 : fty 9 107 = .int := rfl
theorem ft_9_108 : fty 9 108 = .int := rfl
theorem ft_9_109 : fty 9 109 = .int := rfl
theorem ft_9_110 : (∃ n, fty 9 110 = .object n) ∨ ∃ n, fty 9 110 = .array n := Or.inr ⟨_, rfl⟩
theorem ft_9_111 : (∃ n, fty 9 111 = .object n) ∨ ∃ n, fty 9 111 = .array n := Or.inr ⟨_, rfl⟩
theorem ft_9_112 : (∃ n, fty 9 112 = .object n) ∨ ∃ n, fty 9 112 = .array n := Or.inr ⟨_, rfl⟩
