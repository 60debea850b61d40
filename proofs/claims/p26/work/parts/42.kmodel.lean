set_option maxRecDepth 20000 in
set_option maxHeartbeats 4000000 in
theorem k_X9_init_48 (l : Launch) (δ : Dp) (hz : NS δ) (base M : Mem) (hq : Wq base 49 M) : Mg l δ yX9_init cX9_init 1 none { frames := 1, cells := 72, slots := 9315, locals := 20 } 49 121 (ad0 δ) (rq 52) [.ref (ad0 δ 48)] M (fun v ad' rt' M' => v = none ∧ ad' = ad0 δ ∧ rt' = rq 124 ∧ Wq (up (up (up (up base 48 8 (-1)) 48 74 1) 48 76 (-1)) 48 91 (-1)) 121 M') := by
  refine Mg.of (rm := { frames := 1, cells := 72, slots := 9315, locals := 20 }) (by decide) (Nat.le_of_ble_eq_true rfl) fun κ _ hk hn => ?_
  have hA := ad0_ok δ
  generalize hQ : Qg κ δ 121 _ _ _ = Q
  show Zj κ δ (ad0 δ) (rq 52) Q 1 (49, 0, 0) 0 [some (.ref (ad0 δ 48))] [] M
  refine Z_aload0 hk dX9_init_0 ?_
  refine Z_obj hk (mg 978 (by decide +kernel) rfl) dX9_init_1 lk_oi lk_oc ⟨by decide, by decide⟩ (Nat.le_of_ble_eq_true rfl) ?_
  refine Z_aload0 hk dX9_init_4 ?_
  refine Z_sipush hk dX9_init_5 (by decide) ?_
  refine Z_newa hk (k := 100) (N := 700) (t0 := 0) rfl (by decide +kernel) rfl rfl lk_a100 (by decide) rfl (by decide) (by decide) rfl dX9_init_8 (hq.2 49 (Or.inl (Nat.le_refl _))) (rq_none (by decide +kernel)) ⟨by decide, by decide⟩ ?_
  show Zj κ δ (ad0 δ) (rq 52) Q 1 (50, 1, 700) 10 [some (.ref (ad0 δ 48))] [.ref (ad0 δ 49), .ref (ad0 δ 48)] M
  replace hq := hq.more
  refine Z_putRF hk hn hA fl_9_7 (fun q h => by cases (Option.some.inj h : (RX9, TX9, 113) = q); rfl) dX9_init_10 ob_48.1 ob_48.2.1 (by decide) ob_48.2.2.2 ft_9_0 (show rq 53 48 0 = some 49 from by decide +kernel) (rq_step (by decide +kernel)) ?_
  refine Z_aload0 hk dX9_init_13 ?_
  refine Z_iconst hk dX9_init_14 ?_
  refine Z_putI hk hA fl_9_13 dX9_init_15 ob_48.1 ob_48.2.1 (by decide) ob_48.2.2.2 ft_9_8 (by decide) (by decide) ?_
  refine Z_fg (Wq.put hq (by decide) (by decide)) (fun m1 hq => ?_)
  refine Z_aload0 hk dX9_init_18 ?_
  refine Z_bipush hk dX9_init_19 (by decide) ?_
  refine Z_newa hk (k := 103) (N := 7) (t0 := 3) rfl (by decide +kernel) rfl rfl lk_a103 (by decide) rfl (by decide) (by decide) rfl dX9_init_21 (hq.2 50 (Or.inl (Nat.le_refl _))) (rq_none (by decide +kernel)) ⟨by decide, by decide⟩ ?_
  show Zj κ δ (ad0 δ) (rq 53) Q 1 (51, 2, 707) 23 [some (.ref (ad0 δ 48))] [.ref (ad0 δ 50), .ref (ad0 δ 48)] m1
  replace hq := hq.more
  refine Z_dup1 hk rfl dX9_init_23 ?_
  refine Z_iconst hk dX9_init_24 ?_
  refine Z_bipush hk dX9_init_25 (by decide) ?_
  refine Z_cast hk hA dX9_init_27 ar_50.1 (by decide) ar_50.2.2 (by decide) (by decide) (by decide) (by decide) ?_
  refine Z_fg (Wq.word hq (by decide) (by decide) (by decide)) (fun m2 hq => ?_)
  refine Z_dup1 hk rfl dX9_init_28 ?_
  refine Z_iconst hk dX9_init_29 ?_
  refine Z_bipush hk dX9_init_30 (by decide) ?_
  refine Z_cast hk hA dX9_init_32 ar_50.1 (by decide) ar_50.2.2 (by decide) (by decide) (by decide) (by decide) ?_
  refine Z_fg (Wq.word hq (by decide) (by decide) (by decide)) (fun m3 hq => ?_)
  refine Z_dup1 hk rfl dX9_init_33 ?_
  refine Z_iconst hk dX9_init_34 ?_
  refine Z_bipush hk dX9_init_35 (by decide) ?_
  refine Z_cast hk hA dX9_init_37 ar_50.1 (by decide) ar_50.2.2 (by decide) (by decide) (by decide) (by decide) ?_
  refine Z_fg (Wq.word hq (by decide) (by decide) (by decide)) (fun m4 hq => ?_)
  refine Z_dup1 hk rfl dX9_init_38 ?_
  refine Z_iconst hk dX9_init_39 ?_
  refine Z_bipush hk dX9_init_40 (by decide) ?_
  refine Z_cast hk hA dX9_init_42 ar_50.1 (by decide) ar_50.2.2 (by decide) (by decide) (by decide) (by decide) ?_
  refine Z_fg (Wq.word hq (by decide) (by decide) (by decide)) (fun m5 hq => ?_)
  refine Z_dup1 hk rfl dX9_init_43 ?_
  refine Z_iconst hk dX9_init_44 ?_
  refine Z_bipush hk dX9_init_45 (by decide) ?_
  refine Z_cast hk hA dX9_init_47 ar_50.1 (by decide) ar_50.2.2 (by decide) (by decide) (by decide) (by decide) ?_
  refine Z_fg (Wq.word hq (by decide) (by decide) (by decide)) (fun m6 hq => ?_)
  refine Z_dup1 hk rfl dX9_init_48 ?_
  refine Z_iconst hk dX9_init_49 ?_
  refine Z_bipush hk dX9_init_50 (by decide) ?_
  refine Z_cast hk hA dX9_init_52 ar_50.1 (by decide) ar_50.2.2 (by decide) (by decide) (by decide) (by decide) ?_
  refine Z_fg (Wq.word hq (by decide) (by decide) (by decide)) (fun m7 hq => ?_)
  refine Z_dup1 hk rfl dX9_init_53 ?_
  refine Z_bipush hk dX9_init_54 (by decide) ?_
  refine Z_bipush hk dX9_init_56 (by decide) ?_
  refine Z_cast hk hA dX9_init_58 ar_50.1 (by decide) ar_50.2.2 (by decide) (by decide) (by decide) (by decide) ?_
  refine Z_fg (Wq.word hq (by decide) (by decide) (by decide)) (fun m8 hq => ?_)
  refine Z_putRF hk hn hA fl_9_17 (fun q h => by cases (Option.some.inj h : (RX9, TX9, 113) = q); rfl) dX9_init_59 ob_48.1 ob_48.2.1 (by decide) ob_48.2.2.2 ft_9_9 (show rq 54 48 9 = some 50 from by decide +kernel) (rq_step (by decide +kernel)) ?_
  refine Z_aload0 hk dX9_init_62 ?_
  refine Z_bipush hk dX9_init_63 (by decide) ?_
  refine Z_newa hk (k := 103) (N := 8) (t0 := 3) rfl (by decide +kernel) rfl rfl lk_a103 (by decide) rfl (by decide) (by decide) rfl dX9_init_65 (hq.2 51 (Or.inl (Nat.le_refl _))) (rq_none (by decide +kernel)) ⟨by decide, by decide⟩ ?_
  show Zj κ δ (ad0 δ) (rq 54) Q 1 (52, 3, 715) 67 [some (.ref (ad0 δ 48))] [.ref (ad0 δ 51), .ref (ad0 δ 48)] m8
  replace hq := hq.more
  refine Z_dup1 hk rfl dX9_init_67 ?_
  refine Z_iconst hk dX9_init_68 ?_
  refine Z_bipush hk dX9_init_69 (by decide) ?_
  refine Z_cast hk hA dX9_init_71 ar_51.1 (by decide) ar_51.2.2 (by decide) (by decide) (by decide) (by decide) ?_
  refine Z_fg (Wq.word hq (by decide) (by decide) (by decide)) (fun m9 hq => ?_)
  refine Z_dup1 hk rfl dX9_init_72 ?_
  refine Z_iconst hk dX9_init_73 ?_
  refine Z_bipush hk dX9_init_74 (by decide) ?_
  refine Z_cast hk hA dX9_init_76 ar_51.1 (by decide) ar_51.2.2 (by decide) (by decide) (by decide) (by decide) ?_
  refine Z_fg (Wq.word hq (by decide) (by decide) (by decide)) (fun m10 hq => ?_)
  refine Z_dup1 hk rfl dX9_init_77 ?_
  refine Z_iconst hk dX9_init_78 ?_
  refine Z_bipush hk dX9_init_79 (by decide) ?_
  refine Z_cast hk hA dX9_init_81 ar_51.1 (by decide) ar_51.2.2 (by decide) (by decide) (by decide) (by decide) ?_
  refine Z_fg (Wq.word hq (by decide) (by decide) (by decide)) (fun m11 hq => ?_)
  refine Z_dup1 hk rfl dX9_init_82 ?_
  refine Z_iconst hk dX9_init_83 ?_
  refine Z_bipush hk dX9_init_84 (by decide) ?_
  refine Z_cast hk hA dX9_init_86 ar_51.1 (by decide) ar_51.2.2 (by decide) (by decide) (by decide) (by decide) ?_
  refine Z_fg (Wq.word hq (by decide) (by decide) (by decide)) (fun m12 hq => ?_)
  refine Z_dup1 hk rfl dX9_init_87 ?_
  refine Z_iconst hk dX9_init_88 ?_
  refine Z_bipush hk dX9_init_89 (by decide) ?_
  refine Z_cast hk hA dX9_init_91 ar_51.1 (by decide) ar_51.2.2 (by decide) (by decide) (by decide) (by decide) ?_
  refine Z_fg (Wq.word hq (by decide) (by decide) (by decide)) (fun m13 hq => ?_)
  refine Z_dup1 hk rfl dX9_init_92 ?_
  refine Z_iconst hk dX9_init_93 ?_
  refine Z_bipush hk dX9_init_94 (by decide) ?_
  refine Z_cast hk hA dX9_init_96 ar_51.1 (by decide) ar_51.2.2 (by decide) (by decide) (by decide) (by decide) ?_
  refine Z_fg (Wq.word hq (by decide) (by decide) (by decide)) (fun m14 hq => ?_)
  refine Z_dup1 hk rfl dX9_init_97 ?_
  refine Z_bipush hk dX9_init_98 (by decide) ?_
  refine Z_bipush hk dX9_init_100 (by decide) ?_
  refine Z_cast hk hA dX9_init_102 ar_51.1 (by decide) ar_51.2.2 (by decide) (by decide) (by decide) (by decide) ?_
  refine Z_fg (Wq.word hq (by decide) (by decide) (by decide)) (fun m15 hq => ?_)
  refine Z_dup1 hk rfl dX9_init_103 ?_
  refine Z_bipush hk dX9_init_104 (by decide) ?_
  refine Z_bipush hk dX9_init_106 (by decide) ?_
  refine Z_cast hk hA dX9_init_108 ar_51.1 (by decide) ar_51.2.2 (by decide) (by decide) (by decide) (by decide) ?_
  refine Z_fg (Wq.word hq (by decide) (by decide) (by decide)) (fun m16 hq => ?_)
  refine Z_putRF hk hn hA fl_9_21 (fun q h => by cases (Option.some.inj h : (RX9, TX9, 113) = q); rfl) dX9_init_109 ob_48.1 ob_48.2.1 (by decide) ob_48.2.2.2 ft_9_10 (show rq 55 48 10 = some 51 from by decide +kernel) (rq_step (by decide +kernel)) ?_
  refine Z_aload0 hk dX9_init_112 ?_
  refine Z_bipush hk dX9_init_113 (by decide) ?_
  refine Z_newa hk (k := 103) (N := 7) (t0 := 3) rfl (by decide +kernel) rfl rfl lk_a103 (by decide) rfl (by decide) (by decide) rfl dX9_init_115 (hq.2 52 (Or.inl (Nat.le_refl _))) (rq_none (by decide +kernel)) ⟨by decide, by decide⟩ ?_
  show Zj κ δ (ad0 δ) (rq 55) Q 1 (53, 4, 722) 117 [some (.ref (ad0 δ 48))] [.ref (ad0 δ 52), .ref (ad0 δ 48)] m16
  replace hq := hq.more
  refine Z_dup1 hk rfl dX9_init_117 ?_
  refine Z_iconst hk dX9_init_118 ?_
  refine Z_bipush hk dX9_init_119 (by decide) ?_
  refine Z_cast hk hA dX9_init_121 ar_52.1 (by decide) ar_52.2.2 (by decide) (by decide) (by decide) (by decide) ?_
  refine Z_fg (Wq.word hq (by decide) (by decide) (by decide)) (fun m17 hq => ?_)
  refine Z_dup1 hk rfl dX9_init_122 ?_
  refine Z_iconst hk dX9_init_123 ?_
  refine Z_bipush hk dX9_init_124 (by decide) ?_
  refine Z_cast hk hA dX9_init_126 ar_52.1 (by decide) ar_52.2.2 (by decide) (by decide) (by decide) (by decide) ?_
  refine Z_fg (Wq.word hq (by decide) (by decide) (by decide)) (fun m18 hq => ?_)
  refine Z_dup1 hk rfl dX9_init_127 ?_
  refine Z_iconst hk dX9_init_128 ?_
  refine Z_bipush hk dX9_init_129 (by decide) ?_
  refine Z_cast hk hA dX9_init_131 ar_52.1 (by decide) ar_52.2.2 (by decide) (by decide) (by decide) (by decide) ?_
  refine Z_fg (Wq.word hq (by decide) (by decide) (by decide)) (fun m19 hq => ?_)
  refine Z_dup1 hk rfl dX9_init_132 ?_
  refine Z_iconst hk dX9_init_133 ?_
  refine Z_bipush hk dX9_init_134 (by decide) ?_
  refine Z_cast hk hA dX9_init_136 ar_52.1 (by decide) ar_52.2.2 (by decide) (by decide) (by decide) (by decide) ?_
  refine Z_fg (Wq.word hq (by decide) (by decide) (by decide)) (fun m20 hq => ?_)
  refine Z_dup1 hk rfl dX9_init_137 ?_
  refine Z_iconst hk dX9_init_138 ?_
  refine Z_bipush hk dX9_init_139 (by decide) ?_
  refine Z_cast hk hA dX9_init_141 ar_52.1 (by decide) ar_52.2.2 (by decide) (by decide) (by decide) (by decide) ?_
  refine Z_fg (Wq.word hq (by decide) (by decide) (by decide)) (fun m21 hq => ?_)
  refine Z_dup1 hk rfl dX9_init_142 ?_
  refine Z_iconst hk dX9_init_143 ?_
  refine Z_bipush hk dX9_init_144 (by decide) ?_
  refine Z_cast hk hA dX9_init_146 ar_52.1 (by decide) ar_52.2.2 (by decide) (by decide) (by decide) (by decide) ?_
  refine Z_fg (Wq.word hq (by decide) (by decide) (by decide)) (fun m22 hq => ?_)
  refine Z_dup1 hk rfl dX9_init_147 ?_
  refine Z_bipush hk dX9_init_148 (by decide) ?_
  refine Z_bipush hk dX9_init_150 (by decide) ?_
  refine Z_cast hk hA dX9_init_152 ar_52.1 (by decide) ar_52.2.2 (by decide) (by decide) (by decide) (by decide) ?_
  refine Z_fg (Wq.word hq (by decide) (by decide) (by decide)) (fun m23 hq => ?_)
  refine Z_putRF hk hn hA fl_9_24 (fun q h => by cases (Option.some.inj h : (RX9, TX9, 113) = q); rfl) dX9_init_153 ob_48.1 ob_48.2.1 (by decide) ob_48.2.2.2 ft_9_11 (show rq 56 48 11 = some 52 from by decide +kernel) (rq_step (by decide +kernel)) ?_
  refine Z_aload0 hk dX9_init_156 ?_
  refine Z_iconst hk dX9_init_157 ?_
  refine Z_newa hk (k := 103) (N := 4) (t0 := 3) rfl (by decide +kernel) rfl rfl lk_a103 (by decide) rfl (by decide) (by decide) rfl dX9_init_158 (hq.2 53 (Or.inl (Nat.le_refl _))) (rq_none (by decide +kernel)) ⟨by decide, by decide⟩ ?_
  show Zj κ δ (ad0 δ) (rq 56) Q 1 (54, 5, 726) 160 [some (.ref (ad0 δ 48))] [.ref (ad0 δ 53), .ref (ad0 δ 48)] m23
  replace hq := hq.more
  refine Z_dup1 hk rfl dX9_init_160 ?_
  refine Z_iconst hk dX9_init_161 ?_
  refine Z_bipush hk dX9_init_162 (by decide) ?_
  refine Z_cast hk hA dX9_init_164 ar_53.1 (by decide) ar_53.2.2 (by decide) (by decide) (by decide) (by decide) ?_
  refine Z_fg (Wq.word hq (by decide) (by decide) (by decide)) (fun m24 hq => ?_)
  refine Z_dup1 hk rfl dX9_init_165 ?_
  refine Z_iconst hk dX9_init_166 ?_
  refine Z_bipush hk dX9_init_167 (by decide) ?_
  refine Z_cast hk hA dX9_init_169 ar_53.1 (by decide) ar_53.2.2 (by decide) (by decide) (by decide) (by decide) ?_
  refine Z_fg (Wq.word hq (by decide) (by decide) (by decide)) (fun m25 hq => ?_)
  refine Z_dup1 hk rfl dX9_init_170 ?_
  refine Z_iconst hk dX9_init_171 ?_
  refine Z_bipush hk dX9_init_172 (by decide) ?_
  refine Z_cast hk hA dX9_init_174 ar_53.1 (by decide) ar_53.2.2 (by decide) (by decide) (by decide) (by decide) ?_
  refine Z_fg (Wq.word hq (by decide) (by decide) (by decide)) (fun m26 hq => ?_)
  refine Z_dup1 hk rfl dX9_init_175 ?_
  refine Z_iconst hk dX9_init_176 ?_
  refine Z_bipush hk dX9_init_177 (by decide) ?_
  refine Z_cast hk hA dX9_init_179 ar_53.1 (by decide) ar_53.2.2 (by decide) (by decide) (by decide) (by decide) ?_
  refine Z_fg (Wq.word hq (by decide) (by decide) (by decide)) (fun m27 hq => ?_)
  refine Z_putRF hk hn hA fl_9_27 (fun q h => by cases (Option.some.inj h : (RX9, TX9, 113) = q); rfl) dX9_init_180 ob_48.1 ob_48.2.1 (by decide) ob_48.2.2.2 ft_9_12 (show rq 57 48 12 = some 53 from by decide +kernel) (rq_step (by decide +kernel)) ?_
  refine Z_aload0 hk dX9_init_183 ?_
  refine Z_iconst hk dX9_init_184 ?_
  refine Z_newa hk (k := 103) (N := 4) (t0 := 3) rfl (by decide +kernel) rfl rfl lk_a103 (by decide) rfl (by decide) (by decide) rfl dX9_init_185 (hq.2 54 (Or.inl (Nat.le_refl _))) (rq_none (by decide +kernel)) ⟨by decide, by decide⟩ ?_
  show Zj κ δ (ad0 δ) (rq 57) Q 1 (55, 6, 730) 187 [some (.ref (ad0 δ 48))] [.ref (ad0 δ 54), .ref (ad0 δ 48)] m27
  replace hq := hq.more
  refine Z_dup1 hk rfl dX9_init_187 ?_
  refine Z_iconst hk dX9_init_188 ?_
  refine Z_bipush hk dX9_init_189 (by decide) ?_
  refine Z_cast hk hA dX9_init_191 ar_54.1 (by decide) ar_54.2.2 (by decide) (by decide) (by decide) (by decide) ?_
  refine Z_fg (Wq.word hq (by decide) (by decide) (by decide)) (fun m28 hq => ?_)
  refine Z_dup1 hk rfl dX9_init_192 ?_
  refine Z_iconst hk dX9_init_193 ?_
  refine Z_bipush hk dX9_init_194 (by decide) ?_
  refine Z_cast hk hA dX9_init_196 ar_54.1 (by decide) ar_54.2.2 (by decide) (by decide) (by decide) (by decide) ?_
  refine Z_fg (Wq.word hq (by decide) (by decide) (by decide)) (fun m29 hq => ?_)
  refine Z_dup1 hk rfl dX9_init_197 ?_
  refine Z_iconst hk dX9_init_198 ?_
  refine Z_bipush hk dX9_init_199 (by decide) ?_
  refine Z_cast hk hA dX9_init_201 ar_54.1 (by decide) ar_54.2.2 (by decide) (by decide) (by decide) (by decide) ?_
  refine Z_fg (Wq.word hq (by decide) (by decide) (by decide)) (fun m30 hq => ?_)
  refine Z_dup1 hk rfl dX9_init_202 ?_
  refine Z_iconst hk dX9_init_203 ?_
  refine Z_bipush hk dX9_init_204 (by decide) ?_
  refine Z_cast hk hA dX9_init_206 ar_54.1 (by decide) ar_54.2.2 (by decide) (by decide) (by decide) (by decide) ?_
  refine Z_fg (Wq.word hq (by decide) (by decide) (by decide)) (fun m31 hq => ?_)
  refine Z_putRF hk hn hA fl_9_30 (fun q h => by cases (Option.some.inj h : (RX9, TX9, 113) = q); rfl) dX9_init_207 ob_48.1 ob_48.2.1 (by decide) ob_48.2.2.2 ft_9_13 (show rq 58 48 13 = some 54 from by decide +kernel) (rq_step (by decide +kernel)) ?_
  refine Z_aload0 hk dX9_init_210 ?_
  refine Z_iconst hk dX9_init_211 ?_
  refine Z_newa hk (k := 103) (N := 5) (t0 := 3) rfl (by decide +kernel) rfl rfl lk_a103 (by decide) rfl (by decide) (by decide) rfl dX9_init_212 (hq.2 55 (Or.inl (Nat.le_refl _))) (rq_none (by decide +kernel)) ⟨by decide, by decide⟩ ?_
  show Zj κ δ (ad0 δ) (rq 58) Q 1 (56, 7, 735) 214 [some (.ref (ad0 δ 48))] [.ref (ad0 δ 55), .ref (ad0 δ 48)] m31
  replace hq := hq.more
  refine Z_dup1 hk rfl dX9_init_214 ?_
  refine Z_iconst hk dX9_init_215 ?_
  refine Z_bipush hk dX9_init_216 (by decide) ?_
  refine Z_cast hk hA dX9_init_218 ar_55.1 (by decide) ar_55.2.2 (by decide) (by decide) (by decide) (by decide) ?_
  refine Z_fg (Wq.word hq (by decide) (by decide) (by decide)) (fun m32 hq => ?_)
  refine Z_dup1 hk rfl dX9_init_219 ?_
  refine Z_iconst hk dX9_init_220 ?_
  refine Z_bipush hk dX9_init_221 (by decide) ?_
  refine Z_cast hk hA dX9_init_223 ar_55.1 (by decide) ar_55.2.2 (by decide) (by decide) (by decide) (by decide) ?_
  refine Z_fg (Wq.word hq (by decide) (by decide) (by decide)) (fun m33 hq => ?_)
  refine Z_dup1 hk rfl dX9_init_224 ?_
  refine Z_iconst hk dX9_init_225 ?_
  refine Z_bipush hk dX9_init_226 (by decide) ?_
  refine Z_cast hk hA dX9_init_228 ar_55.1 (by decide) ar_55.2.2 (by decide) (by decide) (by decide) (by decide) ?_
  refine Z_fg (Wq.word hq (by decide) (by decide) (by decide)) (fun m34 hq => ?_)
  refine Z_dup1 hk rfl dX9_init_229 ?_
  refine Z_iconst hk dX9_init_230 ?_
  refine Z_bipush hk dX9_init_231 (by decide) ?_
  refine Z_cast hk hA dX9_init_233 ar_55.1 (by decide) ar_55.2.2 (by decide) (by decide) (by decide) (by decide) ?_
  refine Z_fg (Wq.word hq (by decide) (by decide) (by decide)) (fun m35 hq => ?_)
  refine Z_dup1 hk rfl dX9_init_234 ?_
  refine Z_iconst hk dX9_init_235 ?_
  refine Z_bipush hk dX9_init_236 (by decide) ?_
  refine Z_cast hk hA dX9_init_238 ar_55.1 (by decide) ar_55.2.2 (by decide) (by decide) (by decide) (by decide) ?_
  refine Z_fg (Wq.word hq (by decide) (by decide) (by decide)) (fun m36 hq => ?_)
  refine Z_putRF hk hn hA fl_9_33 (fun q h => by cases (Option.some.inj h : (RX9, TX9, 113) = q); rfl) dX9_init_239 ob_48.1 ob_48.2.1 (by decide) ob_48.2.2.2 ft_9_14 (show rq 59 48 14 = some 55 from by decide +kernel) (rq_step (by decide +kernel)) ?_
  refine Z_aload0 hk dX9_init_242 ?_
  refine Z_iconst hk dX9_init_243 ?_
  refine Z_newa hk (k := 103) (N := 2) (t0 := 3) rfl (by decide +kernel) rfl rfl lk_a103 (by decide) rfl (by decide) (by decide) rfl dX9_init_244 (hq.2 56 (Or.inl (Nat.le_refl _))) (rq_none (by decide +kernel)) ⟨by decide, by decide⟩ ?_
  show Zj κ δ (ad0 δ) (rq 59) Q 1 (57, 8, 737) 246 [some (.ref (ad0 δ 48))] [.ref (ad0 δ 56), .ref (ad0 δ 48)] m36
  replace hq := hq.more
  refine Z_dup1 hk rfl dX9_init_246 ?_
  refine Z_iconst hk dX9_init_247 ?_
  refine Z_bipush hk dX9_init_248 (by decide) ?_
  refine Z_cast hk hA dX9_init_250 ar_56.1 (by decide) ar_56.2.2 (by decide) (by decide) (by decide) (by decide) ?_
  refine Z_fg (Wq.word hq (by decide) (by decide) (by decide)) (fun m37 hq => ?_)
  refine Z_dup1 hk rfl dX9_init_251 ?_
  refine Z_iconst hk dX9_init_252 ?_
  refine Z_bipush hk dX9_init_253 (by decide) ?_
  refine Z_cast hk hA dX9_init_255 ar_56.1 (by decide) ar_56.2.2 (by decide) (by decide) (by decide) (by decide) ?_
  refine Z_fg (Wq.word hq (by decide) (by decide) (by decide)) (fun m38 hq => ?_)
  refine Z_putRF hk hn hA fl_9_36 (fun q h => by cases (Option.some.inj h : (RX9, TX9, 113) = q); rfl) dX9_init_256 ob_48.1 ob_48.2.1 (by decide) ob_48.2.2.2 ft_9_15 (show rq 60 48 15 = some 56 from by decide +kernel) (rq_step (by decide +kernel)) ?_
  refine Z_aload0 hk dX9_init_259 ?_
  refine Z_iconst hk dX9_init_260 ?_
  refine Z_newa hk (k := 103) (N := 4) (t0 := 3) rfl (by decide +kernel) rfl rfl lk_a103 (by decide) rfl (by decide) (by decide) rfl dX9_init_261 (hq.2 57 (Or.inl (Nat.le_refl _))) (rq_none (by decide +kernel)) ⟨by decide, by decide⟩ ?_
  show Zj κ δ (ad0 δ) (rq 60) Q 1 (58, 9, 741) 263 [some (.ref (ad0 δ 48))] [.ref (ad0 δ 57), .ref (ad0 δ 48)] m38
  replace hq := hq.more
  refine Z_dup1 hk rfl dX9_init_263 ?_
  refine Z_iconst hk dX9_init_264 ?_
  refine Z_bipush hk dX9_init_265 (by decide) ?_
  refine Z_cast hk hA dX9_init_267 ar_57.1 (by decide) ar_57.2.2 (by decide) (by decide) (by decide) (by decide) ?_
  refine Z_fg (Wq.word hq (by decide) (by decide) (by decide)) (fun m39 hq => ?_)
  refine Z_dup1 hk rfl dX9_init_268 ?_
  refine Z_iconst hk dX9_init_269 ?_
  refine Z_bipush hk dX9_init_270 (by decide) ?_
  refine Z_cast hk hA dX9_init_272 ar_57.1 (by decide) ar_57.2.2 (by decide) (by decide) (by decide) (by decide) ?_
  refine Z_fg (Wq.word hq (by decide) (by decide) (by decide)) (fun m40 hq => ?_)
  refine Z_dup1 hk rfl dX9_init_273 ?_
  refine Z_iconst hk dX9_init_274 ?_
  refine Z_bipush hk dX9_init_275 (by decide) ?_
  refine Z_cast hk hA dX9_init_277 ar_57.1 (by decide) ar_57.2.2 (by decide) (by decide) (by decide) (by decide) ?_
  refine Z_fg (Wq.word hq (by decide) (by decide) (by decide)) (fun m41 hq => ?_)
  refine Z_dup1 hk rfl dX9_init_278 ?_
  refine Z_iconst hk dX9_init_279 ?_
  refine Z_bipush hk dX9_init_280 (by decide) ?_
  refine Z_cast hk hA dX9_init_282 ar_57.1 (by decide) ar_57.2.2 (by decide) (by decide) (by decide) (by decide) ?_
  refine Z_fg (Wq.word hq (by decide) (by decide) (by decide)) (fun m42 hq => ?_)
  refine Z_putRF hk hn hA fl_9_39 (fun q h => by cases (Option.some.inj h : (RX9, TX9, 113) = q); rfl) dX9_init_283 ob_48.1 ob_48.2.1 (by decide) ob_48.2.2.2 ft_9_16 (show rq 61 48 16 = some 57 from by decide +kernel) (rq_step (by decide +kernel)) ?_
  refine Z_aload0 hk dX9_init_286 ?_
  refine Z_iconst hk dX9_init_287 ?_
  refine Z_newa hk (k := 103) (N := 4) (t0 := 3) rfl (by decide +kernel) rfl rfl lk_a103 (by decide) rfl (by decide) (by decide) rfl dX9_init_288 (hq.2 58 (Or.inl (Nat.le_refl _))) (rq_none (by decide +kernel)) ⟨by decide, by decide⟩ ?_
  show Zj κ δ (ad0 δ) (rq 61) Q 1 (59, 10, 745) 290 [some (.ref (ad0 δ 48))] [.ref (ad0 δ 58), .ref (ad0 δ 48)] m42
  replace hq := hq.more
  refine Z_dup1 hk rfl dX9_init_290 ?_
  refine Z_iconst hk dX9_init_291 ?_
  refine Z_bipush hk dX9_init_292 (by decide) ?_
  refine Z_cast hk hA dX9_init_294 ar_58.1 (by decide) ar_58.2.2 (by decide) (by decide) (by decide) (by decide) ?_
  refine Z_fg (Wq.word hq (by decide) (by decide) (by decide)) (fun m43 hq => ?_)
  refine Z_dup1 hk rfl dX9_init_295 ?_
  refine Z_iconst hk dX9_init_296 ?_
  refine Z_bipush hk dX9_init_297 (by decide) ?_
  refine Z_cast hk hA dX9_init_299 ar_58.1 (by decide) ar_58.2.2 (by decide) (by decide) (by decide) (by decide) ?_
  refine Z_fg (Wq.word hq (by decide) (by decide) (by decide)) (fun m44 hq => ?_)
  refine Z_dup1 hk rfl dX9_init_300 ?_
  refine Z_iconst hk dX9_init_301 ?_
  refine Z_bipush hk dX9_init_302 (by decide) ?_
  refine Z_cast hk hA dX9_init_304 ar_58.1 (by decide) ar_58.2.2 (by decide) (by decide) (by decide) (by decide) ?_
  refine Z_fg (Wq.word hq (by decide) (by decide) (by decide)) (fun m45 hq => ?_)
  refine Z_dup1 hk rfl dX9_init_305 ?_
  refine Z_iconst hk dX9_init_306 ?_
  refine Z_bipush hk dX9_init_307 (by decide) ?_
  refine Z_cast hk hA dX9_init_309 ar_58.1 (by decide) ar_58.2.2 (by decide) (by decide) (by decide) (by decide) ?_
  refine Z_fg (Wq.word hq (by decide) (by decide) (by decide)) (fun m46 hq => ?_)
  refine Z_putRF hk hn hA fl_9_42 (fun q h => by cases (Option.some.inj h : (RX9, TX9, 113) = q); rfl) dX9_init_310 ob_48.1 ob_48.2.1 (by decide) ob_48.2.2.2 ft_9_17 (show rq 62 48 17 = some 58 from by decide +kernel) (rq_step (by decide +kernel)) ?_
  refine Z_aload0 hk dX9_init_313 ?_
  refine Z_iconst hk dX9_init_314 ?_
  refine Z_newa hk (k := 103) (N := 4) (t0 := 3) rfl (by decide +kernel) rfl rfl lk_a103 (by decide) rfl (by decide) (by decide) rfl dX9_init_315 (hq.2 59 (Or.inl (Nat.le_refl _))) (rq_none (by decide +kernel)) ⟨by decide, by decide⟩ ?_
  show Zj κ δ (ad0 δ) (rq 62) Q 1 (60, 11, 749) 317 [some (.ref (ad0 δ 48))] [.ref (ad0 δ 59), .ref (ad0 δ 48)] m46
  replace hq := hq.more
  refine Z_dup1 hk rfl dX9_init_317 ?_
  refine Z_iconst hk dX9_init_318 ?_
  refine Z_bipush hk dX9_init_319 (by decide) ?_
  refine Z_cast hk hA dX9_init_321 ar_59.1 (by decide) ar_59.2.2 (by decide) (by decide) (by decide) (by decide) ?_
  refine Z_fg (Wq.word hq (by decide) (by decide) (by decide)) (fun m47 hq => ?_)
  refine Z_dup1 hk rfl dX9_init_322 ?_
  refine Z_iconst hk dX9_init_323 ?_
  refine Z_bipush hk dX9_init_324 (by decide) ?_
  refine Z_cast hk hA dX9_init_326 ar_59.1 (by decide) ar_59.2.2 (by decide) (by decide) (by decide) (by decide) ?_
  refine Z_fg (Wq.word hq (by decide) (by decide) (by decide)) (fun m48 hq => ?_)
  refine Z_dup1 hk rfl dX9_init_327 ?_
  refine Z_iconst hk dX9_init_328 ?_
  refine Z_bipush hk dX9_init_329 (by decide) ?_
  refine Z_cast hk hA dX9_init_331 ar_59.1 (by decide) ar_59.2.2 (by decide) (by decide) (by decide) (by decide) ?_
  refine Z_fg (Wq.word hq (by decide) (by decide) (by decide)) (fun m49 hq => ?_)
  refine Z_dup1 hk rfl dX9_init_332 ?_
  refine Z_iconst hk dX9_init_333 ?_
  refine Z_bipush hk dX9_init_334 (by decide) ?_
  refine Z_cast hk hA dX9_init_336 ar_59.1 (by decide) ar_59.2.2 (by decide) (by decide) (by decide) (by decide) ?_
  refine Z_fg (Wq.word hq (by decide) (by decide) (by decide)) (fun m50 hq => ?_)
  refine Z_putRF hk hn hA fl_9_45 (fun q h => by cases (Option.some.inj h : (RX9, TX9, 113) = q); rfl) dX9_init_337 ob_48.1 ob_48.2.1 (by decide) ob_48.2.2.2 ft_9_18 (show rq 63 48 18 = some 59 from by decide +kernel) (rq_step (by decide +kernel)) ?_
  refine Z_aload0 hk dX9_init_340 ?_
  refine Z_iconst hk dX9_init_341 ?_
  refine Z_newa hk (k := 103) (N := 4) (t0 := 3) rfl (by decide +kernel) rfl rfl lk_a103 (by decide) rfl (by decide) (by decide) rfl dX9_init_342 (hq.2 60 (Or.inl (Nat.le_refl _))) (rq_none (by decide +kernel)) ⟨by decide, by decide⟩ ?_
  show Zj κ δ (ad0 δ) (rq 63) Q 1 (61, 12, 753) 344 [some (.ref (ad0 δ 48))] [.ref (ad0 δ 60), .ref (ad0 δ 48)] m50
  replace hq := hq.more
  refine Z_dup1 hk rfl dX9_init_344 ?_
  refine Z_iconst hk dX9_init_345 ?_
  refine Z_bipush hk dX9_init_346 (by decide) ?_
  refine Z_cast hk hA dX9_init_348 ar_60.1 (by decide) ar_60.2.2 (by decide) (by decide) (by decide) (by decide) ?_
  refine Z_fg (Wq.word hq (by decide) (by decide) (by decide)) (fun m51 hq => ?_)
  refine Z_dup1 hk rfl dX9_init_349 ?_
  refine Z_iconst hk dX9_init_350 ?_
  refine Z_bipush hk dX9_init_351 (by decide) ?_
  refine Z_cast hk hA dX9_init_353 ar_60.1 (by decide) ar_60.2.2 (by decide) (by decide) (by decide) (by decide) ?_
  refine Z_fg (Wq.word hq (by decide) (by decide) (by decide)) (fun m52 hq => ?_)
  refine Z_dup1 hk rfl dX9_init_354 ?_
  refine Z_iconst hk dX9_init_355 ?_
  refine Z_bipush hk dX9_init_356 (by decide) ?_
  refine Z_cast hk hA dX9_init_358 ar_60.1 (by decide) ar_60.2.2 (by decide) (by decide) (by decide) (by decide) ?_
  refine Z_fg (Wq.word hq (by decide) (by decide) (by decide)) (fun m53 hq => ?_)
  refine Z_dup1 hk rfl dX9_init_359 ?_
  refine Z_iconst hk dX9_init_360 ?_
  refine Z_bipush hk dX9_init_361 (by decide) ?_
  refine Z_cast hk hA dX9_init_363 ar_60.1 (by decide) ar_60.2.2 (by decide) (by decide) (by decide) (by decide) ?_
  refine Z_fg (Wq.word hq (by decide) (by decide) (by decide)) (fun m54 hq => ?_)
  refine Z_putRF hk hn hA fl_9_48 (fun q h => by cases (Option.some.inj h : (RX9, TX9, 113) = q); rfl) dX9_init_364 ob_48.1 ob_48.2.1 (by decide) ob_48.2.2.2 ft_9_19 (show rq 64 48 19 = some 60 from by decide +kernel) (rq_step (by decide +kernel)) ?_
  refine Z_aload0 hk dX9_init_367 ?_
  refine Z_iconst hk dX9_init_368 ?_
  refine Z_newa hk (k := 103) (N := 5) (t0 := 3) rfl (by decide +kernel) rfl rfl lk_a103 (by decide) rfl (by decide) (by decide) rfl dX9_init_369 (hq.2 61 (Or.inl (Nat.le_refl _))) (rq_none (by decide +kernel)) ⟨by decide, by decide⟩ ?_
  show Zj κ δ (ad0 δ) (rq 64) Q 1 (62, 13, 758) 371 [some (.ref (ad0 δ 48))] [.ref (ad0 δ 61), .ref (ad0 δ 48)] m54
  replace hq := hq.more
  refine Z_dup1 hk rfl dX9_init_371 ?_
  refine Z_iconst hk dX9_init_372 ?_
  refine Z_bipush hk dX9_init_373 (by decide) ?_
  refine Z_cast hk hA dX9_init_375 ar_61.1 (by decide) ar_61.2.2 (by decide) (by decide) (by decide) (by decide) ?_
  refine Z_fg (Wq.word hq (by decide) (by decide) (by decide)) (fun m55 hq => ?_)
  refine Z_dup1 hk rfl dX9_init_376 ?_
  refine Z_iconst hk dX9_init_377 ?_
  refine Z_bipush hk dX9_init_378 (by decide) ?_
  refine Z_cast hk hA dX9_init_380 ar_61.1 (by decide) ar_61.2.2 (by decide) (by decide) (by decide) (by decide) ?_
  refine Z_fg (Wq.word hq (by decide) (by decide) (by decide)) (fun m56 hq => ?_)
  refine Z_dup1 hk rfl dX9_init_381 ?_
  refine Z_iconst hk dX9_init_382 ?_
  refine Z_bipush hk dX9_init_383 (by decide) ?_
  refine Z_cast hk hA dX9_init_385 ar_61.1 (by decide) ar_61.2.2 (by decide) (by decide) (by decide) (by decide) ?_
  refine Z_fg (Wq.word hq (by decide) (by decide) (by decide)) (fun m57 hq => ?_)
  refine Z_dup1 hk rfl dX9_init_386 ?_
  refine Z_iconst hk dX9_init_387 ?_
  refine Z_bipush hk dX9_init_388 (by decide) ?_
  refine Z_cast hk hA dX9_init_390 ar_61.1 (by decide) ar_61.2.2 (by decide) (by decide) (by decide) (by decide) ?_
  refine Z_fg (Wq.word hq (by decide) (by decide) (by decide)) (fun m58 hq => ?_)
  refine Z_dup1 hk rfl dX9_init_391 ?_
  refine Z_iconst hk dX9_init_392 ?_
  refine Z_bipush hk dX9_init_393 (by decide) ?_
  refine Z_cast hk hA dX9_init_395 ar_61.1 (by decide) ar_61.2.2 (by decide) (by decide) (by decide) (by decide) ?_
  refine Z_fg (Wq.word hq (by decide) (by decide) (by decide)) (fun m59 hq => ?_)
  refine Z_putRF hk hn hA fl_9_51 (fun q h => by cases (Option.some.inj h : (RX9, TX9, 113) = q); rfl) dX9_init_396 ob_48.1 ob_48.2.1 (by decide) ob_48.2.2.2 ft_9_20 (show rq 65 48 20 = some 61 from by decide +kernel) (rq_step (by decide +kernel)) ?_
  refine Z_aload0 hk dX9_init_399 ?_
  refine Z_iconst hk dX9_init_400 ?_
  refine Z_newa hk (k := 103) (N := 3) (t0 := 3) rfl (by decide +kernel) rfl rfl lk_a103 (by decide) rfl (by decide) (by decide) rfl dX9_init_401 (hq.2 62 (Or.inl (Nat.le_refl _))) (rq_none (by decide +kernel)) ⟨by decide, by decide⟩ ?_
  show Zj κ δ (ad0 δ) (rq 65) Q 1 (63, 14, 761) 403 [some (.ref (ad0 δ 48))] [.ref (ad0 δ 62), .ref (ad0 δ 48)] m59
  replace hq := hq.more
  refine Z_dup1 hk rfl dX9_init_403 ?_
  refine Z_iconst hk dX9_init_404 ?_
  refine Z_bipush hk dX9_init_405 (by decide) ?_
  refine Z_cast hk hA dX9_init_407 ar_62.1 (by decide) ar_62.2.2 (by decide) (by decide) (by decide) (by decide) ?_
  refine Z_fg (Wq.word hq (by decide) (by decide) (by decide)) (fun m60 hq => ?_)
  refine Z_dup1 hk rfl dX9_init_408 ?_
  refine Z_iconst hk dX9_init_409 ?_
  refine Z_bipush hk dX9_init_410 (by decide) ?_
  refine Z_cast hk hA dX9_init_412 ar_62.1 (by decide) ar_62.2.2 (by decide) (by decide) (by decide) (by decide) ?_
  refine Z_fg (Wq.word hq (by decide) (by decide) (by decide)) (fun m61 hq => ?_)
  refine Z_dup1 hk rfl dX9_init_413 ?_
  refine Z_iconst hk dX9_init_414 ?_
  refine Z_bipush hk dX9_init_415 (by decide) ?_
  refine Z_cast hk hA dX9_init_417 ar_62.1 (by decide) ar_62.2.2 (by decide) (by decide) (by decide) (by decide) ?_
  refine Z_fg (Wq.word hq (by decide) (by decide) (by decide)) (fun m62 hq => ?_)
  refine Z_putRF hk hn hA fl_9_54 (fun q h => by cases (Option.some.inj h : (RX9, TX9, 113) = q); rfl) dX9_init_418 ob_48.1 ob_48.2.1 (by decide) ob_48.2.2.2 ft_9_21 (show rq 66 48 21 = some 62 from by decide +kernel) (rq_step (by decide +kernel)) ?_
  refine Z_aload0 hk dX9_init_421 ?_
  refine Z_iconst hk dX9_init_422 ?_
  refine Z_newa hk (k := 103) (N := 3) (t0 := 3) rfl (by decide +kernel) rfl rfl lk_a103 (by decide) rfl (by decide) (by decide) rfl dX9_init_423 (hq.2 63 (Or.inl (Nat.le_refl _))) (rq_none (by decide +kernel)) ⟨by decide, by decide⟩ ?_
  show Zj κ δ (ad0 δ) (rq 66) Q 1 (64, 15, 764) 425 [some (.ref (ad0 δ 48))] [.ref (ad0 δ 63), .ref (ad0 δ 48)] m62
  replace hq := hq.more
  refine Z_dup1 hk rfl dX9_init_425 ?_
  refine Z_iconst hk dX9_init_426 ?_
  refine Z_bipush hk dX9_init_427 (by decide) ?_
  refine Z_cast hk hA dX9_init_429 ar_63.1 (by decide) ar_63.2.2 (by decide) (by decide) (by decide) (by decide) ?_
  refine Z_fg (Wq.word hq (by decide) (by decide) (by decide)) (fun m63 hq => ?_)
  refine Z_dup1 hk rfl dX9_init_430 ?_
  refine Z_iconst hk dX9_init_431 ?_
  refine Z_bipush hk dX9_init_432 (by decide) ?_
  refine Z_cast hk hA dX9_init_434 ar_63.1 (by decide) ar_63.2.2 (by decide) (by decide) (by decide) (by decide) ?_
  refine Z_fg (Wq.word hq (by decide) (by decide) (by decide)) (fun m64 hq => ?_)
  refine Z_dup1 hk rfl dX9_init_435 ?_
  refine Z_iconst hk dX9_init_436 ?_
  refine Z_bipush hk dX9_init_437 (by decide) ?_
  refine Z_cast hk hA dX9_init_439 ar_63.1 (by decide) ar_63.2.2 (by decide) (by decide) (by decide) (by decide) ?_
  refine Z_fg (Wq.word hq (by decide) (by decide) (by decide)) (fun m65 hq => ?_)
  refine Z_putRF hk hn hA fl_9_57 (fun q h => by cases (Option.some.inj h : (RX9, TX9, 113) = q); rfl) dX9_init_440 ob_48.1 ob_48.2.1 (by decide) ob_48.2.2.2 ft_9_22 (show rq 67 48 22 = some 63 from by decide +kernel) (rq_step (by decide +kernel)) ?_
  refine Z_aload0 hk dX9_init_443 ?_
  refine Z_bipush hk dX9_init_444 (by decide) ?_
  refine Z_newa hk (k := 103) (N := 9) (t0 := 3) rfl (by decide +kernel) rfl rfl lk_a103 (by decide) rfl (by decide) (by decide) rfl dX9_init_446 (hq.2 64 (Or.inl (Nat.le_refl _))) (rq_none (by decide +kernel)) ⟨by decide, by decide⟩ ?_
  show Zj κ δ (ad0 δ) (rq 67) Q 1 (65, 16, 773) 448 [some (.ref (ad0 δ 48))] [.ref (ad0 δ 64), .ref (ad0 δ 48)] m65
  replace hq := hq.more
  refine Z_dup1 hk rfl dX9_init_448 ?_
  refine Z_iconst hk dX9_init_449 ?_
  refine Z_bipush hk dX9_init_450 (by decide) ?_
  refine Z_cast hk hA dX9_init_452 ar_64.1 (by decide) ar_64.2.2 (by decide) (by decide) (by decide) (by decide) ?_
  refine Z_fg (Wq.word hq (by decide) (by decide) (by decide)) (fun m66 hq => ?_)
  refine Z_dup1 hk rfl dX9_init_453 ?_
  refine Z_iconst hk dX9_init_454 ?_
  refine Z_bipush hk dX9_init_455 (by decide) ?_
  refine Z_cast hk hA dX9_init_457 ar_64.1 (by decide) ar_64.2.2 (by decide) (by decide) (by decide) (by decide) ?_
  refine Z_fg (Wq.word hq (by decide) (by decide) (by decide)) (fun m67 hq => ?_)
  refine Z_dup1 hk rfl dX9_init_458 ?_
  refine Z_iconst hk dX9_init_459 ?_
  refine Z_bipush hk dX9_init_460 (by decide) ?_
  refine Z_cast hk hA dX9_init_462 ar_64.1 (by decide) ar_64.2.2 (by decide) (by decide) (by decide) (by decide) ?_
  refine Z_fg (Wq.word hq (by decide) (by decide) (by decide)) (fun m68 hq => ?_)
  refine Z_dup1 hk rfl dX9_init_463 ?_
  refine Z_iconst hk dX9_init_464 ?_
  refine Z_bipush hk dX9_init_465 (by decide) ?_
  refine Z_cast hk hA dX9_init_467 ar_64.1 (by decide) ar_64.2.2 (by decide) (by decide) (by decide) (by decide) ?_
  refine Z_fg (Wq.word hq (by decide) (by decide) (by decide)) (fun m69 hq => ?_)
  refine Z_dup1 hk rfl dX9_init_468 ?_
  refine Z_iconst hk dX9_init_469 ?_
  refine Z_bipush hk dX9_init_470 (by decide) ?_
  refine Z_cast hk hA dX9_init_472 ar_64.1 (by decide) ar_64.2.2 (by decide) (by decide) (by decide) (by decide) ?_
  refine Z_fg (Wq.word hq (by decide) (by decide) (by decide)) (fun m70 hq => ?_)
  refine Z_dup1 hk rfl dX9_init_473 ?_
  refine Z_iconst hk dX9_init_474 ?_
  refine Z_bipush hk dX9_init_475 (by decide) ?_
  refine Z_cast hk hA dX9_init_477 ar_64.1 (by decide) ar_64.2.2 (by decide) (by decide) (by decide) (by decide) ?_
  refine Z_fg (Wq.word hq (by decide) (by decide) (by decide)) (fun m71 hq => ?_)
  refine Z_dup1 hk rfl dX9_init_478 ?_
  refine Z_bipush hk dX9_init_479 (by decide) ?_
  refine Z_bipush hk dX9_init_481 (by decide) ?_
  refine Z_cast hk hA dX9_init_483 ar_64.1 (by decide) ar_64.2.2 (by decide) (by decide) (by decide) (by decide) ?_
  refine Z_fg (Wq.word hq (by decide) (by decide) (by decide)) (fun m72 hq => ?_)
  refine Z_dup1 hk rfl dX9_init_484 ?_
  refine Z_bipush hk dX9_init_485 (by decide) ?_
  refine Z_bipush hk dX9_init_487 (by decide) ?_
  refine Z_cast hk hA dX9_init_489 ar_64.1 (by decide) ar_64.2.2 (by decide) (by decide) (by decide) (by decide) ?_
  refine Z_fg (Wq.word hq (by decide) (by decide) (by decide)) (fun m73 hq => ?_)
  refine Z_dup1 hk rfl dX9_init_490 ?_
  refine Z_bipush hk dX9_init_491 (by decide) ?_
  refine Z_bipush hk dX9_init_493 (by decide) ?_
  refine Z_cast hk hA dX9_init_495 ar_64.1 (by decide) ar_64.2.2 (by decide) (by decide) (by decide) (by decide) ?_
  refine Z_fg (Wq.word hq (by decide) (by decide) (by decide)) (fun m74 hq => ?_)
  refine Z_putRF hk hn hA fl_9_60 (fun q h => by cases (Option.some.inj h : (RX9, TX9, 113) = q); rfl) dX9_init_496 ob_48.1 ob_48.2.1 (by decide) ob_48.2.2.2 ft_9_23 (show rq 68 48 23 = some 64 from by decide +kernel) (rq_step (by decide +kernel)) ?_
  refine Z_aload0 hk dX9_init_499 ?_
  refine Z_iconst hk dX9_init_500 ?_
  refine Z_newa hk (k := 103) (N := 5) (t0 := 3) rfl (by decide +kernel) rfl rfl lk_a103 (by decide) rfl (by decide) (by decide) rfl dX9_init_501 (hq.2 65 (Or.inl (Nat.le_refl _))) (rq_none (by decide +kernel)) ⟨by decide, by decide⟩ ?_
  show Zj κ δ (ad0 δ) (rq 68) Q 1 (66, 17, 778) 503 [some (.ref (ad0 δ 48))] [.ref (ad0 δ 65), .ref (ad0 δ 48)] m74
  replace hq := hq.more
  refine Z_dup1 hk rfl dX9_init_503 ?_
  refine Z_iconst hk dX9_init_504 ?_
  refine Z_bipush hk dX9_init_505 (by decide) ?_
  refine Z_cast hk hA dX9_init_507 ar_65.1 (by decide) ar_65.2.2 (by decide) (by decide) (by decide) (by decide) ?_
  refine Z_fg (Wq.word hq (by decide) (by decide) (by decide)) (fun m75 hq => ?_)
  refine Z_dup1 hk rfl dX9_init_508 ?_
  refine Z_iconst hk dX9_init_509 ?_
  refine Z_bipush hk dX9_init_510 (by decide) ?_
  refine Z_cast hk hA dX9_init_512 ar_65.1 (by decide) ar_65.2.2 (by decide) (by decide) (by decide) (by decide) ?_
  refine Z_fg (Wq.word hq (by decide) (by decide) (by decide)) (fun m76 hq => ?_)
  refine Z_dup1 hk rfl dX9_init_513 ?_
  refine Z_iconst hk dX9_init_514 ?_
  refine Z_bipush hk dX9_init_515 (by decide) ?_
  refine Z_cast hk hA dX9_init_517 ar_65.1 (by decide) ar_65.2.2 (by decide) (by decide) (by decide) (by decide) ?_
  refine Z_fg (Wq.word hq (by decide) (by decide) (by decide)) (fun m77 hq => ?_)
  refine Z_dup1 hk rfl dX9_init_518 ?_
  refine Z_iconst hk dX9_init_519 ?_
  refine Z_bipush hk dX9_init_520 (by decide) ?_
  refine Z_cast hk hA dX9_init_522 ar_65.1 (by decide) ar_65.2.2 (by decide) (by decide) (by decide) (by decide) ?_
  refine Z_fg (Wq.word hq (by decide) (by decide) (by decide)) (fun m78 hq => ?_)
  refine Z_dup1 hk rfl dX9_init_523 ?_
  refine Z_iconst hk dX9_init_524 ?_
  refine Z_bipush hk dX9_init_525 (by decide) ?_
  refine Z_cast hk hA dX9_init_527 ar_65.1 (by decide) ar_65.2.2 (by decide) (by decide) (by decide) (by decide) ?_
  refine Z_fg (Wq.word hq (by decide) (by decide) (by decide)) (fun m79 hq => ?_)
  refine Z_putRF hk hn hA fl_9_63 (fun q h => by cases (Option.some.inj h : (RX9, TX9, 113) = q); rfl) dX9_init_528 ob_48.1 ob_48.2.1 (by decide) ob_48.2.2.2 ft_9_24 (show rq 69 48 24 = some 65 from by decide +kernel) (rq_step (by decide +kernel)) ?_
  refine Z_aload0 hk dX9_init_531 ?_
  refine Z_iconst hk dX9_init_532 ?_
  refine Z_newa hk (k := 103) (N := 4) (t0 := 3) rfl (by decide +kernel) rfl rfl lk_a103 (by decide) rfl (by decide) (by decide) rfl dX9_init_533 (hq.2 66 (Or.inl (Nat.le_refl _))) (rq_none (by decide +kernel)) ⟨by decide, by decide⟩ ?_
  show Zj κ δ (ad0 δ) (rq 69) Q 1 (67, 18, 782) 535 [some (.ref (ad0 δ 48))] [.ref (ad0 δ 66), .ref (ad0 δ 48)] m79
  replace hq := hq.more
  refine Z_dup1 hk rfl dX9_init_535 ?_
  refine Z_iconst hk dX9_init_536 ?_
  refine Z_bipush hk dX9_init_537 (by decide) ?_
  refine Z_cast hk hA dX9_init_539 ar_66.1 (by decide) ar_66.2.2 (by decide) (by decide) (by decide) (by decide) ?_
  refine Z_fg (Wq.word hq (by decide) (by decide) (by decide)) (fun m80 hq => ?_)
  refine Z_dup1 hk rfl dX9_init_540 ?_
  refine Z_iconst hk dX9_init_541 ?_
  refine Z_bipush hk dX9_init_542 (by decide) ?_
  refine Z_cast hk hA dX9_init_544 ar_66.1 (by decide) ar_66.2.2 (by decide) (by decide) (by decide) (by decide) ?_
  refine Z_fg (Wq.word hq (by decide) (by decide) (by decide)) (fun m81 hq => ?_)
  refine Z_dup1 hk rfl dX9_init_545 ?_
  refine Z_iconst hk dX9_init_546 ?_
  refine Z_bipush hk dX9_init_547 (by decide) ?_
  refine Z_cast hk hA dX9_init_549 ar_66.1 (by decide) ar_66.2.2 (by decide) (by decide) (by decide) (by decide) ?_
  refine Z_fg (Wq.word hq (by decide) (by decide) (by decide)) (fun m82 hq => ?_)
  refine Z_dup1 hk rfl dX9_init_550 ?_
  refine Z_iconst hk dX9_init_551 ?_
  refine Z_bipush hk dX9_init_552 (by decide) ?_
  refine Z_cast hk hA dX9_init_554 ar_66.1 (by decide) ar_66.2.2 (by decide) (by decide) (by decide) (by decide) ?_
  refine Z_fg (Wq.word hq (by decide) (by decide) (by decide)) (fun m83 hq => ?_)
  refine Z_putRF hk hn hA fl_9_66 (fun q h => by cases (Option.some.inj h : (RX9, TX9, 113) = q); rfl) dX9_init_555 ob_48.1 ob_48.2.1 (by decide) ob_48.2.2.2 ft_9_25 (show rq 70 48 25 = some 66 from by decide +kernel) (rq_step (by decide +kernel)) ?_
  refine Z_aload0 hk dX9_init_558 ?_
  refine Z_iconst hk dX9_init_559 ?_
  refine Z_newa hk (k := 103) (N := 2) (t0 := 3) rfl (by decide +kernel) rfl rfl lk_a103 (by decide) rfl (by decide) (by decide) rfl dX9_init_560 (hq.2 67 (Or.inl (Nat.le_refl _))) (rq_none (by decide +kernel)) ⟨by decide, by decide⟩ ?_
  show Zj κ δ (ad0 δ) (rq 70) Q 1 (68, 19, 784) 562 [some (.ref (ad0 δ 48))] [.ref (ad0 δ 67), .ref (ad0 δ 48)] m83
  replace hq := hq.more
  refine Z_dup1 hk rfl dX9_init_562 ?_
  refine Z_iconst hk dX9_init_563 ?_
  refine Z_bipush hk dX9_init_564 (by decide) ?_
  refine Z_cast hk hA dX9_init_566 ar_67.1 (by decide) ar_67.2.2 (by decide) (by decide) (by decide) (by decide) ?_
  refine Z_fg (Wq.word hq (by decide) (by decide) (by decide)) (fun m84 hq => ?_)
  refine Z_dup1 hk rfl dX9_init_567 ?_
  refine Z_iconst hk dX9_init_568 ?_
  refine Z_bipush hk dX9_init_569 (by decide) ?_
  refine Z_cast hk hA dX9_init_571 ar_67.1 (by decide) ar_67.2.2 (by decide) (by decide) (by decide) (by decide) ?_
  refine Z_fg (Wq.word hq (by decide) (by decide) (by decide)) (fun m85 hq => ?_)
  refine Z_putRF hk hn hA fl_9_69 (fun q h => by cases (Option.some.inj h : (RX9, TX9, 113) = q); rfl) dX9_init_572 ob_48.1 ob_48.2.1 (by decide) ob_48.2.2.2 ft_9_26 (show rq 71 48 26 = some 67 from by decide +kernel) (rq_step (by decide +kernel)) ?_
  refine Z_aload0 hk dX9_init_575 ?_
  refine Z_iconst hk dX9_init_576 ?_
  refine Z_newa hk (k := 103) (N := 3) (t0 := 3) rfl (by decide +kernel) rfl rfl lk_a103 (by decide) rfl (by decide) (by decide) rfl dX9_init_577 (hq.2 68 (Or.inl (Nat.le_refl _))) (rq_none (by decide +kernel)) ⟨by decide, by decide⟩ ?_
  show Zj κ δ (ad0 δ) (rq 71) Q 1 (69, 20, 787) 579 [some (.ref (ad0 δ 48))] [.ref (ad0 δ 68), .ref (ad0 δ 48)] m85
  replace hq := hq.more
  refine Z_dup1 hk rfl dX9_init_579 ?_
  refine Z_iconst hk dX9_init_580 ?_
  refine Z_bipush hk dX9_init_581 (by decide) ?_
  refine Z_cast hk hA dX9_init_583 ar_68.1 (by decide) ar_68.2.2 (by decide) (by decide) (by decide) (by decide) ?_
  refine Z_fg (Wq.word hq (by decide) (by decide) (by decide)) (fun m86 hq => ?_)
  refine Z_dup1 hk rfl dX9_init_584 ?_
  refine Z_iconst hk dX9_init_585 ?_
  refine Z_bipush hk dX9_init_586 (by decide) ?_
  refine Z_cast hk hA dX9_init_588 ar_68.1 (by decide) ar_68.2.2 (by decide) (by decide) (by decide) (by decide) ?_
  refine Z_fg (Wq.word hq (by decide) (by decide) (by decide)) (fun m87 hq => ?_)
  refine Z_dup1 hk rfl dX9_init_589 ?_
  refine Z_iconst hk dX9_init_590 ?_
  refine Z_bipush hk dX9_init_591 (by decide) ?_
  refine Z_cast hk hA dX9_init_593 ar_68.1 (by decide) ar_68.2.2 (by decide) (by decide) (by decide) (by decide) ?_
  refine Z_fg (Wq.word hq (by decide) (by decide) (by decide)) (fun m88 hq => ?_)
  refine Z_putRF hk hn hA fl_9_72 (fun q h => by cases (Option.some.inj h : (RX9, TX9, 113) = q); rfl) dX9_init_594 ob_48.1 ob_48.2.1 (by decide) ob_48.2.2.2 ft_9_27 (show rq 72 48 27 = some 68 from by decide +kernel) (rq_step (by decide +kernel)) ?_
  refine Z_aload0 hk dX9_init_597 ?_
  refine Z_iconst hk dX9_init_598 ?_
  refine Z_newa hk (k := 103) (N := 3) (t0 := 3) rfl (by decide +kernel) rfl rfl lk_a103 (by decide) rfl (by decide) (by decide) rfl dX9_init_599 (hq.2 69 (Or.inl (Nat.le_refl _))) (rq_none (by decide +kernel)) ⟨by decide, by decide⟩ ?_
  show Zj κ δ (ad0 δ) (rq 72) Q 1 (70, 21, 790) 601 [some (.ref (ad0 δ 48))] [.ref (ad0 δ 69), .ref (ad0 δ 48)] m88
  replace hq := hq.more
  refine Z_dup1 hk rfl dX9_init_601 ?_
  refine Z_iconst hk dX9_init_602 ?_
  refine Z_bipush hk dX9_init_603 (by decide) ?_
  refine Z_cast hk hA dX9_init_605 ar_69.1 (by decide) ar_69.2.2 (by decide) (by decide) (by decide) (by decide) ?_
  refine Z_fg (Wq.word hq (by decide) (by decide) (by decide)) (fun m89 hq => ?_)
  refine Z_dup1 hk rfl dX9_init_606 ?_
  refine Z_iconst hk dX9_init_607 ?_
  refine Z_bipush hk dX9_init_608 (by decide) ?_
  refine Z_cast hk hA dX9_init_610 ar_69.1 (by decide) ar_69.2.2 (by decide) (by decide) (by decide) (by decide) ?_
  refine Z_fg (Wq.word hq (by decide) (by decide) (by decide)) (fun m90 hq => ?_)
  refine Z_dup1 hk rfl dX9_init_611 ?_
  refine Z_iconst hk dX9_init_612 ?_
  refine Z_bipush hk dX9_init_613 (by decide) ?_
  refine Z_cast hk hA dX9_init_615 ar_69.1 (by decide) ar_69.2.2 (by decide) (by decide) (by decide) (by decide) ?_
  refine Z_fg (Wq.word hq (by decide) (by decide) (by decide)) (fun m91 hq => ?_)
  refine Z_putRF hk hn hA fl_9_75 (fun q h => by cases (Option.some.inj h : (RX9, TX9, 113) = q); rfl) dX9_init_616 ob_48.1 ob_48.2.1 (by decide) ob_48.2.2.2 ft_9_28 (show rq 73 48 28 = some 69 from by decide +kernel) (rq_step (by decide +kernel)) ?_
  refine Z_aload0 hk dX9_init_619 ?_
  refine Z_iconst hk dX9_init_620 ?_
  refine Z_newa hk (k := 103) (N := 4) (t0 := 3) rfl (by decide +kernel) rfl rfl lk_a103 (by decide) rfl (by decide) (by decide) rfl dX9_init_621 (hq.2 70 (Or.inl (Nat.le_refl _))) (rq_none (by decide +kernel)) ⟨by decide, by decide⟩ ?_
  show Zj κ δ (ad0 δ) (rq 73) Q 1 (71, 22, 794) 623 [some (.ref (ad0 δ 48))] [.ref (ad0 δ 70), .ref (ad0 δ 48)] m91
  replace hq := hq.more
  refine Z_dup1 hk rfl dX9_init_623 ?_
  refine Z_iconst hk dX9_init_624 ?_
  refine Z_bipush hk dX9_init_625 (by decide) ?_
  refine Z_cast hk hA dX9_init_627 ar_70.1 (by decide) ar_70.2.2 (by decide) (by decide) (by decide) (by decide) ?_
  refine Z_fg (Wq.word hq (by decide) (by decide) (by decide)) (fun m92 hq => ?_)
  refine Z_dup1 hk rfl dX9_init_628 ?_
  refine Z_iconst hk dX9_init_629 ?_
  refine Z_bipush hk dX9_init_630 (by decide) ?_
  refine Z_cast hk hA dX9_init_632 ar_70.1 (by decide) ar_70.2.2 (by decide) (by decide) (by decide) (by decide) ?_
  refine Z_fg (Wq.word hq (by decide) (by decide) (by decide)) (fun m93 hq => ?_)
  refine Z_dup1 hk rfl dX9_init_633 ?_
  refine Z_iconst hk dX9_init_634 ?_
  refine Z_bipush hk dX9_init_635 (by decide) ?_
  refine Z_cast hk hA dX9_init_637 ar_70.1 (by decide) ar_70.2.2 (by decide) (by decide) (by decide) (by decide) ?_
  refine Z_fg (Wq.word hq (by decide) (by decide) (by decide)) (fun m94 hq => ?_)
  refine Z_dup1 hk rfl dX9_init_638 ?_
  refine Z_iconst hk dX9_init_639 ?_
  refine Z_bipush hk dX9_init_640 (by decide) ?_
  refine Z_cast hk hA dX9_init_642 ar_70.1 (by decide) ar_70.2.2 (by decide) (by decide) (by decide) (by decide) ?_
  refine Z_fg (Wq.word hq (by decide) (by decide) (by decide)) (fun m95 hq => ?_)
  refine Z_putRF hk hn hA fl_9_78 (fun q h => by cases (Option.some.inj h : (RX9, TX9, 113) = q); rfl) dX9_init_643 ob_48.1 ob_48.2.1 (by decide) ob_48.2.2.2 ft_9_29 (show rq 74 48 29 = some 70 from by decide +kernel) (rq_step (by decide +kernel)) ?_
  refine Z_aload0 hk dX9_init_646 ?_
  refine Z_iconst hk dX9_init_647 ?_
  refine Z_newa hk (k := 103) (N := 5) (t0 := 3) rfl (by decide +kernel) rfl rfl lk_a103 (by decide) rfl (by decide) (by decide) rfl dX9_init_648 (hq.2 71 (Or.inl (Nat.le_refl _))) (rq_none (by decide +kernel)) ⟨by decide, by decide⟩ ?_
  show Zj κ δ (ad0 δ) (rq 74) Q 1 (72, 23, 799) 650 [some (.ref (ad0 δ 48))] [.ref (ad0 δ 71), .ref (ad0 δ 48)] m95
  replace hq := hq.more
  refine Z_dup1 hk rfl dX9_init_650 ?_
  refine Z_iconst hk dX9_init_651 ?_
  refine Z_bipush hk dX9_init_652 (by decide) ?_
  refine Z_cast hk hA dX9_init_654 ar_71.1 (by decide) ar_71.2.2 (by decide) (by decide) (by decide) (by decide) ?_
  refine Z_fg (Wq.word hq (by decide) (by decide) (by decide)) (fun m96 hq => ?_)
  refine Z_dup1 hk rfl dX9_init_655 ?_
  refine Z_iconst hk dX9_init_656 ?_
  refine Z_bipush hk dX9_init_657 (by decide) ?_
  refine Z_cast hk hA dX9_init_659 ar_71.1 (by decide) ar_71.2.2 (by decide) (by decide) (by decide) (by decide) ?_
  refine Z_fg (Wq.word hq (by decide) (by decide) (by decide)) (fun m97 hq => ?_)
  refine Z_dup1 hk rfl dX9_init_660 ?_
  refine Z_iconst hk dX9_init_661 ?_
  refine Z_bipush hk dX9_init_662 (by decide) ?_
  refine Z_cast hk hA dX9_init_664 ar_71.1 (by decide) ar_71.2.2 (by decide) (by decide) (by decide) (by decide) ?_
  refine Z_fg (Wq.word hq (by decide) (by decide) (by decide)) (fun m98 hq => ?_)
  refine Z_dup1 hk rfl dX9_init_665 ?_
  refine Z_iconst hk dX9_init_666 ?_
  refine Z_bipush hk dX9_init_667 (by decide) ?_
  refine Z_cast hk hA dX9_init_669 ar_71.1 (by decide) ar_71.2.2 (by decide) (by decide) (by decide) (by decide) ?_
  refine Z_fg (Wq.word hq (by decide) (by decide) (by decide)) (fun m99 hq => ?_)
  refine Z_dup1 hk rfl dX9_init_670 ?_
  refine Z_iconst hk dX9_init_671 ?_
  refine Z_bipush hk dX9_init_672 (by decide) ?_
  refine Z_cast hk hA dX9_init_674 ar_71.1 (by decide) ar_71.2.2 (by decide) (by decide) (by decide) (by decide) ?_
  refine Z_fg (Wq.word hq (by decide) (by decide) (by decide)) (fun m100 hq => ?_)
  refine Z_putRF hk hn hA fl_9_81 (fun q h => by cases (Option.some.inj h : (RX9, TX9, 113) = q); rfl) dX9_init_675 ob_48.1 ob_48.2.1 (by decide) ob_48.2.2.2 ft_9_30 (show rq 75 48 30 = some 71 from by decide +kernel) (rq_step (by decide +kernel)) ?_
  refine Z_aload0 hk dX9_init_678 ?_
  refine Z_iconst hk dX9_init_679 ?_
  refine Z_newa hk (k := 103) (N := 5) (t0 := 3) rfl (by decide +kernel) rfl rfl lk_a103 (by decide) rfl (by decide) (by decide) rfl dX9_init_680 (hq.2 72 (Or.inl (Nat.le_refl _))) (rq_none (by decide +kernel)) ⟨by decide, by decide⟩ ?_
  show Zj κ δ (ad0 δ) (rq 75) Q 1 (73, 24, 804) 682 [some (.ref (ad0 δ 48))] [.ref (ad0 δ 72), .ref (ad0 δ 48)] m100
  replace hq := hq.more
  refine Z_dup1 hk rfl dX9_init_682 ?_
  refine Z_iconst hk dX9_init_683 ?_
  refine Z_bipush hk dX9_init_684 (by decide) ?_
  refine Z_cast hk hA dX9_init_686 ar_72.1 (by decide) ar_72.2.2 (by decide) (by decide) (by decide) (by decide) ?_
  refine Z_fg (Wq.word hq (by decide) (by decide) (by decide)) (fun m101 hq => ?_)
  refine Z_dup1 hk rfl dX9_init_687 ?_
  refine Z_iconst hk dX9_init_688 ?_
  refine Z_bipush hk dX9_init_689 (by decide) ?_
  refine Z_cast hk hA dX9_init_691 ar_72.1 (by decide) ar_72.2.2 (by decide) (by decide) (by decide) (by decide) ?_
  refine Z_fg (Wq.word hq (by decide) (by decide) (by decide)) (fun m102 hq => ?_)
  refine Z_dup1 hk rfl dX9_init_692 ?_
  refine Z_iconst hk dX9_init_693 ?_
  refine Z_bipush hk dX9_init_694 (by decide) ?_
  refine Z_cast hk hA dX9_init_696 ar_72.1 (by decide) ar_72.2.2 (by decide) (by decide) (by decide) (by decide) ?_
  refine Z_fg (Wq.word hq (by decide) (by decide) (by decide)) (fun m103 hq => ?_)
  refine Z_dup1 hk rfl dX9_init_697 ?_
  refine Z_iconst hk dX9_init_698 ?_
  refine Z_bipush hk dX9_init_699 (by decide) ?_
  refine Z_cast hk hA dX9_init_701 ar_72.1 (by decide) ar_72.2.2 (by decide) (by decide) (by decide) (by decide) ?_
  refine Z_fg (Wq.word hq (by decide) (by decide) (by decide)) (fun m104 hq => ?_)
  refine Z_dup1 hk rfl dX9_init_702 ?_
  refine Z_iconst hk dX9_init_703 ?_
  refine Z_bipush hk dX9_init_704 (by decide) ?_
  refine Z_cast hk hA dX9_init_706 ar_72.1 (by decide) ar_72.2.2 (by decide) (by decide) (by decide) (by decide) ?_
  refine Z_fg (Wq.word hq (by decide) (by decide) (by decide)) (fun m105 hq => ?_)
  refine Z_putRF hk hn hA fl_9_84 (fun q h => by cases (Option.some.inj h : (RX9, TX9, 113) = q); rfl) dX9_init_707 ob_48.1 ob_48.2.1 (by decide) ob_48.2.2.2 ft_9_31 (show rq 76 48 31 = some 72 from by decide +kernel) (rq_step (by decide +kernel)) ?_
  refine Z_aload0 hk dX9_init_710 ?_
  refine Z_iconst hk dX9_init_711 ?_
  refine Z_newa hk (k := 103) (N := 4) (t0 := 3) rfl (by decide +kernel) rfl rfl lk_a103 (by decide) rfl (by decide) (by decide) rfl dX9_init_712 (hq.2 73 (Or.inl (Nat.le_refl _))) (rq_none (by decide +kernel)) ⟨by decide, by decide⟩ ?_
  show Zj κ δ (ad0 δ) (rq 76) Q 1 (74, 25, 808) 714 [some (.ref (ad0 δ 48))] [.ref (ad0 δ 73), .ref (ad0 δ 48)] m105
  replace hq := hq.more
  refine Z_dup1 hk rfl dX9_init_714 ?_
  refine Z_iconst hk dX9_init_715 ?_
  refine Z_bipush hk dX9_init_716 (by decide) ?_
  refine Z_cast hk hA dX9_init_718 ar_73.1 (by decide) ar_73.2.2 (by decide) (by decide) (by decide) (by decide) ?_
  refine Z_fg (Wq.word hq (by decide) (by decide) (by decide)) (fun m106 hq => ?_)
  refine Z_dup1 hk rfl dX9_init_719 ?_
  refine Z_iconst hk dX9_init_720 ?_
  refine Z_bipush hk dX9_init_721 (by decide) ?_
  refine Z_cast hk hA dX9_init_723 ar_73.1 (by decide) ar_73.2.2 (by decide) (by decide) (by decide) (by decide) ?_
  refine Z_fg (Wq.word hq (by decide) (by decide) (by decide)) (fun m107 hq => ?_)
  refine Z_dup1 hk rfl dX9_init_724 ?_
  refine Z_iconst hk dX9_init_725 ?_
  refine Z_bipush hk dX9_init_726 (by decide) ?_
  refine Z_cast hk hA dX9_init_728 ar_73.1 (by decide) ar_73.2.2 (by decide) (by decide) (by decide) (by decide) ?_
  refine Z_fg (Wq.word hq (by decide) (by decide) (by decide)) (fun m108 hq => ?_)
  refine Z_dup1 hk rfl dX9_init_729 ?_
  refine Z_iconst hk dX9_init_730 ?_
  refine Z_bipush hk dX9_init_731 (by decide) ?_
  refine Z_cast hk hA dX9_init_733 ar_73.1 (by decide) ar_73.2.2 (by decide) (by decide) (by decide) (by decide) ?_
  refine Z_fg (Wq.word hq (by decide) (by decide) (by decide)) (fun m109 hq => ?_)
  refine Z_putRF hk hn hA fl_9_87 (fun q h => by cases (Option.some.inj h : (RX9, TX9, 113) = q); rfl) dX9_init_734 ob_48.1 ob_48.2.1 (by decide) ob_48.2.2.2 ft_9_32 (show rq 77 48 32 = some 73 from by decide +kernel) (rq_step (by decide +kernel)) ?_
  refine Z_aload0 hk dX9_init_737 ?_
  refine Z_bipush hk dX9_init_738 (by decide) ?_
  refine Z_newa hk (k := 103) (N := 6) (t0 := 3) rfl (by decide +kernel) rfl rfl lk_a103 (by decide) rfl (by decide) (by decide) rfl dX9_init_740 (hq.2 74 (Or.inl (Nat.le_refl _))) (rq_none (by decide +kernel)) ⟨by decide, by decide⟩ ?_
  show Zj κ δ (ad0 δ) (rq 77) Q 1 (75, 26, 814) 742 [some (.ref (ad0 δ 48))] [.ref (ad0 δ 74), .ref (ad0 δ 48)] m109
  replace hq := hq.more
  refine Z_dup1 hk rfl dX9_init_742 ?_
  refine Z_iconst hk dX9_init_743 ?_
  refine Z_bipush hk dX9_init_744 (by decide) ?_
  refine Z_cast hk hA dX9_init_746 ar_74.1 (by decide) ar_74.2.2 (by decide) (by decide) (by decide) (by decide) ?_
  refine Z_fg (Wq.word hq (by decide) (by decide) (by decide)) (fun m110 hq => ?_)
  refine Z_dup1 hk rfl dX9_init_747 ?_
  refine Z_iconst hk dX9_init_748 ?_
  refine Z_bipush hk dX9_init_749 (by decide) ?_
  refine Z_cast hk hA dX9_init_751 ar_74.1 (by decide) ar_74.2.2 (by decide) (by decide) (by decide) (by decide) ?_
  refine Z_fg (Wq.word hq (by decide) (by decide) (by decide)) (fun m111 hq => ?_)
  refine Z_dup1 hk rfl dX9_init_752 ?_
  refine Z_iconst hk dX9_init_753 ?_
  refine Z_bipush hk dX9_init_754 (by decide) ?_
  refine Z_cast hk hA dX9_init_756 ar_74.1 (by decide) ar_74.2.2 (by decide) (by decide) (by decide) (by decide) ?_
  refine Z_fg (Wq.word hq (by decide) (by decide) (by decide)) (fun m112 hq => ?_)
  refine Z_dup1 hk rfl dX9_init_757 ?_
  refine Z_iconst hk dX9_init_758 ?_
  refine Z_bipush hk dX9_init_759 (by decide) ?_
  refine Z_cast hk hA dX9_init_761 ar_74.1 (by decide) ar_74.2.2 (by decide) (by decide) (by decide) (by decide) ?_
  refine Z_fg (Wq.word hq (by decide) (by decide) (by decide)) (fun m113 hq => ?_)
  refine Z_dup1 hk rfl dX9_init_762 ?_
  refine Z_iconst hk dX9_init_763 ?_
  refine Z_bipush hk dX9_init_764 (by decide) ?_
  refine Z_cast hk hA dX9_init_766 ar_74.1 (by decide) ar_74.2.2 (by decide) (by decide) (by decide) (by decide) ?_
  refine Z_fg (Wq.word hq (by decide) (by decide) (by decide)) (fun m114 hq => ?_)
  refine Z_dup1 hk rfl dX9_init_767 ?_
  refine Z_iconst hk dX9_init_768 ?_
  refine Z_bipush hk dX9_init_769 (by decide) ?_
  refine Z_cast hk hA dX9_init_771 ar_74.1 (by decide) ar_74.2.2 (by decide) (by decide) (by decide) (by decide) ?_
  refine Z_fg (Wq.word hq (by decide) (by decide) (by decide)) (fun m115 hq => ?_)
  refine Z_putRF hk hn hA fl_9_90 (fun q h => by cases (Option.some.inj h : (RX9, TX9, 113) = q); rfl) dX9_init_772 ob_48.1 ob_48.2.1 (by decide) ob_48.2.2.2 ft_9_33 (show rq 78 48 33 = some 74 from by decide +kernel) (rq_step (by decide +kernel)) ?_
  refine Z_aload0 hk dX9_init_775 ?_
  refine Z_iconst hk dX9_init_776 ?_
  refine Z_newa hk (k := 103) (N := 5) (t0 := 3) rfl (by decide +kernel) rfl rfl lk_a103 (by decide) rfl (by decide) (by decide) rfl dX9_init_777 (hq.2 75 (Or.inl (Nat.le_refl _))) (rq_none (by decide +kernel)) ⟨by decide, by decide⟩ ?_
  show Zj κ δ (ad0 δ) (rq 78) Q 1 (76, 27, 819) 779 [some (.ref (ad0 δ 48))] [.ref (ad0 δ 75), .ref (ad0 δ 48)] m115
  replace hq := hq.more
  refine Z_dup1 hk rfl dX9_init_779 ?_
  refine Z_iconst hk dX9_init_780 ?_
  refine Z_bipush hk dX9_init_781 (by decide) ?_
  refine Z_cast hk hA dX9_init_783 ar_75.1 (by decide) ar_75.2.2 (by decide) (by decide) (by decide) (by decide) ?_
  refine Z_fg (Wq.word hq (by decide) (by decide) (by decide)) (fun m116 hq => ?_)
  refine Z_dup1 hk rfl dX9_init_784 ?_
  refine Z_iconst hk dX9_init_785 ?_
  refine Z_bipush hk dX9_init_786 (by decide) ?_
  refine Z_cast hk hA dX9_init_788 ar_75.1 (by decide) ar_75.2.2 (by decide) (by decide) (by decide) (by decide) ?_
  refine Z_fg (Wq.word hq (by decide) (by decide) (by decide)) (fun m117 hq => ?_)
  refine Z_dup1 hk rfl dX9_init_789 ?_
  refine Z_iconst hk dX9_init_790 ?_
  refine Z_bipush hk dX9_init_791 (by decide) ?_
  refine Z_cast hk hA dX9_init_793 ar_75.1 (by decide) ar_75.2.2 (by decide) (by decide) (by decide) (by decide) ?_
  refine Z_fg (Wq.word hq (by decide) (by decide) (by decide)) (fun m118 hq => ?_)
  refine Z_dup1 hk rfl dX9_init_794 ?_
  refine Z_iconst hk dX9_init_795 ?_
  refine Z_bipush hk dX9_init_796 (by decide) ?_
  refine Z_cast hk hA dX9_init_798 ar_75.1 (by decide) ar_75.2.2 (by decide) (by decide) (by decide) (by decide) ?_
  refine Z_fg (Wq.word hq (by decide) (by decide) (by decide)) (fun m119 hq => ?_)
  refine Z_dup1 hk rfl dX9_init_799 ?_
  refine Z_iconst hk dX9_init_800 ?_
  refine Z_bipush hk dX9_init_801 (by decide) ?_
  refine Z_cast hk hA dX9_init_803 ar_75.1 (by decide) ar_75.2.2 (by decide) (by decide) (by decide) (by decide) ?_
  refine Z_fg (Wq.word hq (by decide) (by decide) (by decide)) (fun m120 hq => ?_)
  refine Z_putRF hk hn hA fl_9_93 (fun q h => by cases (Option.some.inj h : (RX9, TX9, 113) = q); rfl) dX9_init_804 ob_48.1 ob_48.2.1 (by decide) ob_48.2.2.2 ft_9_34 (show rq 79 48 34 = some 75 from by decide +kernel) (rq_step (by decide +kernel)) ?_
  refine Z_aload0 hk dX9_init_807 ?_
  refine Z_iconst hk dX9_init_808 ?_
  refine Z_newa hk (k := 103) (N := 4) (t0 := 3) rfl (by decide +kernel) rfl rfl lk_a103 (by decide) rfl (by decide) (by decide) rfl dX9_init_809 (hq.2 76 (Or.inl (Nat.le_refl _))) (rq_none (by decide +kernel)) ⟨by decide, by decide⟩ ?_
  show Zj κ δ (ad0 δ) (rq 79) Q 1 (77, 28, 823) 811 [some (.ref (ad0 δ 48))] [.ref (ad0 δ 76), .ref (ad0 δ 48)] m120
  replace hq := hq.more
  refine Z_dup1 hk rfl dX9_init_811 ?_
  refine Z_iconst hk dX9_init_812 ?_
  refine Z_bipush hk dX9_init_813 (by decide) ?_
  refine Z_cast hk hA dX9_init_815 ar_76.1 (by decide) ar_76.2.2 (by decide) (by decide) (by decide) (by decide) ?_
  refine Z_fg (Wq.word hq (by decide) (by decide) (by decide)) (fun m121 hq => ?_)
  refine Z_dup1 hk rfl dX9_init_816 ?_
  refine Z_iconst hk dX9_init_817 ?_
  refine Z_bipush hk dX9_init_818 (by decide) ?_
  refine Z_cast hk hA dX9_init_820 ar_76.1 (by decide) ar_76.2.2 (by decide) (by decide) (by decide) (by decide) ?_
  refine Z_fg (Wq.word hq (by decide) (by decide) (by decide)) (fun m122 hq => ?_)
  refine Z_dup1 hk rfl dX9_init_821 ?_
  refine Z_iconst hk dX9_init_822 ?_
  refine Z_bipush hk dX9_init_823 (by decide) ?_
  refine Z_cast hk hA dX9_init_825 ar_76.1 (by decide) ar_76.2.2 (by decide) (by decide) (by decide) (by decide) ?_
  refine Z_fg (Wq.word hq (by decide) (by decide) (by decide)) (fun m123 hq => ?_)
  refine Z_dup1 hk rfl dX9_init_826 ?_
  refine Z_iconst hk dX9_init_827 ?_
  refine Z_bipush hk dX9_init_828 (by decide) ?_
  refine Z_cast hk hA dX9_init_830 ar_76.1 (by decide) ar_76.2.2 (by decide) (by decide) (by decide) (by decide) ?_
  refine Z_fg (Wq.word hq (by decide) (by decide) (by decide)) (fun m124 hq => ?_)
  refine Z_putRF hk hn hA fl_9_96 (fun q h => by cases (Option.some.inj h : (RX9, TX9, 113) = q); rfl) dX9_init_831 ob_48.1 ob_48.2.1 (by decide) ob_48.2.2.2 ft_9_35 (show rq 80 48 35 = some 76 from by decide +kernel) (rq_step (by decide +kernel)) ?_
  refine Z_aload0 hk dX9_init_834 ?_
  refine Z_iconst hk dX9_init_835 ?_
  refine Z_newa hk (k := 103) (N := 4) (t0 := 3) rfl (by decide +kernel) rfl rfl lk_a103 (by decide) rfl (by decide) (by decide) rfl dX9_init_836 (hq.2 77 (Or.inl (Nat.le_refl _))) (rq_none (by decide +kernel)) ⟨by decide, by decide⟩ ?_
  show Zj κ δ (ad0 δ) (rq 80) Q 1 (78, 29, 827) 838 [some (.ref (ad0 δ 48))] [.ref (ad0 δ 77), .ref (ad0 δ 48)] m124
  replace hq := hq.more
  refine Z_dup1 hk rfl dX9_init_838 ?_
  refine Z_iconst hk dX9_init_839 ?_
  refine Z_bipush hk dX9_init_840 (by decide) ?_
  refine Z_cast hk hA dX9_init_842 ar_77.1 (by decide) ar_77.2.2 (by decide) (by decide) (by decide) (by decide) ?_
  refine Z_fg (Wq.word hq (by decide) (by decide) (by decide)) (fun m125 hq => ?_)
  refine Z_dup1 hk rfl dX9_init_843 ?_
  refine Z_iconst hk dX9_init_844 ?_
  refine Z_bipush hk dX9_init_845 (by decide) ?_
  refine Z_cast hk hA dX9_init_847 ar_77.1 (by decide) ar_77.2.2 (by decide) (by decide) (by decide) (by decide) ?_
  refine Z_fg (Wq.word hq (by decide) (by decide) (by decide)) (fun m126 hq => ?_)
  refine Z_dup1 hk rfl dX9_init_848 ?_
  refine Z_iconst hk dX9_init_849 ?_
  refine Z_bipush hk dX9_init_850 (by decide) ?_
  refine Z_cast hk hA dX9_init_852 ar_77.1 (by decide) ar_77.2.2 (by decide) (by decide) (by decide) (by decide) ?_
  refine Z_fg (Wq.word hq (by decide) (by decide) (by decide)) (fun m127 hq => ?_)
  refine Z_dup1 hk rfl dX9_init_853 ?_
  refine Z_iconst hk dX9_init_854 ?_
  refine Z_bipush hk dX9_init_855 (by decide) ?_
  refine Z_cast hk hA dX9_init_857 ar_77.1 (by decide) ar_77.2.2 (by decide) (by decide) (by decide) (by decide) ?_
  refine Z_fg (Wq.word hq (by decide) (by decide) (by decide)) (fun m128 hq => ?_)
  refine Z_putRF hk hn hA fl_9_99 (fun q h => by cases (Option.some.inj h : (RX9, TX9, 113) = q); rfl) dX9_init_858 ob_48.1 ob_48.2.1 (by decide) ob_48.2.2.2 ft_9_36 (show rq 81 48 36 = some 77 from by decide +kernel) (rq_step (by decide +kernel)) ?_
  refine Z_aload0 hk dX9_init_861 ?_
  refine Z_iconst hk dX9_init_862 ?_
  refine Z_newa hk (k := 103) (N := 5) (t0 := 3) rfl (by decide +kernel) rfl rfl lk_a103 (by decide) rfl (by decide) (by decide) rfl dX9_init_863 (hq.2 78 (Or.inl (Nat.le_refl _))) (rq_none (by decide +kernel)) ⟨by decide, by decide⟩ ?_
  show Zj κ δ (ad0 δ) (rq 81) Q 1 (79, 30, 832) 865 [some (.ref (ad0 δ 48))] [.ref (ad0 δ 78), .ref (ad0 δ 48)] m128
  replace hq := hq.more
  refine Z_dup1 hk rfl dX9_init_865 ?_
  refine Z_iconst hk dX9_init_866 ?_
  refine Z_bipush hk dX9_init_867 (by decide) ?_
  refine Z_cast hk hA dX9_init_869 ar_78.1 (by decide) ar_78.2.2 (by decide) (by decide) (by decide) (by decide) ?_
  refine Z_fg (Wq.word hq (by decide) (by decide) (by decide)) (fun m129 hq => ?_)
  refine Z_dup1 hk rfl dX9_init_870 ?_
  refine Z_iconst hk dX9_init_871 ?_
  refine Z_bipush hk dX9_init_872 (by decide) ?_
  refine Z_cast hk hA dX9_init_874 ar_78.1 (by decide) ar_78.2.2 (by decide) (by decide) (by decide) (by decide) ?_
  refine Z_fg (Wq.word hq (by decide) (by decide) (by decide)) (fun m130 hq => ?_)
  refine Z_dup1 hk rfl dX9_init_875 ?_
  refine Z_iconst hk dX9_init_876 ?_
  refine Z_bipush hk dX9_init_877 (by decide) ?_
  refine Z_cast hk hA dX9_init_879 ar_78.1 (by decide) ar_78.2.2 (by decide) (by decide) (by decide) (by decide) ?_
  refine Z_fg (Wq.word hq (by decide) (by decide) (by decide)) (fun m131 hq => ?_)
  refine Z_dup1 hk rfl dX9_init_880 ?_
  refine Z_iconst hk dX9_init_881 ?_
  refine Z_bipush hk dX9_init_882 (by decide) ?_
  refine Z_cast hk hA dX9_init_884 ar_78.1 (by decide) ar_78.2.2 (by decide) (by decide) (by decide) (by decide) ?_
  refine Z_fg (Wq.word hq (by decide) (by decide) (by decide)) (fun m132 hq => ?_)
  refine Z_dup1 hk rfl dX9_init_885 ?_
  refine Z_iconst hk dX9_init_886 ?_
  refine Z_bipush hk dX9_init_887 (by decide) ?_
  refine Z_cast hk hA dX9_init_889 ar_78.1 (by decide) ar_78.2.2 (by decide) (by decide) (by decide) (by decide) ?_
  refine Z_fg (Wq.word hq (by decide) (by decide) (by decide)) (fun m133 hq => ?_)
  refine Z_putRF hk hn hA fl_9_102 (fun q h => by cases (Option.some.inj h : (RX9, TX9, 113) = q); rfl) dX9_init_890 ob_48.1 ob_48.2.1 (by decide) ob_48.2.2.2 ft_9_37 (show rq 82 48 37 = some 78 from by decide +kernel) (rq_step (by decide +kernel)) ?_
  refine Z_aload0 hk dX9_init_893 ?_
  refine Z_iconst hk dX9_init_894 ?_
  refine Z_newa hk (k := 103) (N := 3) (t0 := 3) rfl (by decide +kernel) rfl rfl lk_a103 (by decide) rfl (by decide) (by decide) rfl dX9_init_895 (hq.2 79 (Or.inl (Nat.le_refl _))) (rq_none (by decide +kernel)) ⟨by decide, by decide⟩ ?_
  show Zj κ δ (ad0 δ) (rq 82) Q 1 (80, 31, 835) 897 [some (.ref (ad0 δ 48))] [.ref (ad0 δ 79), .ref (ad0 δ 48)] m133
  replace hq := hq.more
  refine Z_dup1 hk rfl dX9_init_897 ?_
  refine Z_iconst hk dX9_init_898 ?_
  refine Z_bipush hk dX9_init_899 (by decide) ?_
  refine Z_cast hk hA dX9_init_901 ar_79.1 (by decide) ar_79.2.2 (by decide) (by decide) (by decide) (by decide) ?_
  refine Z_fg (Wq.word hq (by decide) (by decide) (by decide)) (fun m134 hq => ?_)
  refine Z_dup1 hk rfl dX9_init_902 ?_
  refine Z_iconst hk dX9_init_903 ?_
  refine Z_bipush hk dX9_init_904 (by decide) ?_
  refine Z_cast hk hA dX9_init_906 ar_79.1 (by decide) ar_79.2.2 (by decide) (by decide) (by decide) (by decide) ?_
  refine Z_fg (Wq.word hq (by decide) (by decide) (by decide)) (fun m135 hq => ?_)
  refine Z_dup1 hk rfl dX9_init_907 ?_
  refine Z_iconst hk dX9_init_908 ?_
  refine Z_bipush hk dX9_init_909 (by decide) ?_
  refine Z_cast hk hA dX9_init_911 ar_79.1 (by decide) ar_79.2.2 (by decide) (by decide) (by decide) (by decide) ?_
  refine Z_fg (Wq.word hq (by decide) (by decide) (by decide)) (fun m136 hq => ?_)
  refine Z_putRF hk hn hA fl_9_105 (fun q h => by cases (Option.some.inj h : (RX9, TX9, 113) = q); rfl) dX9_init_912 ob_48.1 ob_48.2.1 (by decide) ob_48.2.2.2 ft_9_38 (show rq 83 48 38 = some 79 from by decide +kernel) (rq_step (by decide +kernel)) ?_
  refine Z_aload0 hk dX9_init_915 ?_
  refine Z_iconst hk dX9_init_916 ?_
  refine Z_newa hk (k := 103) (N := 3) (t0 := 3) rfl (by decide +kernel) rfl rfl lk_a103 (by decide) rfl (by decide) (by decide) rfl dX9_init_917 (hq.2 80 (Or.inl (Nat.le_refl _))) (rq_none (by decide +kernel)) ⟨by decide, by decide⟩ ?_
  show Zj κ δ (ad0 δ) (rq 83) Q 1 (81, 32, 838) 919 [some (.ref (ad0 δ 48))] [.ref (ad0 δ 80), .ref (ad0 δ 48)] m136
  replace hq := hq.more
  refine Z_dup1 hk rfl dX9_init_919 ?_
  refine Z_iconst hk dX9_init_920 ?_
  refine Z_bipush hk dX9_init_921 (by decide) ?_
  refine Z_cast hk hA dX9_init_923 ar_80.1 (by decide) ar_80.2.2 (by decide) (by decide) (by decide) (by decide) ?_
  refine Z_fg (Wq.word hq (by decide) (by decide) (by decide)) (fun m137 hq => ?_)
  refine Z_dup1 hk rfl dX9_init_924 ?_
  refine Z_iconst hk dX9_init_925 ?_
  refine Z_bipush hk dX9_init_926 (by decide) ?_
  refine Z_cast hk hA dX9_init_928 ar_80.1 (by decide) ar_80.2.2 (by decide) (by decide) (by decide) (by decide) ?_
  refine Z_fg (Wq.word hq (by decide) (by decide) (by decide)) (fun m138 hq => ?_)
  refine Z_dup1 hk rfl dX9_init_929 ?_
  refine Z_iconst hk dX9_init_930 ?_
  refine Z_bipush hk dX9_init_931 (by decide) ?_
  refine Z_cast hk hA dX9_init_933 ar_80.1 (by decide) ar_80.2.2 (by decide) (by decide) (by decide) (by decide) ?_
  refine Z_fg (Wq.word hq (by decide) (by decide) (by decide)) (fun m139 hq => ?_)
  refine Z_putRF hk hn hA fl_9_108 (fun q h => by cases (Option.some.inj h : (RX9, TX9, 113) = q); rfl) dX9_init_934 ob_48.1 ob_48.2.1 (by decide) ob_48.2.2.2 ft_9_39 (show rq 84 48 39 = some 80 from by decide +kernel) (rq_step (by decide +kernel)) ?_
  refine Z_aload0 hk dX9_init_937 ?_
  refine Z_bipush hk dX9_init_938 (by decide) ?_
  refine Z_newa hk (k := 103) (N := 7) (t0 := 3) rfl (by decide +kernel) rfl rfl lk_a103 (by decide) rfl (by decide) (by decide) rfl dX9_init_940 (hq.2 81 (Or.inl (Nat.le_refl _))) (rq_none (by decide +kernel)) ⟨by decide, by decide⟩ ?_
  show Zj κ δ (ad0 δ) (rq 84) Q 1 (82, 33, 845) 942 [some (.ref (ad0 δ 48))] [.ref (ad0 δ 81), .ref (ad0 δ 48)] m139
  replace hq := hq.more
  refine Z_dup1 hk rfl dX9_init_942 ?_
  refine Z_iconst hk dX9_init_943 ?_
  refine Z_bipush hk dX9_init_944 (by decide) ?_
  refine Z_cast hk hA dX9_init_946 ar_81.1 (by decide) ar_81.2.2 (by decide) (by decide) (by decide) (by decide) ?_
  refine Z_fg (Wq.word hq (by decide) (by decide) (by decide)) (fun m140 hq => ?_)
  refine Z_dup1 hk rfl dX9_init_947 ?_
  refine Z_iconst hk dX9_init_948 ?_
  refine Z_bipush hk dX9_init_949 (by decide) ?_
  refine Z_cast hk hA dX9_init_951 ar_81.1 (by decide) ar_81.2.2 (by decide) (by decide) (by decide) (by decide) ?_
  refine Z_fg (Wq.word hq (by decide) (by decide) (by decide)) (fun m141 hq => ?_)
  refine Z_dup1 hk rfl dX9_init_952 ?_
  refine Z_iconst hk dX9_init_953 ?_
  refine Z_bipush hk dX9_init_954 (by decide) ?_
  refine Z_cast hk hA dX9_init_956 ar_81.1 (by decide) ar_81.2.2 (by decide) (by decide) (by decide) (by decide) ?_
  refine Z_fg (Wq.word hq (by decide) (by decide) (by decide)) (fun m142 hq => ?_)
  refine Z_dup1 hk rfl dX9_init_957 ?_
  refine Z_iconst hk dX9_init_958 ?_
  refine Z_bipush hk dX9_init_959 (by decide) ?_
  refine Z_cast hk hA dX9_init_961 ar_81.1 (by decide) ar_81.2.2 (by decide) (by decide) (by decide) (by decide) ?_
  refine Z_fg (Wq.word hq (by decide) (by decide) (by decide)) (fun m143 hq => ?_)
  refine Z_dup1 hk rfl dX9_init_962 ?_
  refine Z_iconst hk dX9_init_963 ?_
  refine Z_bipush hk dX9_init_964 (by decide) ?_
  refine Z_cast hk hA dX9_init_966 ar_81.1 (by decide) ar_81.2.2 (by decide) (by decide) (by decide) (by decide) ?_
  refine Z_fg (Wq.word hq (by decide) (by decide) (by decide)) (fun m144 hq => ?_)
  refine Z_dup1 hk rfl dX9_init_967 ?_
  refine Z_iconst hk dX9_init_968 ?_
  refine Z_bipush hk dX9_init_969 (by decide) ?_
  refine Z_cast hk hA dX9_init_971 ar_81.1 (by decide) ar_81.2.2 (by decide) (by decide) (by decide) (by decide) ?_
  refine Z_fg (Wq.word hq (by decide) (by decide) (by decide)) (fun m145 hq => ?_)
  refine Z_dup1 hk rfl dX9_init_972 ?_
  refine Z_bipush hk dX9_init_973 (by decide) ?_
  refine Z_bipush hk dX9_init_975 (by decide) ?_
  refine Z_cast hk hA dX9_init_977 ar_81.1 (by decide) ar_81.2.2 (by decide) (by decide) (by decide) (by decide) ?_
  refine Z_fg (Wq.word hq (by decide) (by decide) (by decide)) (fun m146 hq => ?_)
  refine Z_putRF hk hn hA fl_9_111 (fun q h => by cases (Option.some.inj h : (RX9, TX9, 113) = q); rfl) dX9_init_978 ob_48.1 ob_48.2.1 (by decide) ob_48.2.2.2 ft_9_40 (show rq 85 48 40 = some 81 from by decide +kernel) (rq_step (by decide +kernel)) ?_
  refine Z_aload0 hk dX9_init_981 ?_
  refine Z_sipush hk dX9_init_982 (by decide) ?_
  refine Z_newa hk (k := 100) (N := 1600) (t0 := 0) rfl (by decide +kernel) rfl rfl lk_a100 (by decide) rfl (by decide) (by decide) rfl dX9_init_985 (hq.2 82 (Or.inl (Nat.le_refl _))) (rq_none (by decide +kernel)) ⟨by decide, by decide⟩ ?_
  show Zj κ δ (ad0 δ) (rq 85) Q 1 (83, 34, 2445) 987 [some (.ref (ad0 δ 48))] [.ref (ad0 δ 82), .ref (ad0 δ 48)] m146
  replace hq := hq.more
  refine Z_putRF hk hn hA fl_9_114 (fun q h => by cases (Option.some.inj h : (RX9, TX9, 113) = q); rfl) dX9_init_987 ob_48.1 ob_48.2.1 (by decide) ob_48.2.2.2 ft_9_42 (show rq 86 48 42 = some 82 from by decide +kernel) (rq_step (by decide +kernel)) ?_
  refine Z_aload0 hk dX9_init_990 ?_
  refine Z_sipush hk dX9_init_991 (by decide) ?_
  refine Z_newa hk (k := 100) (N := 800) (t0 := 0) rfl (by decide +kernel) rfl rfl lk_a100 (by decide) rfl (by decide) (by decide) rfl dX9_init_994 (hq.2 83 (Or.inl (Nat.le_refl _))) (rq_none (by decide +kernel)) ⟨by decide, by decide⟩ ?_
  show Zj κ δ (ad0 δ) (rq 86) Q 1 (84, 35, 3245) 996 [some (.ref (ad0 δ 48))] [.ref (ad0 δ 83), .ref (ad0 δ 48)] m146
  replace hq := hq.more
  refine Z_putRF hk hn hA fl_9_117 (fun q h => by cases (Option.some.inj h : (RX9, TX9, 113) = q); rfl) dX9_init_996 ob_48.1 ob_48.2.1 (by decide) ob_48.2.2.2 ft_9_44 (show rq 87 48 44 = some 83 from by decide +kernel) (rq_step (by decide +kernel)) ?_
  refine Z_aload0 hk dX9_init_999 ?_
  refine Z_bipush hk dX9_init_1000 (by decide) ?_
  refine Z_newa hk (k := 101) (N := 6) (t0 := 1) rfl (by decide +kernel) rfl rfl lk_a101 (by decide) rfl (by decide) (by decide) rfl dX9_init_1002 (hq.2 84 (Or.inl (Nat.le_refl _))) (rq_none (by decide +kernel)) ⟨by decide, by decide⟩ ?_
  show Zj κ δ (ad0 δ) (rq 87) Q 1 (85, 36, 3251) 1004 [some (.ref (ad0 δ 48))] [.ref (ad0 δ 84), .ref (ad0 δ 48)] m146
  replace hq := hq.more
  refine Z_putRF hk hn hA fl_9_120 (fun q h => by cases (Option.some.inj h : (RX9, TX9, 113) = q); rfl) dX9_init_1004 ob_48.1 ob_48.2.1 (by decide) ob_48.2.2.2 ft_9_49 (show rq 88 48 49 = some 84 from by decide +kernel) (rq_step (by decide +kernel)) ?_
  refine Z_aload0 hk dX9_init_1007 ?_
  refine Z_iconst hk dX9_init_1008 ?_
  refine Z_newa hk (k := 102) (N := 4) (t0 := 2) rfl (by decide +kernel) rfl rfl lk_a102 (by decide) rfl (by decide) (by decide) rfl dX9_init_1009 (hq.2 85 (Or.inl (Nat.le_refl _))) (rq_none (by decide +kernel)) ⟨by decide, by decide⟩ ?_
  show Zj κ δ (ad0 δ) (rq 88) Q 1 (86, 37, 3255) 1011 [some (.ref (ad0 δ 48))] [.ref (ad0 δ 85), .ref (ad0 δ 48)] m146
  replace hq := hq.more
  refine Z_putRF hk hn hA fl_9_124 (fun q h => by cases (Option.some.inj h : (RX9, TX9, 113) = q); rfl) dX9_init_1011 ob_48.1 ob_48.2.1 (by decide) ob_48.2.2.2 ft_9_51 (show rq 89 48 51 = some 85 from by decide +kernel) (rq_step (by decide +kernel)) ?_
  refine Z_aload0 hk dX9_init_1014 ?_
  refine Z_iconst hk dX9_init_1015 ?_
  refine Z_newa hk (k := 100) (N := 4) (t0 := 0) rfl (by decide +kernel) rfl rfl lk_a100 (by decide) rfl (by decide) (by decide) rfl dX9_init_1016 (hq.2 86 (Or.inl (Nat.le_refl _))) (rq_none (by decide +kernel)) ⟨by decide, by decide⟩ ?_
  show Zj κ δ (ad0 δ) (rq 89) Q 1 (87, 38, 3259) 1018 [some (.ref (ad0 δ 48))] [.ref (ad0 δ 86), .ref (ad0 δ 48)] m146
  replace hq := hq.more
  refine Z_putRF hk hn hA fl_9_128 (fun q h => by cases (Option.some.inj h : (RX9, TX9, 113) = q); rfl) dX9_init_1018 ob_48.1 ob_48.2.1 (by decide) ob_48.2.2.2 ft_9_52 (show rq 90 48 52 = some 86 from by decide +kernel) (rq_step (by decide +kernel)) ?_
  refine Z_aload0 hk dX9_init_1021 ?_
  refine Z_iconst hk dX9_init_1022 ?_
  refine Z_newa hk (k := 100) (N := 4) (t0 := 0) rfl (by decide +kernel) rfl rfl lk_a100 (by decide) rfl (by decide) (by decide) rfl dX9_init_1023 (hq.2 87 (Or.inl (Nat.le_refl _))) (rq_none (by decide +kernel)) ⟨by decide, by decide⟩ ?_
  show Zj κ δ (ad0 δ) (rq 90) Q 1 (88, 39, 3263) 1025 [some (.ref (ad0 δ 48))] [.ref (ad0 δ 87), .ref (ad0 δ 48)] m146
  replace hq := hq.more
  refine Z_putRF hk hn hA fl_9_131 (fun q h => by cases (Option.some.inj h : (RX9, TX9, 113) = q); rfl) dX9_init_1025 ob_48.1 ob_48.2.1 (by decide) ob_48.2.2.2 ft_9_53 (show rq 91 48 53 = some 87 from by decide +kernel) (rq_step (by decide +kernel)) ?_
  refine Z_aload0 hk dX9_init_1028 ?_
  refine Z_iconst hk dX9_init_1029 ?_
  refine Z_newa hk (k := 100) (N := 4) (t0 := 0) rfl (by decide +kernel) rfl rfl lk_a100 (by decide) rfl (by decide) (by decide) rfl dX9_init_1030 (hq.2 88 (Or.inl (Nat.le_refl _))) (rq_none (by decide +kernel)) ⟨by decide, by decide⟩ ?_
  show Zj κ δ (ad0 δ) (rq 91) Q 1 (89, 40, 3267) 1032 [some (.ref (ad0 δ 48))] [.ref (ad0 δ 88), .ref (ad0 δ 48)] m146
  replace hq := hq.more
  refine Z_putRF hk hn hA fl_9_134 (fun q h => by cases (Option.some.inj h : (RX9, TX9, 113) = q); rfl) dX9_init_1032 ob_48.1 ob_48.2.1 (by decide) ob_48.2.2.2 ft_9_54 (show rq 92 48 54 = some 88 from by decide +kernel) (rq_step (by decide +kernel)) ?_
  refine Z_aload0 hk dX9_init_1035 ?_
  refine Z_bipush hk dX9_init_1036 (by decide) ?_
  refine Z_newa hk (k := 100) (N := 20) (t0 := 0) rfl (by decide +kernel) rfl rfl lk_a100 (by decide) rfl (by decide) (by decide) rfl dX9_init_1038 (hq.2 89 (Or.inl (Nat.le_refl _))) (rq_none (by decide +kernel)) ⟨by decide, by decide⟩ ?_
  show Zj κ δ (ad0 δ) (rq 92) Q 1 (90, 41, 3287) 1040 [some (.ref (ad0 δ 48))] [.ref (ad0 δ 89), .ref (ad0 δ 48)] m146
  replace hq := hq.more
  refine Z_putRF hk hn hA fl_9_137 (fun q h => by cases (Option.some.inj h : (RX9, TX9, 113) = q); rfl) dX9_init_1040 ob_48.1 ob_48.2.1 (by decide) ob_48.2.2.2 ft_9_55 (show rq 93 48 55 = some 89 from by decide +kernel) (rq_step (by decide +kernel)) ?_
  refine Z_aload0 hk dX9_init_1043 ?_
  refine Z_bipush hk dX9_init_1044 (by decide) ?_
  refine Z_newa hk (k := 100) (N := 20) (t0 := 0) rfl (by decide +kernel) rfl rfl lk_a100 (by decide) rfl (by decide) (by decide) rfl dX9_init_1046 (hq.2 90 (Or.inl (Nat.le_refl _))) (rq_none (by decide +kernel)) ⟨by decide, by decide⟩ ?_
  show Zj κ δ (ad0 δ) (rq 93) Q 1 (91, 42, 3307) 1048 [some (.ref (ad0 δ 48))] [.ref (ad0 δ 90), .ref (ad0 δ 48)] m146
  replace hq := hq.more
  refine Z_putRF hk hn hA fl_9_140 (fun q h => by cases (Option.some.inj h : (RX9, TX9, 113) = q); rfl) dX9_init_1048 ob_48.1 ob_48.2.1 (by decide) ob_48.2.2.2 ft_9_56 (show rq 94 48 56 = some 90 from by decide +kernel) (rq_step (by decide +kernel)) ?_
  refine Z_aload0 hk dX9_init_1051 ?_
  refine Z_bipush hk dX9_init_1052 (by decide) ?_
  refine Z_newa hk (k := 100) (N := 20) (t0 := 0) rfl (by decide +kernel) rfl rfl lk_a100 (by decide) rfl (by decide) (by decide) rfl dX9_init_1054 (hq.2 91 (Or.inl (Nat.le_refl _))) (rq_none (by decide +kernel)) ⟨by decide, by decide⟩ ?_
  show Zj κ δ (ad0 δ) (rq 94) Q 1 (92, 43, 3327) 1056 [some (.ref (ad0 δ 48))] [.ref (ad0 δ 91), .ref (ad0 δ 48)] m146
  replace hq := hq.more
  refine Z_putRF hk hn hA fl_9_143 (fun q h => by cases (Option.some.inj h : (RX9, TX9, 113) = q); rfl) dX9_init_1056 ob_48.1 ob_48.2.1 (by decide) ob_48.2.2.2 ft_9_57 (show rq 95 48 57 = some 91 from by decide +kernel) (rq_step (by decide +kernel)) ?_
  refine Z_aload0 hk dX9_init_1059 ?_
  refine Z_bipush hk dX9_init_1060 (by decide) ?_
  refine Z_newa hk (k := 101) (N := 8) (t0 := 1) rfl (by decide +kernel) rfl rfl lk_a101 (by decide) rfl (by decide) (by decide) rfl dX9_init_1062 (hq.2 92 (Or.inl (Nat.le_refl _))) (rq_none (by decide +kernel)) ⟨by decide, by decide⟩ ?_
  show Zj κ δ (ad0 δ) (rq 95) Q 1 (93, 44, 3335) 1064 [some (.ref (ad0 δ 48))] [.ref (ad0 δ 92), .ref (ad0 δ 48)] m146
  replace hq := hq.more
  refine Z_putRF hk hn hA fl_9_146 (fun q h => by cases (Option.some.inj h : (RX9, TX9, 113) = q); rfl) dX9_init_1064 ob_48.1 ob_48.2.1 (by decide) ob_48.2.2.2 ft_9_62 (show rq 96 48 62 = some 92 from by decide +kernel) (rq_step (by decide +kernel)) ?_
  refine Z_aload0 hk dX9_init_1067 ?_
  refine Z_bipush hk dX9_init_1068 (by decide) ?_
  refine Z_newa hk (k := 100) (N := 8) (t0 := 0) rfl (by decide +kernel) rfl rfl lk_a100 (by decide) rfl (by decide) (by decide) rfl dX9_init_1070 (hq.2 93 (Or.inl (Nat.le_refl _))) (rq_none (by decide +kernel)) ⟨by decide, by decide⟩ ?_
  show Zj κ δ (ad0 δ) (rq 96) Q 1 (94, 45, 3343) 1072 [some (.ref (ad0 δ 48))] [.ref (ad0 δ 93), .ref (ad0 δ 48)] m146
  replace hq := hq.more
  refine Z_putRF hk hn hA fl_9_149 (fun q h => by cases (Option.some.inj h : (RX9, TX9, 113) = q); rfl) dX9_init_1072 ob_48.1 ob_48.2.1 (by decide) ob_48.2.2.2 ft_9_63 (show rq 97 48 63 = some 93 from by decide +kernel) (rq_step (by decide +kernel)) ?_
  refine Z_aload0 hk dX9_init_1075 ?_
  refine Z_iconst hk dX9_init_1076 ?_
  refine Z_newa hk (k := 102) (N := 4) (t0 := 2) rfl (by decide +kernel) rfl rfl lk_a102 (by decide) rfl (by decide) (by decide) rfl dX9_init_1077 (hq.2 94 (Or.inl (Nat.le_refl _))) (rq_none (by decide +kernel)) ⟨by decide, by decide⟩ ?_
  show Zj κ δ (ad0 δ) (rq 97) Q 1 (95, 46, 3347) 1079 [some (.ref (ad0 δ 48))] [.ref (ad0 δ 94), .ref (ad0 δ 48)] m146
  replace hq := hq.more
  refine Z_putRF hk hn hA fl_9_152 (fun q h => by cases (Option.some.inj h : (RX9, TX9, 113) = q); rfl) dX9_init_1079 ob_48.1 ob_48.2.1 (by decide) ob_48.2.2.2 ft_9_67 (show rq 98 48 67 = some 94 from by decide +kernel) (rq_step (by decide +kernel)) ?_
  refine Z_aload0 hk dX9_init_1082 ?_
  refine Z_iconst hk dX9_init_1083 ?_
  refine Z_newa hk (k := 100) (N := 4) (t0 := 0) rfl (by decide +kernel) rfl rfl lk_a100 (by decide) rfl (by decide) (by decide) rfl dX9_init_1084 (hq.2 95 (Or.inl (Nat.le_refl _))) (rq_none (by decide +kernel)) ⟨by decide, by decide⟩ ?_
  show Zj κ δ (ad0 δ) (rq 98) Q 1 (96, 47, 3351) 1086 [some (.ref (ad0 δ 48))] [.ref (ad0 δ 95), .ref (ad0 δ 48)] m146
  replace hq := hq.more
  refine Z_putRF hk hn hA fl_9_155 (fun q h => by cases (Option.some.inj h : (RX9, TX9, 113) = q); rfl) dX9_init_1086 ob_48.1 ob_48.2.1 (by decide) ob_48.2.2.2 ft_9_68 (show rq 99 48 68 = some 95 from by decide +kernel) (rq_step (by decide +kernel)) ?_
  refine Z_aload0 hk dX9_init_1089 ?_
  refine Z_iconst hk dX9_init_1090 ?_
  refine Z_newa hk (k := 100) (N := 4) (t0 := 0) rfl (by decide +kernel) rfl rfl lk_a100 (by decide) rfl (by decide) (by decide) rfl dX9_init_1091 (hq.2 96 (Or.inl (Nat.le_refl _))) (rq_none (by decide +kernel)) ⟨by decide, by decide⟩ ?_
  show Zj κ δ (ad0 δ) (rq 99) Q 1 (97, 48, 3355) 1093 [some (.ref (ad0 δ 48))] [.ref (ad0 δ 96), .ref (ad0 δ 48)] m146
  replace hq := hq.more
  refine Z_putRF hk hn hA fl_9_158 (fun q h => by cases (Option.some.inj h : (RX9, TX9, 113) = q); rfl) dX9_init_1093 ob_48.1 ob_48.2.1 (by decide) ob_48.2.2.2 ft_9_69 (show rq 100 48 69 = some 96 from by decide +kernel) (rq_step (by decide +kernel)) ?_
  refine Z_aload0 hk dX9_init_1096 ?_
  refine Z_iconst hk dX9_init_1097 ?_
  refine Z_newa hk (k := 100) (N := 4) (t0 := 0) rfl (by decide +kernel) rfl rfl lk_a100 (by decide) rfl (by decide) (by decide) rfl dX9_init_1098 (hq.2 97 (Or.inl (Nat.le_refl _))) (rq_none (by decide +kernel)) ⟨by decide, by decide⟩ ?_
  show Zj κ δ (ad0 δ) (rq 100) Q 1 (98, 49, 3359) 1100 [some (.ref (ad0 δ 48))] [.ref (ad0 δ 97), .ref (ad0 δ 48)] m146
  replace hq := hq.more
  refine Z_putRF hk hn hA fl_9_161 (fun q h => by cases (Option.some.inj h : (RX9, TX9, 113) = q); rfl) dX9_init_1100 ob_48.1 ob_48.2.1 (by decide) ob_48.2.2.2 ft_9_70 (show rq 101 48 70 = some 97 from by decide +kernel) (rq_step (by decide +kernel)) ?_
  refine Z_aload0 hk dX9_init_1103 ?_
  refine Z_bipush hk dX9_init_1104 (by decide) ?_
  refine Z_newa hk (k := 100) (N := 20) (t0 := 0) rfl (by decide +kernel) rfl rfl lk_a100 (by decide) rfl (by decide) (by decide) rfl dX9_init_1106 (hq.2 98 (Or.inl (Nat.le_refl _))) (rq_none (by decide +kernel)) ⟨by decide, by decide⟩ ?_
  show Zj κ δ (ad0 δ) (rq 101) Q 1 (99, 50, 3379) 1108 [some (.ref (ad0 δ 48))] [.ref (ad0 δ 98), .ref (ad0 δ 48)] m146
  replace hq := hq.more
  refine Z_putRF hk hn hA fl_9_164 (fun q h => by cases (Option.some.inj h : (RX9, TX9, 113) = q); rfl) dX9_init_1108 ob_48.1 ob_48.2.1 (by decide) ob_48.2.2.2 ft_9_71 (show rq 102 48 71 = some 98 from by decide +kernel) (rq_step (by decide +kernel)) ?_
  refine Z_aload0 hk dX9_init_1111 ?_
  refine Z_bipush hk dX9_init_1112 (by decide) ?_
  refine Z_newa hk (k := 100) (N := 20) (t0 := 0) rfl (by decide +kernel) rfl rfl lk_a100 (by decide) rfl (by decide) (by decide) rfl dX9_init_1114 (hq.2 99 (Or.inl (Nat.le_refl _))) (rq_none (by decide +kernel)) ⟨by decide, by decide⟩ ?_
  show Zj κ δ (ad0 δ) (rq 102) Q 1 (100, 51, 3399) 1116 [some (.ref (ad0 δ 48))] [.ref (ad0 δ 99), .ref (ad0 δ 48)] m146
  replace hq := hq.more
  refine Z_putRF hk hn hA fl_9_167 (fun q h => by cases (Option.some.inj h : (RX9, TX9, 113) = q); rfl) dX9_init_1116 ob_48.1 ob_48.2.1 (by decide) ob_48.2.2.2 ft_9_72 (show rq 103 48 72 = some 99 from by decide +kernel) (rq_step (by decide +kernel)) ?_
  refine Z_aload0 hk dX9_init_1119 ?_
  refine Z_bipush hk dX9_init_1120 (by decide) ?_
  refine Z_newa hk (k := 100) (N := 20) (t0 := 0) rfl (by decide +kernel) rfl rfl lk_a100 (by decide) rfl (by decide) (by decide) rfl dX9_init_1122 (hq.2 100 (Or.inl (Nat.le_refl _))) (rq_none (by decide +kernel)) ⟨by decide, by decide⟩ ?_
  show Zj κ δ (ad0 δ) (rq 103) Q 1 (101, 52, 3419) 1124 [some (.ref (ad0 δ 48))] [.ref (ad0 δ 100), .ref (ad0 δ 48)] m146
  replace hq := hq.more
  refine Z_putRF hk hn hA fl_9_170 (fun q h => by cases (Option.some.inj h : (RX9, TX9, 113) = q); rfl) dX9_init_1124 ob_48.1 ob_48.2.1 (by decide) ob_48.2.2.2 ft_9_73 (show rq 104 48 73 = some 100 from by decide +kernel) (rq_step (by decide +kernel)) ?_
  refine Z_aload0 hk dX9_init_1127 ?_
  refine Z_iconst hk dX9_init_1128 ?_
  refine Z_putI hk hA fl_9_173 dX9_init_1129 ob_48.1 ob_48.2.1 (by decide) ob_48.2.2.2 ft_9_74 (by decide) (by decide) ?_
  refine Z_fg (Wq.put hq (by decide) (by decide)) (fun m147 hq => ?_)
  refine Z_aload0 hk dX9_init_1132 ?_
  refine Z_iconst hk dX9_init_1133 ?_
  refine Z_putI hk hA fl_9_176 dX9_init_1134 ob_48.1 ob_48.2.1 (by decide) ob_48.2.2.2 ft_9_76 (by decide) (by decide) ?_
  refine Z_fg (Wq.put hq (by decide) (by decide)) (fun m148 hq => ?_)
  refine Z_aload0 hk dX9_init_1137 ?_
  refine Z_bipush hk dX9_init_1138 (by decide) ?_
  refine Z_newa hk (k := 100) (N := 8) (t0 := 0) rfl (by decide +kernel) rfl rfl lk_a100 (by decide) rfl (by decide) (by decide) rfl dX9_init_1140 (hq.2 101 (Or.inl (Nat.le_refl _))) (rq_none (by decide +kernel)) ⟨by decide, by decide⟩ ?_
  show Zj κ δ (ad0 δ) (rq 104) Q 1 (102, 53, 3427) 1142 [some (.ref (ad0 δ 48))] [.ref (ad0 δ 101), .ref (ad0 δ 48)] m148
  replace hq := hq.more
  refine Z_putRF hk hn hA fl_9_179 (fun q h => by cases (Option.some.inj h : (RX9, TX9, 113) = q); rfl) dX9_init_1142 ob_48.1 ob_48.2.1 (by decide) ob_48.2.2.2 ft_9_78 (show rq 105 48 78 = some 101 from by decide +kernel) (rq_step (by decide +kernel)) ?_
  refine Z_aload0 hk dX9_init_1145 ?_
  refine Z_sipush hk dX9_init_1146 (by decide) ?_
  refine Z_newa hk (k := 100) (N := 360) (t0 := 0) rfl (by decide +kernel) rfl rfl lk_a100 (by decide) rfl (by decide) (by decide) rfl dX9_init_1149 (hq.2 102 (Or.inl (Nat.le_refl _))) (rq_none (by decide +kernel)) ⟨by decide, by decide⟩ ?_
  show Zj κ δ (ad0 δ) (rq 105) Q 1 (103, 54, 3787) 1151 [some (.ref (ad0 δ 48))] [.ref (ad0 δ 102), .ref (ad0 δ 48)] m148
  replace hq := hq.more
  refine Z_putRF hk hn hA fl_9_182 (fun q h => by cases (Option.some.inj h : (RX9, TX9, 113) = q); rfl) dX9_init_1151 ob_48.1 ob_48.2.1 (by decide) ob_48.2.2.2 ft_9_82 (show rq 106 48 82 = some 102 from by decide +kernel) (rq_step (by decide +kernel)) ?_
  refine Z_aload0 hk dX9_init_1154 ?_
  refine Z_sipush hk dX9_init_1155 (by decide) ?_
  refine Z_newa hk (k := 102) (N := 1000) (t0 := 2) rfl (by decide +kernel) rfl rfl lk_a102 (by decide) rfl (by decide) (by decide) rfl dX9_init_1158 (hq.2 103 (Or.inl (Nat.le_refl _))) (rq_none (by decide +kernel)) ⟨by decide, by decide⟩ ?_
  show Zj κ δ (ad0 δ) (rq 106) Q 1 (104, 55, 4787) 1160 [some (.ref (ad0 δ 48))] [.ref (ad0 δ 103), .ref (ad0 δ 48)] m148
  replace hq := hq.more
  refine Z_putRF hk hn hA fl_9_185 (fun q h => by cases (Option.some.inj h : (RX9, TX9, 113) = q); rfl) dX9_init_1160 ob_48.1 ob_48.2.1 (by decide) ob_48.2.2.2 ft_9_83 (show rq 107 48 83 = some 103 from by decide +kernel) (rq_step (by decide +kernel)) ?_
  refine Z_aload0 hk dX9_init_1163 ?_
  refine Z_sipush hk dX9_init_1164 (by decide) ?_
  refine Z_newa hk (k := 100) (N := 251) (t0 := 0) rfl (by decide +kernel) rfl rfl lk_a100 (by decide) rfl (by decide) (by decide) rfl dX9_init_1167 (hq.2 104 (Or.inl (Nat.le_refl _))) (rq_none (by decide +kernel)) ⟨by decide, by decide⟩ ?_
  show Zj κ δ (ad0 δ) (rq 107) Q 1 (105, 56, 5038) 1169 [some (.ref (ad0 δ 48))] [.ref (ad0 δ 104), .ref (ad0 δ 48)] m148
  replace hq := hq.more
  refine Z_putRF hk hn hA fl_9_188 (fun q h => by cases (Option.some.inj h : (RX9, TX9, 113) = q); rfl) dX9_init_1169 ob_48.1 ob_48.2.1 (by decide) ob_48.2.2.2 ft_9_85 (show rq 108 48 85 = some 104 from by decide +kernel) (rq_step (by decide +kernel)) ?_
  refine Z_aload0 hk dX9_init_1172 ?_
  refine Z_sipush hk dX9_init_1173 (by decide) ?_
  refine Z_newa hk (k := 100) (N := 251) (t0 := 0) rfl (by decide +kernel) rfl rfl lk_a100 (by decide) rfl (by decide) (by decide) rfl dX9_init_1176 (hq.2 105 (Or.inl (Nat.le_refl _))) (rq_none (by decide +kernel)) ⟨by decide, by decide⟩ ?_
  show Zj κ δ (ad0 δ) (rq 108) Q 1 (106, 57, 5289) 1178 [some (.ref (ad0 δ 48))] [.ref (ad0 δ 105), .ref (ad0 δ 48)] m148
  replace hq := hq.more
  refine Z_putRF hk hn hA fl_9_191 (fun q h => by cases (Option.some.inj h : (RX9, TX9, 113) = q); rfl) dX9_init_1178 ob_48.1 ob_48.2.1 (by decide) ob_48.2.2.2 ft_9_86 (show rq 109 48 86 = some 105 from by decide +kernel) (rq_step (by decide +kernel)) ?_
  refine Z_aload0 hk dX9_init_1181 ?_
  refine Z_sipush hk dX9_init_1182 (by decide) ?_
  refine Z_newa hk (k := 100) (N := 251) (t0 := 0) rfl (by decide +kernel) rfl rfl lk_a100 (by decide) rfl (by decide) (by decide) rfl dX9_init_1185 (hq.2 106 (Or.inl (Nat.le_refl _))) (rq_none (by decide +kernel)) ⟨by decide, by decide⟩ ?_
  show Zj κ δ (ad0 δ) (rq 109) Q 1 (107, 58, 5540) 1187 [some (.ref (ad0 δ 48))] [.ref (ad0 δ 106), .ref (ad0 δ 48)] m148
  replace hq := hq.more
  refine Z_putRF hk hn hA fl_9_194 (fun q h => by cases (Option.some.inj h : (RX9, TX9, 113) = q); rfl) dX9_init_1187 ob_48.1 ob_48.2.1 (by decide) ob_48.2.2.2 ft_9_87 (show rq 110 48 87 = some 106 from by decide +kernel) (rq_step (by decide +kernel)) ?_
  refine Z_aload0 hk dX9_init_1190 ?_
  refine Z_sipush hk dX9_init_1191 (by decide) ?_
  refine Z_newa hk (k := 100) (N := 251) (t0 := 0) rfl (by decide +kernel) rfl rfl lk_a100 (by decide) rfl (by decide) (by decide) rfl dX9_init_1194 (hq.2 107 (Or.inl (Nat.le_refl _))) (rq_none (by decide +kernel)) ⟨by decide, by decide⟩ ?_
  show Zj κ δ (ad0 δ) (rq 110) Q 1 (108, 59, 5791) 1196 [some (.ref (ad0 δ 48))] [.ref (ad0 δ 107), .ref (ad0 δ 48)] m148
  replace hq := hq.more
  refine Z_putRF hk hn hA fl_9_197 (fun q h => by cases (Option.some.inj h : (RX9, TX9, 113) = q); rfl) dX9_init_1196 ob_48.1 ob_48.2.1 (by decide) ob_48.2.2.2 ft_9_88 (show rq 111 48 88 = some 107 from by decide +kernel) (rq_step (by decide +kernel)) ?_
  refine Z_aload0 hk dX9_init_1199 ?_
  refine Z_sipush hk dX9_init_1200 (by decide) ?_
  refine Z_newa hk (k := 100) (N := 251) (t0 := 0) rfl (by decide +kernel) rfl rfl lk_a100 (by decide) rfl (by decide) (by decide) rfl dX9_init_1203 (hq.2 108 (Or.inl (Nat.le_refl _))) (rq_none (by decide +kernel)) ⟨by decide, by decide⟩ ?_
  show Zj κ δ (ad0 δ) (rq 111) Q 1 (109, 60, 6042) 1205 [some (.ref (ad0 δ 48))] [.ref (ad0 δ 108), .ref (ad0 δ 48)] m148
  replace hq := hq.more
  refine Z_putRF hk hn hA fl_9_200 (fun q h => by cases (Option.some.inj h : (RX9, TX9, 113) = q); rfl) dX9_init_1205 ob_48.1 ob_48.2.1 (by decide) ob_48.2.2.2 ft_9_89 (show rq 112 48 89 = some 108 from by decide +kernel) (rq_step (by decide +kernel)) ?_
  refine Z_aload0 hk dX9_init_1208 ?_
  refine Z_sipush hk dX9_init_1209 (by decide) ?_
  refine Z_newa hk (k := 100) (N := 251) (t0 := 0) rfl (by decide +kernel) rfl rfl lk_a100 (by decide) rfl (by decide) (by decide) rfl dX9_init_1212 (hq.2 109 (Or.inl (Nat.le_refl _))) (rq_none (by decide +kernel)) ⟨by decide, by decide⟩ ?_
  show Zj κ δ (ad0 δ) (rq 112) Q 1 (110, 61, 6293) 1214 [some (.ref (ad0 δ 48))] [.ref (ad0 δ 109), .ref (ad0 δ 48)] m148
  replace hq := hq.more
  refine Z_putRF hk hn hA fl_9_203 (fun q h => by cases (Option.some.inj h : (RX9, TX9, 113) = q); rfl) dX9_init_1214 ob_48.1 ob_48.2.1 (by decide) ob_48.2.2.2 ft_9_90 (show rq 113 48 90 = some 109 from by decide +kernel) (rq_step (by decide +kernel)) ?_
  refine Z_aload0 hk dX9_init_1217 ?_
  refine Z_iconst hk dX9_init_1218 ?_
  refine Z_putI hk hA fl_9_206 dX9_init_1219 ob_48.1 ob_48.2.1 (by decide) ob_48.2.2.2 ft_9_91 (by decide) (by decide) ?_
  refine Z_fg (Wq.put hq (by decide) (by decide)) (fun m149 hq => ?_)
  refine Z_aload0 hk dX9_init_1222 ?_
  refine Z_bipush hk dX9_init_1223 (by decide) ?_
  refine Z_newa hk (k := 100) (N := 90) (t0 := 0) rfl (by decide +kernel) rfl rfl lk_a100 (by decide) rfl (by decide) (by decide) rfl dX9_init_1225 (hq.2 110 (Or.inl (Nat.le_refl _))) (rq_none (by decide +kernel)) ⟨by decide, by decide⟩ ?_
  show Zj κ δ (ad0 δ) (rq 113) Q 1 (111, 62, 6383) 1227 [some (.ref (ad0 δ 48))] [.ref (ad0 δ 110), .ref (ad0 δ 48)] m149
  replace hq := hq.more
  refine Z_putRF hk hn hA fl_9_209 (fun q h => by cases (Option.some.inj h : (RX9, TX9, 113) = q); rfl) dX9_init_1227 ob_48.1 ob_48.2.1 (by decide) ob_48.2.2.2 ft_9_93 (show rq 114 48 93 = some 110 from by decide +kernel) (rq_step (by decide +kernel)) ?_
  refine Z_aload0 hk dX9_init_1230 ?_
  refine Z_bipush hk dX9_init_1231 (by decide) ?_
  refine Z_newa hk (k := 102) (N := 30) (t0 := 2) rfl (by decide +kernel) rfl rfl lk_a102 (by decide) rfl (by decide) (by decide) rfl dX9_init_1233 (hq.2 111 (Or.inl (Nat.le_refl _))) (rq_none (by decide +kernel)) ⟨by decide, by decide⟩ ?_
  show Zj κ δ (ad0 δ) (rq 114) Q 1 (112, 63, 6413) 1235 [some (.ref (ad0 δ 48))] [.ref (ad0 δ 111), .ref (ad0 δ 48)] m149
  replace hq := hq.more
  refine Z_putRF hk hn hA fl_9_212 (fun q h => by cases (Option.some.inj h : (RX9, TX9, 113) = q); rfl) dX9_init_1235 ob_48.1 ob_48.2.1 (by decide) ob_48.2.2.2 ft_9_99 (show rq 115 48 99 = some 111 from by decide +kernel) (rq_step (by decide +kernel)) ?_
  refine Z_aload0 hk dX9_init_1238 ?_
  refine Z_bipush hk dX9_init_1239 (by decide) ?_
  refine Z_newa hk (k := 101) (N := 32) (t0 := 1) rfl (by decide +kernel) rfl rfl lk_a101 (by decide) rfl (by decide) (by decide) rfl dX9_init_1241 (hq.2 112 (Or.inl (Nat.le_refl _))) (rq_none (by decide +kernel)) ⟨by decide, by decide⟩ ?_
  show Zj κ δ (ad0 δ) (rq 115) Q 1 (113, 64, 6445) 1243 [some (.ref (ad0 δ 48))] [.ref (ad0 δ 112), .ref (ad0 δ 48)] m149
  replace hq := hq.more
  refine Z_putRF hk hn hA fl_9_215 (fun q h => by cases (Option.some.inj h : (RX9, TX9, 113) = q); rfl) dX9_init_1243 ob_48.1 ob_48.2.1 (by decide) ob_48.2.2.2 ft_9_100 (show rq 116 48 100 = some 112 from by decide +kernel) (rq_step (by decide +kernel)) ?_
  refine Z_aload0 hk dX9_init_1246 ?_
  refine Z_sipush hk dX9_init_1247 (by decide) ?_
  refine Z_newa hk (k := 100) (N := 1800) (t0 := 0) rfl (by decide +kernel) rfl rfl lk_a100 (by decide) rfl (by decide) (by decide) rfl dX9_init_1250 (hq.2 113 (Or.inl (Nat.le_refl _))) (rq_none (by decide +kernel)) ⟨by decide, by decide⟩ ?_
  show Zj κ δ (ad0 δ) (rq 116) Q 1 (114, 65, 8245) 1252 [some (.ref (ad0 δ 48))] [.ref (ad0 δ 113), .ref (ad0 δ 48)] m149
  replace hq := hq.more
  refine Z_putRF hk hn hA fl_9_218 (fun q h => by cases (Option.some.inj h : (RX9, TX9, 113) = q); rfl) dX9_init_1252 ob_48.1 ob_48.2.1 (by decide) ob_48.2.2.2 ft_9_101 (show rq 117 48 101 = some 113 from by decide +kernel) (rq_step (by decide +kernel)) ?_
  refine Z_aload0 hk dX9_init_1255 ?_
  refine Z_bipush hk dX9_init_1256 (by decide) ?_
  refine Z_newa hk (k := 100) (N := 30) (t0 := 0) rfl (by decide +kernel) rfl rfl lk_a100 (by decide) rfl (by decide) (by decide) rfl dX9_init_1258 (hq.2 114 (Or.inl (Nat.le_refl _))) (rq_none (by decide +kernel)) ⟨by decide, by decide⟩ ?_
  show Zj κ δ (ad0 δ) (rq 117) Q 1 (115, 66, 8275) 1260 [some (.ref (ad0 δ 48))] [.ref (ad0 δ 114), .ref (ad0 δ 48)] m149
  replace hq := hq.more
  refine Z_putRF hk hn hA fl_9_221 (fun q h => by cases (Option.some.inj h : (RX9, TX9, 113) = q); rfl) dX9_init_1260 ob_48.1 ob_48.2.1 (by decide) ob_48.2.2.2 ft_9_102 (show rq 118 48 102 = some 114 from by decide +kernel) (rq_step (by decide +kernel)) ?_
  refine Z_aload0 hk dX9_init_1263 ?_
  refine Z_bipush hk dX9_init_1264 (by decide) ?_
  refine Z_newa hk (k := 100) (N := 30) (t0 := 0) rfl (by decide +kernel) rfl rfl lk_a100 (by decide) rfl (by decide) (by decide) rfl dX9_init_1266 (hq.2 115 (Or.inl (Nat.le_refl _))) (rq_none (by decide +kernel)) ⟨by decide, by decide⟩ ?_
  show Zj κ δ (ad0 δ) (rq 118) Q 1 (116, 67, 8305) 1268 [some (.ref (ad0 δ 48))] [.ref (ad0 δ 115), .ref (ad0 δ 48)] m149
  replace hq := hq.more
  refine Z_putRF hk hn hA fl_9_224 (fun q h => by cases (Option.some.inj h : (RX9, TX9, 113) = q); rfl) dX9_init_1268 ob_48.1 ob_48.2.1 (by decide) ob_48.2.2.2 ft_9_103 (show rq 119 48 103 = some 115 from by decide +kernel) (rq_step (by decide +kernel)) ?_
  refine Z_aload0 hk dX9_init_1271 ?_
  refine Z_bipush hk dX9_init_1272 (by decide) ?_
  refine Z_newa hk (k := 100) (N := 10) (t0 := 0) rfl (by decide +kernel) rfl rfl lk_a100 (by decide) rfl (by decide) (by decide) rfl dX9_init_1274 (hq.2 116 (Or.inl (Nat.le_refl _))) (rq_none (by decide +kernel)) ⟨by decide, by decide⟩ ?_
  show Zj κ δ (ad0 δ) (rq 119) Q 1 (117, 68, 8315) 1276 [some (.ref (ad0 δ 48))] [.ref (ad0 δ 116), .ref (ad0 δ 48)] m149
  replace hq := hq.more
  refine Z_putRF hk hn hA fl_9_227 (fun q h => by cases (Option.some.inj h : (RX9, TX9, 113) = q); rfl) dX9_init_1276 ob_48.1 ob_48.2.1 (by decide) ob_48.2.2.2 ft_9_105 (show rq 120 48 105 = some 116 from by decide +kernel) (rq_step (by decide +kernel)) ?_
  refine Z_aload0 hk dX9_init_1279 ?_
  refine Z_sipush hk dX9_init_1280 (by decide) ?_
  refine Z_newa hk (k := 101) (N := 800) (t0 := 1) rfl (by decide +kernel) rfl rfl lk_a101 (by decide) rfl (by decide) (by decide) rfl dX9_init_1283 (hq.2 117 (Or.inl (Nat.le_refl _))) (rq_none (by decide +kernel)) ⟨by decide, by decide⟩ ?_
  show Zj κ δ (ad0 δ) (rq 120) Q 1 (118, 69, 9115) 1285 [some (.ref (ad0 δ 48))] [.ref (ad0 δ 117), .ref (ad0 δ 48)] m149
  replace hq := hq.more
  refine Z_putRF hk hn hA fl_9_230 (fun q h => by cases (Option.some.inj h : (RX9, TX9, 113) = q); rfl) dX9_init_1285 ob_48.1 ob_48.2.1 (by decide) ob_48.2.2.2 ft_9_106 (show rq 121 48 106 = some 117 from by decide +kernel) (rq_step (by decide +kernel)) ?_
  refine Z_aload0 hk dX9_init_1288 ?_
  refine Z_sipush hk dX9_init_1289 (by decide) ?_
  refine Z_newa hk (k := 100) (N := 150) (t0 := 0) rfl (by decide +kernel) rfl rfl lk_a100 (by decide) rfl (by decide) (by decide) rfl dX9_init_1292 (hq.2 118 (Or.inl (Nat.le_refl _))) (rq_none (by decide +kernel)) ⟨by decide, by decide⟩ ?_
  show Zj κ δ (ad0 δ) (rq 121) Q 1 (119, 70, 9265) 1294 [some (.ref (ad0 δ 48))] [.ref (ad0 δ 118), .ref (ad0 δ 48)] m149
  replace hq := hq.more
  refine Z_putRF hk hn hA fl_9_233 (fun q h => by cases (Option.some.inj h : (RX9, TX9, 113) = q); rfl) dX9_init_1294 ob_48.1 ob_48.2.1 (by decide) ob_48.2.2.2 ft_9_110 (show rq 122 48 110 = some 118 from by decide +kernel) (rq_step (by decide +kernel)) ?_
  refine Z_aload0 hk dX9_init_1297 ?_
  refine Z_bipush hk dX9_init_1298 (by decide) ?_
  refine Z_newa hk (k := 100) (N := 25) (t0 := 0) rfl (by decide +kernel) rfl rfl lk_a100 (by decide) rfl (by decide) (by decide) rfl dX9_init_1300 (hq.2 119 (Or.inl (Nat.le_refl _))) (rq_none (by decide +kernel)) ⟨by decide, by decide⟩ ?_
  show Zj κ δ (ad0 δ) (rq 122) Q 1 (120, 71, 9290) 1302 [some (.ref (ad0 δ 48))] [.ref (ad0 δ 119), .ref (ad0 δ 48)] m149
  replace hq := hq.more
  refine Z_putRF hk hn hA fl_9_236 (fun q h => by cases (Option.some.inj h : (RX9, TX9, 113) = q); rfl) dX9_init_1302 ob_48.1 ob_48.2.1 (by decide) ob_48.2.2.2 ft_9_111 (show rq 123 48 111 = some 119 from by decide +kernel) (rq_step (by decide +kernel)) ?_
  refine Z_aload0 hk dX9_init_1305 ?_
  refine Z_bipush hk dX9_init_1306 (by decide) ?_
  refine Z_newa hk (k := 100) (N := 25) (t0 := 0) rfl (by decide +kernel) rfl rfl lk_a100 (by decide) rfl (by decide) (by decide) rfl dX9_init_1308 (hq.2 120 (Or.inl (Nat.le_refl _))) (rq_none (by decide +kernel)) ⟨by decide, by decide⟩ ?_
  show Zj κ δ (ad0 δ) (rq 123) Q 1 (121, 72, 9315) 1310 [some (.ref (ad0 δ 48))] [.ref (ad0 δ 120), .ref (ad0 δ 48)] m149
  replace hq := hq.more
  refine Z_putRF hk hn hA fl_9_239 (fun q h => by cases (Option.some.inj h : (RX9, TX9, 113) = q); rfl) dX9_init_1310 ob_48.1 ob_48.2.1 (by decide) ob_48.2.2.2 ft_9_112 (show rq 124 48 112 = some 120 from by decide +kernel) (rq_step (by decide +kernel)) ?_
  exact Z_vret hk hA hQ dX9_init_1313 ⟨rfl, rfl, rfl, hq⟩
