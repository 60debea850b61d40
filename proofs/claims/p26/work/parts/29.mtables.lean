set_option maxRecDepth 10000 in
theorem c_X9_answers (l : Launch) (δ : Dp) (ad : Nat → Nat) (M : Mem) (hA : okA δ ad) (t : Int) (q0 : 0 ≤ (M 48 65) ∧ (M 48 65) ≤ 6 ∧ 0 ≤ (M 48 66) ∧ (M 48 66) ≤ 4 ∧ -1 ≤ (M 48 76) ∧ (M 48 76) ≤ 5 ∧ 0 ≤ (M 48 77) ∧ (M 48 77) ≤ 8 ∧ 0 ≤ (M 48 84) ∧ (M 48 84) ≤ 250 ∧ -1 ≤ (M 48 91) ∧ (M 48 91) ≤ (M 48 84)) (q1 : AC (M 48 84) (M 104) (M 105) (M 106) (M 107) (M 108)) (q3 : LK (M 97)) (q4 : KB (M 99)) (q5 : KB (M 100)) (i_t : -2147483648 ≤ t ∧ t ≤ 2147483647) : Mi l δ yX9_answers cX9_answers 2 (some (.int)) 4 101 ad rs [.ref (ad 48), iv t] M (fun r M' => (True) ∧ (∀ c : Nat, c ≠ 110 → c ≠ 111 → c ≠ 48 → M' c = M c) ∧ (∀ i : Nat, i ≠ 94 → i ≠ 95 → i ≠ 96 → i ≠ 97 → i ≠ 98 → M' 48 i = M 48 i)) := by
  refine Mg.of (rm := rmN 4 101) (by decide) (Nat.le_of_ble_eq_true rfl) fun κ _ hk _ => ?_
  generalize hQ : Qg κ δ 121 (rmN 4 101).cells (rmN 4 101).slots _ = Q
  show Zj κ δ ad rs Q 2 (121, 0, 0) 0 [some (.ref (ad 48)), some (iv t)] [] M
  refine Z_aload0 hk dX9_answers_0 ?_
  refine Z_iload1 hk dX9_answers_1 ?_
  refine Z_Vi hk (c_X9_isTrial κ.2.1 δ ad _ hA t (by (omega)) (by (omega))) ov_X9_isTrial ml_X9_470 dX9_answers_2 rfl ⟨by decide, by decide⟩ ob_48.1 (by decide) (by decide) rfl (Nat.le_of_ble_eq_true rfl) (fun r2 m2 p2 => ?_)
  obtain ⟨rfl, p2⟩ := p2
  refine Z_if_ne hk (tgt := 10) dX9_answers_5 (by decide) (by omega) (by omega) (fun h5 => ?_) (fun h5 => ?_)
  · refine Z_aload0 hk dX9_answers_10 ?_
    refine Z_iload1 hk dX9_answers_11 ?_
    refine Z_iconst hk dX9_answers_12 ?_
    refine Z_Vv hk (c_X9_counts κ.2.1 δ ad _ hA t 0 (by (omega)) (by (omega)) (by (exact q1)) (by (exact q3)) (by (exact q4)) (by (exact q5)) (by (omega))) ov_X9_counts ml_X9_530 dX9_answers_13 rfl ⟨by decide, by decide⟩ ob_48.1 (by decide) (by decide) rfl (Nat.le_of_ble_eq_true rfl) (fun m13 p13 => ?_)
    obtain ⟨p13, f13_0, f13_1⟩ := p13
    try simp only [f13_0, f13_1, and_true, true_and, or_true, true_or, implies_true, upn, reduceIte, Nat.reduceEqDiff, ne_eq, not_false_eq_true, upc] at p13
    refine Z_aload0 hk dX9_answers_16 ?_
    refine Z_Vi hk (c_X9_ofN κ.2.1 δ ad _ hA  (by (try simp only [f13_0, f13_1, and_true, true_and, or_true, true_or, implies_true, upn, reduceIte, Nat.reduceEqDiff, ne_eq, not_false_eq_true, upc]) <;> (omega))) ov_X9_ofN ml_X9_520 dX9_answers_17 rfl ⟨by decide, by decide⟩ ob_48.1 (by decide) (by decide) rfl (Nat.le_of_ble_eq_true rfl) (fun r17 m17 p17 => ?_)
    obtain ⟨rfl, p17⟩ := p17
    try simp only [f13_0, f13_1, and_true, true_and, or_true, true_or, implies_true, upn, reduceIte, Nat.reduceEqDiff, ne_eq, not_false_eq_true, upc] at p17
    exact Z_iret hk hA hQ dX9_answers_20 ⟨rfl, rfl, _, rfl, (by exact ⟨(by (try simp only [f13_0, f13_1, and_true, true_and, or_true, true_or, implies_true, upn, reduceIte, Nat.reduceEqDiff, ne_eq, not_false_eq_true, upc]) <;> (trivial)), (by intro c k0 k1 k2; simp only [f13_0, f13_1, upc, upn, k0, k1, k2, reduceIte, Nat.reduceEqDiff, ne_eq, not_false_eq_true]), (by intro i k0 k1 k2 k3 k4; simp only [f13_0, f13_1, upc, upn, k0, k1, k2, k3, k4, reduceIte, Nat.reduceEqDiff, ne_eq, not_false_eq_true])⟩)⟩
  · refine Z_iconst hk dX9_answers_8 ?_
    exact Z_iret hk hA hQ dX9_answers_9 ⟨rfl, rfl, _, rfl, (by exact ⟨(by (trivial)), (by intro c k0 k1 k2; rfl), (by intro i k0 k1 k2 k3 k4; rfl)⟩)⟩
set_option maxRecDepth 10000 in
theorem c_X9_tables (l : Launch) (δ : Dp) (ad : Nat → Nat) (M : Mem) (hA : okA δ ad) (z : Int) (s : Int) (nn : Int) (q0 : 0 ≤ s ∧ s ≤ 1000 ∧ 0 ≤ nn ∧ nn ≤ 30) (q1 : z = 0 ∨ z = 1) : Mv l δ yX9_tables cX9_tables 12 none 0 0 ad rs [.ref (ad 48), iv z, iv s, iv nn] M (fun M' => (True) ∧ (∀ c : Nat, c ≠ 112 → M' c = M c)) := by
  refine Mg.of (rm := rmN 0 0) (by decide) (Nat.le_of_ble_eq_true rfl) fun κ _ hk _ => ?_
  generalize hQ : Qg κ δ 121 (rmN 0 0).cells (rmN 0 0).slots _ = Q
  show Zj κ δ ad rs Q 12 (121, 0, 0) 0 [some (.ref (ad 48)), some (iv z), some (iv s), some (iv nn), none, none, none, none, none, none, none, none] [] M
  refine Z_iload1 hk dX9_tables_0 ?_
  have J23 : ∀ (y0_23 : Int), (1000 ≤ y0_23 ∧ y0_23 ≤ 3000) → Zj κ δ ad rs Q 12 (121, 0, 0) 23 [some (.ref (ad 48)), some (iv z), some (iv s), some (iv nn), none, none, none, none, none, none, none, none] [jv y0_23] M := by
    intro y0_23 h23
    refine Z_lstore4 hk rfl (by decide) dX9_tables_23 ?_
    refine Z_iload1 hk dX9_tables_25 ?_
    have J38 : ∀ (y0_38 : Int), (2000 ≤ y0_38 ∧ y0_38 ≤ 3000) → Zj κ δ ad rs Q 12 (121, 0, 0) 38 [some (.ref (ad 48)), some (iv z), some (iv s), some (iv nn), some (jv y0_23), none, none, none, none, none, none, none] [jv y0_38] M := by
      intro y0_38 h38
      refine Z_lstore6 hk rfl (by decide) dX9_tables_38 ?_
      refine Z_iconst hk dX9_tables_40 ?_
      have J43 : ∀ (n : Nat) (x8_43 : Int) (m43 : Mem), ((0 ≤ x8_43 ∧ x8_43 ≤ 32) ∧ (∀ c : Nat, c ≠ 112 → m43 c = M c)) → (32 - x8_43) < (n : Int) → Zj κ δ ad rs Q 12 (121, 0, 0) 43 [some (.ref (ad 48)), some (iv z), some (iv s), some (iv nn), some (jv y0_23), none, some (jv y0_38), none, some (iv x8_43), none, none, none] [] m43 := by
        intro n
        induction n with
        | zero => intro x8_43 m43 h43 hm43; exfalso; obtain ⟨h43, -⟩ := h43; omega
        | succ n ih43 =>
          intro x8_43 m43 h43 hm43
          obtain ⟨h43, f43_0⟩ := h43
          try simp only [f43_0, and_true, true_and, or_true, true_or, implies_true, upn, reduceIte, Nat.reduceEqDiff, ne_eq, not_false_eq_true, upc] at h43 hm43
          refine Z_iload8 hk dX9_tables_43 ?_
          refine Z_bipush hk dX9_tables_45 (by decide) ?_
          refine Z_icmp_ge hk (tgt := 75) dX9_tables_47 (by decide) (by omega) (by omega) (by decide) (by decide) (fun h47 => ?_) (fun h47 => ?_)
          · refine Z_iconst hk dX9_tables_75 ?_
            have J78 : ∀ (n : Nat) (x8_78 : Int) (m78 : Mem), ((1 ≤ x8_78 ∧ x8_78 ≤ nn + 1) ∧ (∀ c : Nat, c ≠ 112 → m78 c = m43 c)) → (nn + 1 - x8_78) < (n : Int) → Zj κ δ ad rs Q 12 (121, 0, 0) 78 [some (.ref (ad 48)), some (iv z), some (iv s), some (iv nn), some (jv y0_23), none, some (jv y0_38), none, some (iv x8_78), none, none, none] [] m78 := by
              intro n
              induction n with
              | zero => intro x8_78 m78 h78 hm78; exfalso; obtain ⟨h78, -⟩ := h78; omega
              | succ n ih78 =>
                intro x8_78 m78 h78 hm78
                obtain ⟨h78, f78_0⟩ := h78
                try simp only [f78_0, f43_0, and_true, true_and, or_true, true_or, implies_true, upn, reduceIte, Nat.reduceEqDiff, ne_eq, not_false_eq_true, upc] at h78 hm78
                refine Z_iload8 hk dX9_tables_78 ?_
                refine Z_iload3 hk dX9_tables_80 ?_
                refine Z_icmp_gt hk (tgt := 157) dX9_tables_81 (by decide) (by omega) (by omega) (by omega) (by omega) (fun h81 => ?_) (fun h81 => ?_)
                · exact Z_vret hk hA hQ dX9_tables_157 ⟨rfl, rfl, rfl, (by exact ⟨(by (try simp only [f78_0, f43_0, and_true, true_and, or_true, true_or, implies_true, upn, reduceIte, Nat.reduceEqDiff, ne_eq, not_false_eq_true, upc]) <;> (trivial)), (by intro c k0; simp only [f78_0, f43_0, upc, upn, k0, reduceIte, Nat.reduceEqDiff, ne_eq, not_false_eq_true])⟩)⟩
                · refine Z_iload8 hk dX9_tables_84 ?_
                  have J88 : ∀ (n : Nat) (x9_88 : Int) (m88 : Mem), ((-1 ≤ x9_88 ∧ x9_88 ≤ 30) ∧ (∀ c : Nat, c ≠ 112 → m88 c = m78 c)) → (x9_88 + 1) < (n : Int) → Zj κ δ ad rs Q 12 (121, 0, 0) 88 [some (.ref (ad 48)), some (iv z), some (iv s), some (iv nn), some (jv y0_23), none, some (jv y0_38), none, some (iv x8_78), some (iv x9_88), none, none] [] m88 := by
                    intro n
                    induction n with
                    | zero => intro x9_88 m88 h88 hm88; exfalso; obtain ⟨h88, -⟩ := h88; omega
                    | succ n ih88 =>
                      intro x9_88 m88 h88 hm88
                      obtain ⟨h88, f88_0⟩ := h88
                      try simp only [f88_0, f78_0, f43_0, and_true, true_and, or_true, true_or, implies_true, upn, reduceIte, Nat.reduceEqDiff, ne_eq, not_false_eq_true, upc] at h88 hm88
                      refine Z_iload9 hk dX9_tables_88 ?_
                      refine Z_if_lt hk (tgt := 151) dX9_tables_90 (by decide) (by omega) (by omega) (fun h90 => ?_) (fun h90 => ?_)
                      · refine Z_iinc8 hk rfl (by decide) dX9_tables_151 ?_
                        refine Z_goto hk (tgt := 78) dX9_tables_154 (by decide) ?_
                        refine Z_drop9 ?_
                        exact ih78 _ _ (by exact ⟨(by (try simp only [f88_0, f78_0, f43_0, and_true, true_and, or_true, true_or, implies_true, upn, reduceIte, Nat.reduceEqDiff, ne_eq, not_false_eq_true, upc]) <;> (omega)), (by intro c k0; simp only [f88_0, f78_0, f43_0, upc, upn, k0, reduceIte, Nat.reduceEqDiff, ne_eq, not_false_eq_true])⟩) (by (try simp only [f88_0, f78_0, f43_0, and_true, true_and, or_true, true_or, implies_true, upn, reduceIte, Nat.reduceEqDiff, ne_eq, not_false_eq_true, upc]) <;> (omega))
                      · refine Z_aload0 hk dX9_tables_93 ?_
                        refine Z_getR hk fl_9_215 dX9_tables_94 ob_48.1 ob_48.2.1 ob_48.2.2.1 ob_48.2.2.2 ft_9_100 rs_48_100 ?_
                        refine Z_iload9 hk dX9_tables_97 ?_
                        refine Z_lald hk dX9_tables_99 ar_112.1 ar_112.2.1 ar_112.2.2 (by omega) (by omega) (fun v99 e99 a99 b99 => ?_)
                        try simp only [f88_0, f78_0, f43_0, and_true, true_and, or_true, true_or, implies_true, upn, reduceIte, Nat.reduceEqDiff, ne_eq, not_false_eq_true, upc] at e99
                        refine Z_lload6 hk dX9_tables_100 ?_
                        refine Z_lload4 hk dX9_tables_102 ?_
                        refine Z_lsub hk dX9_tables_104 ?_
                        refine Z_lmul hk dX9_tables_105 ?_
                        refine Z_wJ (fun w105 a105w b105w g105w => ?_)
                        refine Z_lload6 hk dX9_tables_106 ?_
                        refine Z_ldiv hk dX9_tables_108 (by omega) (by omega) (by omega) (by omega) (by omega) ?_
                        refine Z_wJ (fun w108 a108w b108w g108w => ?_)
                        refine Z_lstore10 hk rfl (by decide) dX9_tables_109 ?_
                        refine Z_iload9 hk dX9_tables_111 ?_
                        have J136 : ∀ (x10_136 : Int), (-9223372036854775808 ≤ x10_136 ∧ x10_136 ≤ 9223372036854775807) → Zj κ δ ad rs Q 12 (121, 0, 0) 136 [some (.ref (ad 48)), some (iv z), some (iv s), some (iv nn), some (jv y0_23), none, some (jv y0_38), none, some (iv x8_78), some (iv x9_88), some (jv x10_136), none] [] m88 := by
                          intro x10_136 h136
                          try simp only [f88_0, f78_0, f43_0, and_true, true_and, or_true, true_or, implies_true, upn, reduceIte, Nat.reduceEqDiff, ne_eq, not_false_eq_true, upc] at h136
                          refine Z_aload0 hk dX9_tables_136 ?_
                          refine Z_getR hk fl_9_215 dX9_tables_137 ob_48.1 ob_48.2.1 ob_48.2.2.1 ob_48.2.2.2 ft_9_100 rs_48_100 ?_
                          refine Z_iload9 hk dX9_tables_140 ?_
                          refine Z_lload10 hk dX9_tables_142 ?_
                          refine Z_last hk hA dX9_tables_144 ar_112.1 ar_112.2.1 ar_112.2.2 (by omega) (by omega) (by omega) (by omega) ?_
                          refine Z_nm (fun m144 em144 => ?_)
                          refine Z_iinc9 hk rfl (by decide) dX9_tables_145 ?_
                          refine Z_goto hk (tgt := 88) dX9_tables_148 (by decide) ?_
                          refine Z_drop10 ?_
                          exact ih88 _ _ (by exact ⟨(by (try simp only [em144, f88_0, f78_0, f43_0, and_true, true_and, or_true, true_or, implies_true, upn, reduceIte, Nat.reduceEqDiff, ne_eq, not_false_eq_true, upc]) <;> (omega)), (by intro c k0; simp only [em144, f88_0, f78_0, f43_0, upc, upn, k0, reduceIte, Nat.reduceEqDiff, ne_eq, not_false_eq_true])⟩) (by (try simp only [em144, f88_0, f78_0, f43_0, and_true, true_and, or_true, true_or, implies_true, upn, reduceIte, Nat.reduceEqDiff, ne_eq, not_false_eq_true, upc]) <;> (omega))
                        refine Z_if_le hk (tgt := 136) dX9_tables_113 (by decide) (by omega) (by omega) (fun h113 => ?_) (fun h113 => ?_)
                        · exact J136 _ (by (try simp only [f88_0, f78_0, f43_0, and_true, true_and, or_true, true_or, implies_true, upn, reduceIte, Nat.reduceEqDiff, ne_eq, not_false_eq_true, upc]) <;> (omega))
                        · refine Z_lload10 hk dX9_tables_116 ?_
                          refine Z_aload0 hk dX9_tables_118 ?_
                          refine Z_getR hk fl_9_215 dX9_tables_119 ob_48.1 ob_48.2.1 ob_48.2.2.1 ob_48.2.2.2 ft_9_100 rs_48_100 ?_
                          refine Z_iload9 hk dX9_tables_122 ?_
                          refine Z_iconst hk dX9_tables_124 ?_
                          refine Z_isub hk dX9_tables_125 ?_
                          refine Z_lald hk dX9_tables_126 ar_112.1 ar_112.2.1 ar_112.2.2 (by omega) (by omega) (fun v126 e126 a126 b126 => ?_)
                          try simp only [f88_0, f78_0, f43_0, e99, and_true, true_and, or_true, true_or, implies_true, upn, reduceIte, Nat.reduceEqDiff, ne_eq, not_false_eq_true, upc] at e126
                          refine Z_lload4 hk dX9_tables_127 ?_
                          refine Z_lmul hk dX9_tables_129 ?_
                          refine Z_wJ (fun w129 a129w b129w g129w => ?_)
                          refine Z_lload6 hk dX9_tables_130 ?_
                          refine Z_ldiv hk dX9_tables_132 (by omega) (by omega) (by omega) (by omega) (by omega) ?_
                          refine Z_wJ (fun w132 a132w b132w g132w => ?_)
                          refine Z_ladd hk dX9_tables_133 ?_
                          refine Z_wJ (fun w133 a133w b133w g133w => ?_)
                          refine Z_lstore10 hk rfl (by decide) dX9_tables_134 ?_
                          exact J136 _ (by (try simp only [f88_0, f78_0, f43_0, and_true, true_and, or_true, true_or, implies_true, upn, reduceIte, Nat.reduceEqDiff, ne_eq, not_false_eq_true, upc]) <;> (omega))
                  refine Z_istore9 hk rfl (by decide) dX9_tables_86 ?_
                  exact J88 (((x8_78 + 1) : Int).toNat + 1) _ _ (by exact ⟨(by (try simp only [f78_0, f43_0, and_true, true_and, or_true, true_or, implies_true, upn, reduceIte, Nat.reduceEqDiff, ne_eq, not_false_eq_true, upc]) <;> (omega)), (by intro c k0; simp only [f78_0, f43_0, upc, upn, k0, reduceIte, Nat.reduceEqDiff, ne_eq, not_false_eq_true])⟩) (by omega)
            refine Z_istore8 hk rfl (by decide) dX9_tables_76 ?_
            exact J78 (((nn + 1 - 1) : Int).toNat + 1) _ _ (by exact ⟨(by (try simp only [f43_0, and_true, true_and, or_true, true_or, implies_true, upn, reduceIte, Nat.reduceEqDiff, ne_eq, not_false_eq_true, upc]) <;> (omega)), (by intro c k0; simp only [f43_0, upc, upn, k0, reduceIte, Nat.reduceEqDiff, ne_eq, not_false_eq_true])⟩) (by omega)
          · refine Z_aload0 hk dX9_tables_50 ?_
            refine Z_getR hk fl_9_215 dX9_tables_51 ob_48.1 ob_48.2.1 ob_48.2.2.1 ob_48.2.2.2 ft_9_100 rs_48_100 ?_
            refine Z_iload8 hk dX9_tables_54 ?_
            refine Z_iload8 hk dX9_tables_56 ?_
            have J68 : ∀ (y2_68 : Int), (0 ≤ y2_68 ∧ y2_68 ≤ 1073741824) → Zj κ δ ad rs Q 12 (121, 0, 0) 68 [some (.ref (ad 48)), some (iv z), some (iv s), some (iv nn), some (jv y0_23), none, some (jv y0_38), none, some (iv x8_43), none, none, none] [jv y2_68, iv x8_43, .ref (ad 112)] m43 := by
              intro y2_68 h68
              try simp only [f43_0, and_true, true_and, or_true, true_or, implies_true, upn, reduceIte, Nat.reduceEqDiff, ne_eq, not_false_eq_true, upc] at h68
              refine Z_last hk hA dX9_tables_68 ar_112.1 ar_112.2.1 ar_112.2.2 (by omega) (by omega) (by omega) (by omega) ?_
              refine Z_nm (fun m68 em68 => ?_)
              refine Z_iinc8 hk rfl (by decide) dX9_tables_69 ?_
              refine Z_goto hk (tgt := 43) dX9_tables_72 (by decide) ?_
              exact ih43 _ _ (by exact ⟨(by (try simp only [em68, f43_0, and_true, true_and, or_true, true_or, implies_true, upn, reduceIte, Nat.reduceEqDiff, ne_eq, not_false_eq_true, upc]) <;> (omega)), (by intro c k0; simp only [em68, f43_0, upc, upn, k0, reduceIte, Nat.reduceEqDiff, ne_eq, not_false_eq_true])⟩) (by (try simp only [em68, f43_0, and_true, true_and, or_true, true_or, implies_true, upn, reduceIte, Nat.reduceEqDiff, ne_eq, not_false_eq_true, upc]) <;> (omega))
            refine Z_if_ne hk (tgt := 67) dX9_tables_58 (by decide) (by omega) (by omega) (fun h58 => ?_) (fun h58 => ?_)
            · refine Z_lconst0 hk dX9_tables_67 ?_
              exact J68 _ (by (try simp only [f43_0, and_true, true_and, or_true, true_or, implies_true, upn, reduceIte, Nat.reduceEqDiff, ne_eq, not_false_eq_true, upc]) <;> (omega))
            · refine Z_ldc2_w hk (n := 1073741824) (mem_g (by decide +kernel)) dX9_tables_61 ?_
              refine Z_goto hk (tgt := 68) dX9_tables_64 (by decide) ?_
              exact J68 _ (by (try simp only [f43_0, and_true, true_and, or_true, true_or, implies_true, upn, reduceIte, Nat.reduceEqDiff, ne_eq, not_false_eq_true, upc]) <;> (omega))
      refine Z_istore8 hk rfl (by decide) dX9_tables_41 ?_
      exact J43 (((32 - 0) : Int).toNat + 1) _ _ (by exact ⟨(by (omega)), (by intro c k0; rfl)⟩) (by omega)
    refine Z_if_eq hk (tgt := 35) dX9_tables_26 (by decide) (by omega) (by omega) (fun h26 => ?_) (fun h26 => ?_)
    · refine Z_ldc2_w hk (n := 2000) (mem_g (by decide +kernel)) dX9_tables_35 ?_
      exact J38 _ (by omega)
    · refine Z_ldc2_w hk (n := 3000) (mem_g (by decide +kernel)) dX9_tables_29 ?_
      refine Z_goto hk (tgt := 38) dX9_tables_32 (by decide) ?_
      exact J38 _ (by omega)
  refine Z_if_eq hk (tgt := 17) dX9_tables_1 (by decide) (by omega) (by omega) (fun h1 => ?_) (fun h1 => ?_)
  · refine Z_ldc2_w hk (n := 1000) (mem_g (by decide +kernel)) dX9_tables_17 ?_
    refine Z_iload2 hk dX9_tables_20 ?_
    refine Z_i2l hk dX9_tables_21 (by omega) (by omega) ?_
    refine Z_ladd hk dX9_tables_22 ?_
    exact J23 _ (by omega)
  · refine Z_ldc2_w hk (n := 1000) (mem_g (by decide +kernel)) dX9_tables_4 ?_
    refine Z_ldc2_w hk (n := 2) (mem_g (by decide +kernel)) dX9_tables_7 ?_
    refine Z_iload2 hk dX9_tables_10 ?_
    refine Z_i2l hk dX9_tables_11 (by omega) (by omega) ?_
    refine Z_lmul hk dX9_tables_12 ?_
    refine Z_ladd hk dX9_tables_13 ?_
    refine Z_goto hk (tgt := 23) dX9_tables_14 (by decide) ?_
    exact J23 _ (by omega)
set_option maxRecDepth 10000 in
theorem c_X9_rowSum (l : Launch) (δ : Dp) (ad : Nat → Nat) (M : Mem) (hA : okA δ ad) (a : Int) (b : Int) (q0 : 0 ≤ a ∧ a ≤ 31 ∧ b ≤ 31) (qa : -2147483648 ≤ b) : Mj l δ yX9_rowSum cX9_rowSum 6 (some (.long)) 0 0 ad rs [.ref (ad 48), iv a, iv b] M (fun r M' => M = M' ∧ (-9223372036854775808 ≤ r ∧ r ≤ 9223372036854775807)) := by
  refine Mg.of (rm := rmN 0 0) (by decide) (Nat.le_of_ble_eq_true rfl) fun κ _ hk _ => ?_
  generalize hQ : Qg κ δ 121 (rmN 0 0).cells (rmN 0 0).slots _ = Q
  show Zj κ δ ad rs Q 6 (121, 0, 0) 0 [some (.ref (ad 48)), some (iv a), some (iv b), none, none, none] [] M
  refine Z_lconst0 hk dX9_rowSum_0 ?_
  refine Z_lstore3 hk rfl (by decide) dX9_rowSum_1 ?_
  refine Z_iload1 hk dX9_rowSum_2 ?_
  have J5 : ∀ (n : Nat) (x3_5 : Int) (x5_5 : Int), (a ≤ x5_5 ∧ x5_5 ≤ 32 ∧ -9223372036854775808 ≤ x3_5 ∧ x3_5 ≤ 9223372036854775807) → (32 - x5_5) < (n : Int) → Zj κ δ ad rs Q 6 (121, 0, 0) 5 [some (.ref (ad 48)), some (iv a), some (iv b), some (jv x3_5), none, some (iv x5_5)] [] M := by
    intro n
    induction n with
    | zero => intro x3_5 x5_5 h5 hm5; exfalso; omega
    | succ n ih5 =>
      intro x3_5 x5_5 h5 hm5
      refine Z_iload5 hk dX9_rowSum_5 ?_
      refine Z_iload2 hk dX9_rowSum_7 ?_
      refine Z_icmp_gt hk (tgt := 27) dX9_rowSum_8 (by decide) (by omega) (by omega) (by omega) (by omega) (fun h8 => ?_) (fun h8 => ?_)
      · refine Z_lload3 hk dX9_rowSum_27 ?_
        exact Z_lret hk hA hQ dX9_rowSum_28 ⟨rfl, rfl, _, rfl, (by exact ⟨rfl, (by omega)⟩)⟩
      · refine Z_lload3 hk dX9_rowSum_11 ?_
        refine Z_aload0 hk dX9_rowSum_12 ?_
        refine Z_getR hk fl_9_215 dX9_rowSum_13 ob_48.1 ob_48.2.1 ob_48.2.2.1 ob_48.2.2.2 ft_9_100 rs_48_100 ?_
        refine Z_iload5 hk dX9_rowSum_16 ?_
        refine Z_lald hk dX9_rowSum_18 ar_112.1 ar_112.2.1 ar_112.2.2 (by omega) (by omega) (fun v18 e18 a18 b18 => ?_)
        refine Z_ladd hk dX9_rowSum_19 ?_
        refine Z_wJ (fun w19 a19w b19w g19w => ?_)
        refine Z_lstore3 hk rfl (by decide) dX9_rowSum_20 ?_
        refine Z_iinc5 hk rfl (by decide) dX9_rowSum_21 ?_
        refine Z_goto hk (tgt := 5) dX9_rowSum_24 (by decide) ?_
        exact ih5 _ _ (by omega) (by (omega))
  refine Z_istore5 hk rfl (by decide) dX9_rowSum_3 ?_
  exact J5 (((32 - a) : Int).toNat + 1) _ _ (by omega) (by omega)
set_option maxRecDepth 10000 in
theorem c_X9_table (l : Launch) (δ : Dp) (ad : Nat → Nat) (M : Mem) (hA : okA δ ad) (z : Int) (s : Int) (j : Int) (nn : Int) (qz : z = 0 ∨ z = 1) (i_s : -2147483648 ≤ s ∧ s ≤ 2147483647) (i_j : -2147483648 ≤ j ∧ j ≤ 2147483647) (i_nn : -2147483648 ≤ nn ∧ nn ≤ 2147483647) : Mj l δ yX9_table cX9_table 5 (some (.long)) 1 31 ad rs [.ref (ad 48), iv z, iv s, iv j, iv nn] M (fun r M' => (True) ∧ (∀ c : Nat, c ≠ 112 → M' c = M c)) := by
  refine Mg.of (rm := rmN 1 31) (by decide) (Nat.le_of_ble_eq_true rfl) fun κ _ hk _ => ?_
  generalize hQ : Qg κ δ 121 (rmN 1 31).cells (rmN 1 31).slots _ = Q
  show Zj κ δ ad rs Q 5 (121, 0, 0) 0 [some (.ref (ad 48)), some (iv z), some (iv s), some (iv j), some (iv nn)] [] M
  refine Z_iload2 hk dX9_table_0 ?_
  refine Z_i2l hk dX9_table_1 (by omega) (by omega) ?_
  refine Z_lconst0 hk dX9_table_2 ?_
  refine Z_ldc2_w hk (n := 1000) (mem_g (by decide +kernel)) dX9_table_3 ?_
  refine Z_Si hk (c_X9_isIn κ.2.1 δ ad _ hA s 0 (1000) (by (omega)) (by (omega)) (by (omega))) os_X9_isIn ml_X9_285 dX9_table_6 rfl ⟨by decide, by decide⟩ rfl (Nat.le_of_ble_eq_true rfl) (fun r6 m6 p6 => ?_)
  obtain ⟨rfl, p6⟩ := p6
  refine Z_if_eq hk (tgt := 37) dX9_table_9 (by decide) (by omega) (by omega) (fun h9 => ?_) (fun h9 => ?_)
  · refine Z_ldc2_w hk (n := -1) (mem_g (by decide +kernel)) dX9_table_37 ?_
    exact Z_lret hk hA hQ dX9_table_40 ⟨rfl, rfl, _, rfl, (by exact ⟨(by (trivial)), (by intro c k0; rfl)⟩)⟩
  · refine Z_iload4 hk dX9_table_12 ?_
    refine Z_i2l hk dX9_table_14 (by omega) (by omega) ?_
    refine Z_lconst0 hk dX9_table_15 ?_
    refine Z_ldc2_w hk (n := 30) (mem_g (by decide +kernel)) dX9_table_16 ?_
    refine Z_Si hk (c_X9_isIn κ.2.1 δ ad _ hA nn 0 (30) (by (omega)) (by (omega)) (by (omega))) os_X9_isIn ml_X9_285 dX9_table_19 rfl ⟨by decide, by decide⟩ rfl (Nat.le_of_ble_eq_true rfl) (fun r19 m19 p19 => ?_)
    obtain ⟨rfl, p19⟩ := p19
    refine Z_if_eq hk (tgt := 37) dX9_table_22 (by decide) (by omega) (by omega) (fun h22 => ?_) (fun h22 => ?_)
    · refine Z_ldc2_w hk (n := -1) (mem_g (by decide +kernel)) dX9_table_37 ?_
      exact Z_lret hk hA hQ dX9_table_40 ⟨rfl, rfl, _, rfl, (by exact ⟨(by (trivial)), (by intro c k0; rfl)⟩)⟩
    · refine Z_iload3 hk dX9_table_25 ?_
      refine Z_i2l hk dX9_table_26 (by omega) (by omega) ?_
      refine Z_lconst0 hk dX9_table_27 ?_
      refine Z_iload4 hk dX9_table_28 ?_
      refine Z_i2l hk dX9_table_30 (by omega) (by omega) ?_
      refine Z_Si hk (c_X9_isIn κ.2.1 δ ad _ hA j 0 nn (by (omega)) (by (omega)) (by (omega))) os_X9_isIn ml_X9_285 dX9_table_31 rfl ⟨by decide, by decide⟩ rfl (Nat.le_of_ble_eq_true rfl) (fun r31 m31 p31 => ?_)
      obtain ⟨rfl, p31⟩ := p31
      refine Z_if_ne hk (tgt := 41) dX9_table_34 (by decide) (by omega) (by omega) (fun h34 => ?_) (fun h34 => ?_)
      · refine Z_aload0 hk dX9_table_41 ?_
        refine Z_iload1 hk dX9_table_42 ?_
        refine Z_iload2 hk dX9_table_43 ?_
        refine Z_iload4 hk dX9_table_44 ?_
        refine Z_Vv hk (c_X9_tables κ.2.1 δ ad _ hA z s nn (by (omega)) (by (omega))) ov_X9_tables ml_X9_560 dX9_table_46 rfl ⟨by decide, by decide⟩ ob_48.1 (by decide) (by decide) rfl (Nat.le_of_ble_eq_true rfl) (fun m46 p46 => ?_)
        obtain ⟨p46, f46_0⟩ := p46
        try simp only [f46_0, and_true, true_and, or_true, true_or, implies_true, upn, reduceIte, Nat.reduceEqDiff, ne_eq, not_false_eq_true, upc] at p46
        refine Z_aload0 hk dX9_table_49 ?_
        refine Z_getR hk fl_9_215 dX9_table_50 ob_48.1 ob_48.2.1 ob_48.2.2.1 ob_48.2.2.2 ft_9_100 rs_48_100 ?_
        refine Z_iload3 hk dX9_table_53 ?_
        refine Z_lald hk dX9_table_54 ar_112.1 ar_112.2.1 ar_112.2.2 (by omega) (by omega) (fun v54 e54 a54 b54 => ?_)
        try simp only [f46_0, and_true, true_and, or_true, true_or, implies_true, upn, reduceIte, Nat.reduceEqDiff, ne_eq, not_false_eq_true, upc] at e54
        exact Z_lret hk hA hQ dX9_table_55 ⟨rfl, rfl, _, rfl, (by exact ⟨(by (try simp only [f46_0, and_true, true_and, or_true, true_or, implies_true, upn, reduceIte, Nat.reduceEqDiff, ne_eq, not_false_eq_true, upc]) <;> (trivial)), (by intro c k0; simp only [f46_0, upc, upn, k0, reduceIte, Nat.reduceEqDiff, ne_eq, not_false_eq_true])⟩)⟩
      · refine Z_ldc2_w hk (n := -1) (mem_g (by decide +kernel)) dX9_table_37 ?_
        exact Z_lret hk hA hQ dX9_table_40 ⟨rfl, rfl, _, rfl, (by exact ⟨(by (trivial)), (by intro c k0; rfl)⟩)⟩
set_option maxRecDepth 10000 in
theorem c_X9_thousandths (l : Launch) (δ : Dp) (ad : Nat → Nat) (M : Mem) (hA : okA δ ad) (v : Int) (q0 : 0 ≤ v ∧ v ≤ 1000) : Mj l δ yX9_thousandths cX9_thousandths 1 (some (.long)) 0 0 ad rs [iv v] M (fun r M' => M = M' ∧ (-9223372036854775808 ≤ r ∧ r ≤ 9223372036854775807)) := by
  refine Mg.of (rm := rmN 0 0) (by decide) (Nat.le_of_ble_eq_true rfl) fun κ _ hk _ => ?_
  generalize hQ : Qg κ δ 121 (rmN 0 0).cells (rmN 0 0).slots _ = Q
  show Zj κ δ ad rs Q 1 (121, 0, 0) 0 [some (iv v)] [] M
  refine Z_ldc2_w hk (n := 1073741824) (mem_g (by decide +kernel)) dX9_thousandths_0 ?_
  refine Z_iload0 hk dX9_thousandths_3 ?_
  refine Z_i2l hk dX9_thousandths_4 (by omega) (by omega) ?_
  refine Z_lmul hk dX9_thousandths_5 ?_
  refine Z_ldc2_w hk (n := 1000) (mem_g (by decide +kernel)) dX9_thousandths_6 ?_
  refine Z_ldiv hk dX9_thousandths_9 (by omega) (by omega) (by omega) (by omega) (by omega) ?_
  refine Z_wJ (fun w9 a9w b9w g9w => ?_)
  exact Z_lret hk hA hQ dX9_thousandths_10 ⟨rfl, rfl, _, rfl, (by exact ⟨rfl, (by omega)⟩)⟩
set_option maxRecDepth 10000 in
theorem c_X9_least (l : Launch) (δ : Dp) (ad : Nat → Nat) (M : Mem) (hA : okA δ ad) (t : Int) (q0 : 0 ≤ t ∧ t ≤ 3) (q1 : 0 ≤ (M 48 94) ∧ 0 ≤ (M 48 95) ∧ 0 ≤ (M 48 96) ∧ (M 48 94) + (M 48 95) + (M 48 96) ≤ 30) : Mi l δ yX9_least cX9_least 3 (some (.int)) 1 31 ad rs [.ref (ad 48), iv t] M (fun r M' => (0 ≤ r ∧ r ≤ 1000) ∧ (∀ c : Nat, c ≠ 112 → M' c = M c)) := by
  refine Mg.of (rm := rmN 1 31) (by decide) (Nat.le_of_ble_eq_true rfl) fun κ _ hk _ => ?_
  generalize hQ : Qg κ δ 121 (rmN 1 31).cells (rmN 1 31).slots _ = Q
  show Zj κ δ ad rs Q 3 (121, 0, 0) 0 [some (.ref (ad 48)), some (iv t), none] [] M
  refine Z_iconst hk dX9_least_0 ?_
  have J2 : ∀ (n : Nat) (x2_2 : Int) (m2 : Mem), ((0 ≤ x2_2 ∧ x2_2 ≤ 1001) ∧ (∀ c : Nat, c ≠ 112 → m2 c = M c)) → (1001 - x2_2) < (n : Int) → Zj κ δ ad rs Q 3 (121, 0, 0) 2 [some (.ref (ad 48)), some (iv t), some (iv x2_2)] [] m2 := by
    intro n
    induction n with
    | zero => intro x2_2 m2 h2 hm2; exfalso; obtain ⟨h2, -⟩ := h2; omega
    | succ n ih2 =>
      intro x2_2 m2 h2 hm2
      obtain ⟨h2, f2_0⟩ := h2
      try simp only [f2_0, and_true, true_and, or_true, true_or, implies_true, upn, reduceIte, Nat.reduceEqDiff, ne_eq, not_false_eq_true, upc] at h2 hm2
      refine Z_iload2 hk dX9_least_2 ?_
      refine Z_sipush hk dX9_least_3 (by decide) ?_
      refine Z_icmp_gt hk (tgt := 54) dX9_least_6 (by decide) (by omega) (by omega) (by decide) (by decide) (fun h6 => ?_) (fun h6 => ?_)
      · refine Z_sipush hk dX9_least_54 (by decide) ?_
        exact Z_iret hk hA hQ dX9_least_57 ⟨rfl, rfl, _, rfl, (by exact ⟨(by (try simp only [f2_0, and_true, true_and, or_true, true_or, implies_true, upn, reduceIte, Nat.reduceEqDiff, ne_eq, not_false_eq_true, upc]) <;> (omega)), (by intro c k0; simp only [f2_0, upc, upn, k0, reduceIte, Nat.reduceEqDiff, ne_eq, not_false_eq_true])⟩)⟩
      · refine Z_aload0 hk dX9_least_9 ?_
        refine Z_aload0 hk dX9_least_10 ?_
        refine Z_getR hk fl_9_152 dX9_least_11 ob_48.1 ob_48.2.1 ob_48.2.2.1 ob_48.2.2.2 ft_9_67 rs_48_67 ?_
        refine Z_iload1 hk dX9_least_14 ?_
        refine Z_zald hk dX9_least_15 ar_94.1 ar_94.2.1 ar_94.2.2 (by omega) (by omega) (fun v15 e15 a15 b15 => ?_)
        try simp only [f2_0, and_true, true_and, or_true, true_or, implies_true, upn, reduceIte, Nat.reduceEqDiff, ne_eq, not_false_eq_true, upc] at e15
        refine Z_iload2 hk dX9_least_16 ?_
        refine Z_aload0 hk dX9_least_17 ?_
        refine Z_Vi hk (c_X9_ofN κ.2.1 δ ad _ hA  (by (try simp only [f2_0, and_true, true_and, or_true, true_or, implies_true, upn, reduceIte, Nat.reduceEqDiff, ne_eq, not_false_eq_true, upc]) <;> (omega))) ov_X9_ofN ml_X9_520 dX9_least_18 rfl ⟨by decide, by decide⟩ ob_48.1 (by decide) (by decide) rfl (Nat.le_of_ble_eq_true rfl) (fun r18 m18 p18 => ?_)
        obtain ⟨rfl, p18⟩ := p18
        try simp only [f2_0, e15, and_true, true_and, or_true, true_or, implies_true, upn, reduceIte, Nat.reduceEqDiff, ne_eq, not_false_eq_true, upc] at p18
        refine Z_Vv hk (c_X9_tables κ.2.1 δ ad _ hA v15 x2_2 r18 (by (try simp only [f2_0, and_true, true_and, or_true, true_or, implies_true, upn, reduceIte, Nat.reduceEqDiff, ne_eq, not_false_eq_true, upc]) <;> (omega)) (by (try simp only [f2_0, and_true, true_and, or_true, true_or, implies_true, upn, reduceIte, Nat.reduceEqDiff, ne_eq, not_false_eq_true, upc]) <;> (omega))) ov_X9_tables ml_X9_560 dX9_least_21 rfl ⟨by decide, by decide⟩ ob_48.1 (by decide) (by decide) rfl (Nat.le_of_ble_eq_true rfl) (fun m21 p21 => ?_)
        obtain ⟨p21, f21_0⟩ := p21
        try simp only [f21_0, f2_0, e15, and_true, true_and, or_true, true_or, implies_true, upn, reduceIte, Nat.reduceEqDiff, ne_eq, not_false_eq_true, upc] at p21
        refine Z_aload0 hk dX9_least_24 ?_
        refine Z_aload0 hk dX9_least_25 ?_
        refine Z_iload1 hk dX9_least_26 ?_
        refine Z_Vi hk (c_X9_ofK κ.2.1 δ ad _ hA t (by (try simp only [f21_0, f2_0, and_true, true_and, or_true, true_or, implies_true, upn, reduceIte, Nat.reduceEqDiff, ne_eq, not_false_eq_true, upc]) <;> (omega)) (by (try simp only [f21_0, f2_0, and_true, true_and, or_true, true_or, implies_true, upn, reduceIte, Nat.reduceEqDiff, ne_eq, not_false_eq_true, upc]) <;> (omega))) ov_X9_ofK ml_X9_523 dX9_least_27 rfl ⟨by decide, by decide⟩ ob_48.1 (by decide) (by decide) rfl (Nat.le_of_ble_eq_true rfl) (fun r27 m27 p27 => ?_)
        obtain ⟨rfl, p27⟩ := p27
        try simp only [f21_0, f2_0, e15, and_true, true_and, or_true, true_or, implies_true, upn, reduceIte, Nat.reduceEqDiff, ne_eq, not_false_eq_true, upc] at p27
        refine Z_aload0 hk dX9_least_30 ?_
        refine Z_Vi hk (c_X9_ofN κ.2.1 δ ad _ hA  (by (try simp only [f21_0, f2_0, and_true, true_and, or_true, true_or, implies_true, upn, reduceIte, Nat.reduceEqDiff, ne_eq, not_false_eq_true, upc]) <;> (omega))) ov_X9_ofN ml_X9_520 dX9_least_31 rfl ⟨by decide, by decide⟩ ob_48.1 (by decide) (by decide) rfl (Nat.le_of_ble_eq_true rfl) (fun r31 m31 p31 => ?_)
        obtain ⟨rfl, p31⟩ := p31
        try simp only [f21_0, f2_0, e15, and_true, true_and, or_true, true_or, implies_true, upn, reduceIte, Nat.reduceEqDiff, ne_eq, not_false_eq_true, upc] at p31
        refine Z_Vj hk (c_X9_rowSum κ.2.1 δ ad _ hA r27 r31 (by (try simp only [f21_0, f2_0, and_true, true_and, or_true, true_or, implies_true, upn, reduceIte, Nat.reduceEqDiff, ne_eq, not_false_eq_true, upc]) <;> (omega)) (by (try simp only [f21_0, f2_0, and_true, true_and, or_true, true_or, implies_true, upn, reduceIte, Nat.reduceEqDiff, ne_eq, not_false_eq_true, upc]) <;> (omega))) ov_X9_rowSum ml_X9_564 dX9_least_34 rfl ⟨by decide, by decide⟩ ob_48.1 (by decide) (by decide) rfl (Nat.le_of_ble_eq_true rfl) (fun r34 m34 p34 => ?_)
        obtain ⟨rfl, p34⟩ := p34
        try simp only [f21_0, f2_0, e15, and_true, true_and, or_true, true_or, implies_true, upn, reduceIte, Nat.reduceEqDiff, ne_eq, not_false_eq_true, upc] at p34
        refine Z_bipush hk dX9_least_37 (by decide) ?_
        refine Z_Sj hk (c_X9_thousandths κ.2.1 δ ad _ hA 25 (by (try simp only [f21_0, f2_0, and_true, true_and, or_true, true_or, implies_true, upn, reduceIte, Nat.reduceEqDiff, ne_eq, not_false_eq_true, upc]) <;> (omega))) os_X9_thousandths ml_X9_567 dX9_least_39 rfl ⟨by decide, by decide⟩ rfl (Nat.le_of_ble_eq_true rfl) (fun r39 m39 p39 => ?_)
        obtain ⟨rfl, p39⟩ := p39
        try simp only [f21_0, f2_0, e15, and_true, true_and, or_true, true_or, implies_true, upn, reduceIte, Nat.reduceEqDiff, ne_eq, not_false_eq_true, upc] at p39
        refine Z_lcmp hk dX9_least_42 (by omega) (by omega) (by omega) (by omega) (fun v42 e42 => ?_)
        refine Z_if_lt hk (tgt := 48) dX9_least_43 (by decide) (by omega) (by omega) (fun h43 => ?_) (fun h43 => ?_)
        · refine Z_iinc2 hk rfl (by decide) dX9_least_48 ?_
          refine Z_goto hk (tgt := 2) dX9_least_51 (by decide) ?_
          exact ih2 _ _ (by exact ⟨(by (try simp only [f21_0, f2_0, and_true, true_and, or_true, true_or, implies_true, upn, reduceIte, Nat.reduceEqDiff, ne_eq, not_false_eq_true, upc]) <;> (omega)), (by intro c k0; simp only [f21_0, f2_0, upc, upn, k0, reduceIte, Nat.reduceEqDiff, ne_eq, not_false_eq_true])⟩) (by (try simp only [f21_0, f2_0, and_true, true_and, or_true, true_or, implies_true, upn, reduceIte, Nat.reduceEqDiff, ne_eq, not_false_eq_true, upc]) <;> (omega))
        · refine Z_iload2 hk dX9_least_46 ?_
          exact Z_iret hk hA hQ dX9_least_47 ⟨rfl, rfl, _, rfl, (by exact ⟨(by (try simp only [f21_0, f2_0, and_true, true_and, or_true, true_or, implies_true, upn, reduceIte, Nat.reduceEqDiff, ne_eq, not_false_eq_true, upc]) <;> (omega)), (by intro c k0; simp only [f21_0, f2_0, upc, upn, k0, reduceIte, Nat.reduceEqDiff, ne_eq, not_false_eq_true])⟩)⟩
  refine Z_istore2 hk rfl (by decide) dX9_least_1 ?_
  exact J2 (((1001 - 0) : Int).toNat + 1) _ _ (by exact ⟨(by (omega)), (by intro c k0; rfl)⟩) (by omega)
set_option maxRecDepth 10000 in
theorem c_X9_most (l : Launch) (δ : Dp) (ad : Nat → Nat) (M : Mem) (hA : okA δ ad) (t : Int) (q0 : 0 ≤ t ∧ t ≤ 3) (q1 : 0 ≤ (M 48 94) ∧ 0 ≤ (M 48 95) ∧ 0 ≤ (M 48 96) ∧ (M 48 94) + (M 48 95) + (M 48 96) ≤ 30) : Mi l δ yX9_most cX9_most 3 (some (.int)) 1 31 ad rs [.ref (ad 48), iv t] M (fun r M' => (0 ≤ r ∧ r ≤ 1000) ∧ (∀ c : Nat, c ≠ 112 → M' c = M c)) := by
  refine Mg.of (rm := rmN 1 31) (by decide) (Nat.le_of_ble_eq_true rfl) fun κ _ hk _ => ?_
  generalize hQ : Qg κ δ 121 (rmN 1 31).cells (rmN 1 31).slots _ = Q
  show Zj κ δ ad rs Q 3 (121, 0, 0) 0 [some (.ref (ad 48)), some (iv t), none] [] M
  refine Z_sipush hk dX9_most_0 (by decide) ?_
  have J4 : ∀ (n : Nat) (x2_4 : Int) (m4 : Mem), ((-1 ≤ x2_4 ∧ x2_4 ≤ 1000) ∧ (∀ c : Nat, c ≠ 112 → m4 c = M c)) → (x2_4 + 1) < (n : Int) → Zj κ δ ad rs Q 3 (121, 0, 0) 4 [some (.ref (ad 48)), some (iv t), some (iv x2_4)] [] m4 := by
    intro n
    induction n with
    | zero => intro x2_4 m4 h4 hm4; exfalso; obtain ⟨h4, -⟩ := h4; omega
    | succ n ih4 =>
      intro x2_4 m4 h4 hm4
      obtain ⟨h4, f4_0⟩ := h4
      try simp only [f4_0, and_true, true_and, or_true, true_or, implies_true, upn, reduceIte, Nat.reduceEqDiff, ne_eq, not_false_eq_true, upc] at h4 hm4
      refine Z_iload2 hk dX9_most_4 ?_
      refine Z_if_lt hk (tgt := 50) dX9_most_5 (by decide) (by omega) (by omega) (fun h5 => ?_) (fun h5 => ?_)
      · refine Z_iconst hk dX9_most_50 ?_
        exact Z_iret hk hA hQ dX9_most_51 ⟨rfl, rfl, _, rfl, (by exact ⟨(by (try simp only [f4_0, and_true, true_and, or_true, true_or, implies_true, upn, reduceIte, Nat.reduceEqDiff, ne_eq, not_false_eq_true, upc]) <;> (omega)), (by intro c k0; simp only [f4_0, upc, upn, k0, reduceIte, Nat.reduceEqDiff, ne_eq, not_false_eq_true])⟩)⟩
      · refine Z_aload0 hk dX9_most_8 ?_
        refine Z_aload0 hk dX9_most_9 ?_
        refine Z_getR hk fl_9_152 dX9_most_10 ob_48.1 ob_48.2.1 ob_48.2.2.1 ob_48.2.2.2 ft_9_67 rs_48_67 ?_
        refine Z_iload1 hk dX9_most_13 ?_
        refine Z_zald hk dX9_most_14 ar_94.1 ar_94.2.1 ar_94.2.2 (by omega) (by omega) (fun v14 e14 a14 b14 => ?_)
        try simp only [f4_0, and_true, true_and, or_true, true_or, implies_true, upn, reduceIte, Nat.reduceEqDiff, ne_eq, not_false_eq_true, upc] at e14
        refine Z_iload2 hk dX9_most_15 ?_
        refine Z_aload0 hk dX9_most_16 ?_
        refine Z_Vi hk (c_X9_ofN κ.2.1 δ ad _ hA  (by (try simp only [f4_0, and_true, true_and, or_true, true_or, implies_true, upn, reduceIte, Nat.reduceEqDiff, ne_eq, not_false_eq_true, upc]) <;> (omega))) ov_X9_ofN ml_X9_520 dX9_most_17 rfl ⟨by decide, by decide⟩ ob_48.1 (by decide) (by decide) rfl (Nat.le_of_ble_eq_true rfl) (fun r17 m17 p17 => ?_)
        obtain ⟨rfl, p17⟩ := p17
        try simp only [f4_0, e14, and_true, true_and, or_true, true_or, implies_true, upn, reduceIte, Nat.reduceEqDiff, ne_eq, not_false_eq_true, upc] at p17
        refine Z_Vv hk (c_X9_tables κ.2.1 δ ad _ hA v14 x2_4 r17 (by (try simp only [f4_0, and_true, true_and, or_true, true_or, implies_true, upn, reduceIte, Nat.reduceEqDiff, ne_eq, not_false_eq_true, upc]) <;> (omega)) (by (try simp only [f4_0, and_true, true_and, or_true, true_or, implies_true, upn, reduceIte, Nat.reduceEqDiff, ne_eq, not_false_eq_true, upc]) <;> (omega))) ov_X9_tables ml_X9_560 dX9_most_20 rfl ⟨by decide, by decide⟩ ob_48.1 (by decide) (by decide) rfl (Nat.le_of_ble_eq_true rfl) (fun m20 p20 => ?_)
        obtain ⟨p20, f20_0⟩ := p20
        try simp only [f20_0, f4_0, e14, and_true, true_and, or_true, true_or, implies_true, upn, reduceIte, Nat.reduceEqDiff, ne_eq, not_false_eq_true, upc] at p20
        refine Z_aload0 hk dX9_most_23 ?_
        refine Z_iconst hk dX9_most_24 ?_
        refine Z_aload0 hk dX9_most_25 ?_
        refine Z_iload1 hk dX9_most_26 ?_
        refine Z_Vi hk (c_X9_ofK κ.2.1 δ ad _ hA t (by (try simp only [f20_0, f4_0, and_true, true_and, or_true, true_or, implies_true, upn, reduceIte, Nat.reduceEqDiff, ne_eq, not_false_eq_true, upc]) <;> (omega)) (by (try simp only [f20_0, f4_0, and_true, true_and, or_true, true_or, implies_true, upn, reduceIte, Nat.reduceEqDiff, ne_eq, not_false_eq_true, upc]) <;> (omega))) ov_X9_ofK ml_X9_523 dX9_most_27 rfl ⟨by decide, by decide⟩ ob_48.1 (by decide) (by decide) rfl (Nat.le_of_ble_eq_true rfl) (fun r27 m27 p27 => ?_)
        obtain ⟨rfl, p27⟩ := p27
        try simp only [f20_0, f4_0, e14, and_true, true_and, or_true, true_or, implies_true, upn, reduceIte, Nat.reduceEqDiff, ne_eq, not_false_eq_true, upc] at p27
        refine Z_Vj hk (c_X9_rowSum κ.2.1 δ ad _ hA 0 r27 (by (try simp only [f20_0, f4_0, and_true, true_and, or_true, true_or, implies_true, upn, reduceIte, Nat.reduceEqDiff, ne_eq, not_false_eq_true, upc]) <;> (omega)) (by (try simp only [f20_0, f4_0, and_true, true_and, or_true, true_or, implies_true, upn, reduceIte, Nat.reduceEqDiff, ne_eq, not_false_eq_true, upc]) <;> (omega))) ov_X9_rowSum ml_X9_564 dX9_most_30 rfl ⟨by decide, by decide⟩ ob_48.1 (by decide) (by decide) rfl (Nat.le_of_ble_eq_true rfl) (fun r30 m30 p30 => ?_)
        obtain ⟨rfl, p30⟩ := p30
        try simp only [f20_0, f4_0, e14, and_true, true_and, or_true, true_or, implies_true, upn, reduceIte, Nat.reduceEqDiff, ne_eq, not_false_eq_true, upc] at p30
        refine Z_bipush hk dX9_most_33 (by decide) ?_
        refine Z_Sj hk (c_X9_thousandths κ.2.1 δ ad _ hA 25 (by (try simp only [f20_0, f4_0, and_true, true_and, or_true, true_or, implies_true, upn, reduceIte, Nat.reduceEqDiff, ne_eq, not_false_eq_true, upc]) <;> (omega))) os_X9_thousandths ml_X9_567 dX9_most_35 rfl ⟨by decide, by decide⟩ rfl (Nat.le_of_ble_eq_true rfl) (fun r35 m35 p35 => ?_)
        obtain ⟨rfl, p35⟩ := p35
        try simp only [f20_0, f4_0, e14, and_true, true_and, or_true, true_or, implies_true, upn, reduceIte, Nat.reduceEqDiff, ne_eq, not_false_eq_true, upc] at p35
        refine Z_lcmp hk dX9_most_38 (by omega) (by omega) (by omega) (by omega) (fun v38 e38 => ?_)
        refine Z_if_lt hk (tgt := 44) dX9_most_39 (by decide) (by omega) (by omega) (fun h39 => ?_) (fun h39 => ?_)
        · refine Z_iinc2 hk rfl (by decide) dX9_most_44 ?_
          refine Z_goto hk (tgt := 4) dX9_most_47 (by decide) ?_
          exact ih4 _ _ (by exact ⟨(by (try simp only [f20_0, f4_0, and_true, true_and, or_true, true_or, implies_true, upn, reduceIte, Nat.reduceEqDiff, ne_eq, not_false_eq_true, upc]) <;> (omega)), (by intro c k0; simp only [f20_0, f4_0, upc, upn, k0, reduceIte, Nat.reduceEqDiff, ne_eq, not_false_eq_true])⟩) (by (try simp only [f20_0, f4_0, and_true, true_and, or_true, true_or, implies_true, upn, reduceIte, Nat.reduceEqDiff, ne_eq, not_false_eq_true, upc]) <;> (omega))
        · refine Z_iload2 hk dX9_most_42 ?_
          exact Z_iret hk hA hQ dX9_most_43 ⟨rfl, rfl, _, rfl, (by exact ⟨(by (try simp only [f20_0, f4_0, and_true, true_and, or_true, true_or, implies_true, upn, reduceIte, Nat.reduceEqDiff, ne_eq, not_false_eq_true, upc]) <;> (omega)), (by intro c k0; simp only [f20_0, f4_0, upc, upn, k0, reduceIte, Nat.reduceEqDiff, ne_eq, not_false_eq_true])⟩)⟩
  refine Z_istore2 hk rfl (by decide) dX9_most_3 ?_
  exact J4 (((1000 + 1) : Int).toNat + 1) _ _ (by exact ⟨(by (omega)), (by intro c k0; rfl)⟩) (by omega)
set_option maxRecDepth 10000 in
theorem c_X9_needed (l : Launch) (δ : Dp) (ad : Nat → Nat) (M : Mem) (hA : okA δ ad) (z : Int) (s : Int) (a : Int) (b : Int) (qz : z = 0 ∨ z = 1) (i_s : -2147483648 ≤ s ∧ s ≤ 2147483647) (i_a : -2147483648 ≤ a ∧ a ≤ 2147483647) (i_b : -2147483648 ≤ b ∧ b ≤ 2147483647) : Mi l δ yX9_needed cX9_needed 7 (some (.int)) 3 76 ad rs [.ref (ad 48), iv z, iv s, iv a, iv b] M (fun r M' => (-2147483648 ≤ r ∧ r ≤ 2147483647) ∧ (∀ c : Nat, c ≠ 112 → M' c = M c)) := by
  refine Mg.of (rm := rmN 3 76) (by decide) (Nat.le_of_ble_eq_true rfl) fun κ _ hk _ => ?_
  generalize hQ : Qg κ δ 121 (rmN 3 76).cells (rmN 3 76).slots _ = Q
  show Zj κ δ ad rs Q 7 (121, 0, 0) 0 [some (.ref (ad 48)), some (iv z), some (iv s), some (iv a), some (iv b), none, none] [] M
  refine Z_iload2 hk dX9_needed_0 ?_
  refine Z_i2l hk dX9_needed_1 (by omega) (by omega) ?_
  refine Z_lconst0 hk dX9_needed_2 ?_
  refine Z_ldc2_w hk (n := 1000) (mem_g (by decide +kernel)) dX9_needed_3 ?_
  refine Z_Si hk (c_X9_isIn κ.2.1 δ ad _ hA s 0 (1000) (by (omega)) (by (omega)) (by (omega))) os_X9_isIn ml_X9_285 dX9_needed_6 rfl ⟨by decide, by decide⟩ rfl (Nat.le_of_ble_eq_true rfl) (fun r6 m6 p6 => ?_)
  obtain ⟨rfl, p6⟩ := p6
  refine Z_if_eq hk (tgt := 37) dX9_needed_9 (by decide) (by omega) (by omega) (fun h9 => ?_) (fun h9 => ?_)
  · refine Z_iconst hk dX9_needed_37 ?_
    exact Z_iret hk hA hQ dX9_needed_38 ⟨rfl, rfl, _, rfl, (by exact ⟨(by (omega)), (by intro c k0; rfl)⟩)⟩
  · refine Z_iload3 hk dX9_needed_12 ?_
    refine Z_i2l hk dX9_needed_13 (by omega) (by omega) ?_
    refine Z_lconst0 hk dX9_needed_14 ?_
    refine Z_ldc2_w hk (n := 1000) (mem_g (by decide +kernel)) dX9_needed_15 ?_
    refine Z_Si hk (c_X9_isIn κ.2.1 δ ad _ hA a 0 (1000) (by (omega)) (by (omega)) (by (omega))) os_X9_isIn ml_X9_285 dX9_needed_18 rfl ⟨by decide, by decide⟩ rfl (Nat.le_of_ble_eq_true rfl) (fun r18 m18 p18 => ?_)
    obtain ⟨rfl, p18⟩ := p18
    refine Z_if_eq hk (tgt := 37) dX9_needed_21 (by decide) (by omega) (by omega) (fun h21 => ?_) (fun h21 => ?_)
    · refine Z_iconst hk dX9_needed_37 ?_
      exact Z_iret hk hA hQ dX9_needed_38 ⟨rfl, rfl, _, rfl, (by exact ⟨(by (omega)), (by intro c k0; rfl)⟩)⟩
    · refine Z_iload4 hk dX9_needed_24 ?_
      refine Z_i2l hk dX9_needed_26 (by omega) (by omega) ?_
      refine Z_lconst0 hk dX9_needed_27 ?_
      refine Z_ldc2_w hk (n := 1000) (mem_g (by decide +kernel)) dX9_needed_28 ?_
      refine Z_Si hk (c_X9_isIn κ.2.1 δ ad _ hA b 0 (1000) (by (omega)) (by (omega)) (by (omega))) os_X9_isIn ml_X9_285 dX9_needed_31 rfl ⟨by decide, by decide⟩ rfl (Nat.le_of_ble_eq_true rfl) (fun r31 m31 p31 => ?_)
      obtain ⟨rfl, p31⟩ := p31
      refine Z_if_ne hk (tgt := 39) dX9_needed_34 (by decide) (by omega) (by omega) (fun h34 => ?_) (fun h34 => ?_)
      · refine Z_iconst hk dX9_needed_39 ?_
        have J42 : ∀ (n : Nat) (x5_42 : Int) (m42 : Mem), ((1 ≤ x5_42 ∧ x5_42 ≤ 31) ∧ (∀ c : Nat, c ≠ 112 → m42 c = M c)) → (31 - x5_42) < (n : Int) → Zj κ δ ad rs Q 7 (121, 0, 0) 42 [some (.ref (ad 48)), some (iv z), some (iv s), some (iv a), some (iv b), some (iv x5_42), none] [] m42 := by
          intro n
          induction n with
          | zero => intro x5_42 m42 h42 hm42; exfalso; obtain ⟨h42, -⟩ := h42; omega
          | succ n ih42 =>
            intro x5_42 m42 h42 hm42
            obtain ⟨h42, f42_0⟩ := h42
            try simp only [f42_0, and_true, true_and, or_true, true_or, implies_true, upn, reduceIte, Nat.reduceEqDiff, ne_eq, not_false_eq_true, upc] at h42 hm42
            refine Z_iload5 hk dX9_needed_42 ?_
            refine Z_bipush hk dX9_needed_44 (by decide) ?_
            refine Z_icmp_gt hk (tgt := 119) dX9_needed_46 (by decide) (by omega) (by omega) (by decide) (by decide) (fun h46 => ?_) (fun h46 => ?_)
            · refine Z_iconst hk dX9_needed_119 ?_
              exact Z_iret hk hA hQ dX9_needed_120 ⟨rfl, rfl, _, rfl, (by exact ⟨(by (try simp only [f42_0, and_true, true_and, or_true, true_or, implies_true, upn, reduceIte, Nat.reduceEqDiff, ne_eq, not_false_eq_true, upc]) <;> (omega)), (by intro c k0; simp only [f42_0, upc, upn, k0, reduceIte, Nat.reduceEqDiff, ne_eq, not_false_eq_true])⟩)⟩
            · refine Z_aload0 hk dX9_needed_49 ?_
              refine Z_iload1 hk dX9_needed_50 ?_
              refine Z_iload2 hk dX9_needed_51 ?_
              refine Z_iload5 hk dX9_needed_52 ?_
              refine Z_Vv hk (c_X9_tables κ.2.1 δ ad _ hA z s x5_42 (by (try simp only [f42_0, and_true, true_and, or_true, true_or, implies_true, upn, reduceIte, Nat.reduceEqDiff, ne_eq, not_false_eq_true, upc]) <;> (omega)) (by (try simp only [f42_0, and_true, true_and, or_true, true_or, implies_true, upn, reduceIte, Nat.reduceEqDiff, ne_eq, not_false_eq_true, upc]) <;> (omega))) ov_X9_tables ml_X9_560 dX9_needed_54 rfl ⟨by decide, by decide⟩ ob_48.1 (by decide) (by decide) rfl (Nat.le_of_ble_eq_true rfl) (fun m54 p54 => ?_)
              obtain ⟨p54, f54_0⟩ := p54
              try simp only [f54_0, f42_0, and_true, true_and, or_true, true_or, implies_true, upn, reduceIte, Nat.reduceEqDiff, ne_eq, not_false_eq_true, upc] at p54
              refine Z_iconst hk dX9_needed_57 ?_
              have J60 : ∀ (n : Nat) (x6_60 : Int), (0 ≤ x6_60 ∧ x6_60 ≤ x5_42 + 1) → (x5_42 + 1 - x6_60) < (n : Int) → Zj κ δ ad rs Q 7 (121, 0, 0) 60 [some (.ref (ad 48)), some (iv z), some (iv s), some (iv a), some (iv b), some (iv x5_42), some (iv x6_60)] [] m54 := by
                intro n
                induction n with
                | zero => intro x6_60 h60 hm60; exfalso; (try simp only [f54_0, f42_0, and_true, true_and, or_true, true_or, implies_true, upn, reduceIte, Nat.reduceEqDiff, ne_eq, not_false_eq_true, upc] at h60 hm60); omega
                | succ n ih60 =>
                  intro x6_60 h60 hm60
                  try simp only [f54_0, f42_0, and_true, true_and, or_true, true_or, implies_true, upn, reduceIte, Nat.reduceEqDiff, ne_eq, not_false_eq_true, upc] at h60 hm60
                  refine Z_iload6 hk dX9_needed_60 ?_
                  refine Z_iload5 hk dX9_needed_62 ?_
                  refine Z_icmp_gt hk (tgt := 113) dX9_needed_64 (by decide) (by omega) (by omega) (by omega) (by omega) (fun h64 => ?_) (fun h64 => ?_)
                  · refine Z_iinc5 hk rfl (by decide) dX9_needed_113 ?_
                    refine Z_goto hk (tgt := 42) dX9_needed_116 (by decide) ?_
                    refine Z_drop6 ?_
                    exact ih42 _ _ (by exact ⟨(by (try simp only [f54_0, f42_0, and_true, true_and, or_true, true_or, implies_true, upn, reduceIte, Nat.reduceEqDiff, ne_eq, not_false_eq_true, upc]) <;> (omega)), (by intro c k0; simp only [f54_0, f42_0, upc, upn, k0, reduceIte, Nat.reduceEqDiff, ne_eq, not_false_eq_true])⟩) (by (try simp only [f54_0, f42_0, and_true, true_and, or_true, true_or, implies_true, upn, reduceIte, Nat.reduceEqDiff, ne_eq, not_false_eq_true, upc]) <;> (omega))
                  · refine Z_iload1 hk dX9_needed_67 ?_
                    refine Z_iload6 hk dX9_needed_68 ?_
                    refine Z_iload5 hk dX9_needed_70 ?_
                    refine Z_iload3 hk dX9_needed_72 ?_
                    refine Z_i2l hk dX9_needed_73 (by omega) (by omega) ?_
                    refine Z_ldc2_w hk (n := 1000) (mem_g (by decide +kernel)) dX9_needed_74 ?_
                    refine Z_Si hk (c_X9_isBelow κ.2.1 δ ad _ hA z x6_60 x5_42 a (1000) (by (try simp only [f54_0, f42_0, and_true, true_and, or_true, true_or, implies_true, upn, reduceIte, Nat.reduceEqDiff, ne_eq, not_false_eq_true, upc]) <;> (omega)) (by (try simp only [f54_0, f42_0, and_true, true_and, or_true, true_or, implies_true, upn, reduceIte, Nat.reduceEqDiff, ne_eq, not_false_eq_true, upc]) <;> (omega)) (by (try simp only [f54_0, f42_0, and_true, true_and, or_true, true_or, implies_true, upn, reduceIte, Nat.reduceEqDiff, ne_eq, not_false_eq_true, upc]) <;> (omega))) os_X9_isBelow ml_X9_526 dX9_needed_77 rfl ⟨by decide, by decide⟩ rfl (Nat.le_of_ble_eq_true rfl) (fun r77 m77 p77 => ?_)
                    obtain ⟨rfl, p77⟩ := p77
                    try simp only [f54_0, f42_0, and_true, true_and, or_true, true_or, implies_true, upn, reduceIte, Nat.reduceEqDiff, ne_eq, not_false_eq_true, upc] at p77
                    have J107 : ∀ (_ : Unit), (True) → Zj κ δ ad rs Q 7 (121, 0, 0) 107 [some (.ref (ad 48)), some (iv z), some (iv s), some (iv a), some (iv b), some (iv x5_42), some (iv x6_60)] [] m54 := by
                      intro _ h107
                      try simp only [f54_0, f42_0, and_true, true_and, or_true, true_or, implies_true, upn, reduceIte, Nat.reduceEqDiff, ne_eq, not_false_eq_true, upc] at h107
                      refine Z_iinc6 hk rfl (by decide) dX9_needed_107 ?_
                      refine Z_goto hk (tgt := 60) dX9_needed_110 (by decide) ?_
                      exact ih60 _ (by (try simp only [f54_0, f42_0, and_true, true_and, or_true, true_or, implies_true, upn, reduceIte, Nat.reduceEqDiff, ne_eq, not_false_eq_true, upc]) <;> (omega)) (by (try simp only [f54_0, f42_0, and_true, true_and, or_true, true_or, implies_true, upn, reduceIte, Nat.reduceEqDiff, ne_eq, not_false_eq_true, upc]) <;> (omega))
                    refine Z_if_eq hk (tgt := 107) dX9_needed_80 (by decide) (by omega) (by omega) (fun h80 => ?_) (fun h80 => ?_)
                    · exact J107 () (by trivial)
                    · refine Z_aload0 hk dX9_needed_83 ?_
                      refine Z_iload6 hk dX9_needed_84 ?_
                      refine Z_iload5 hk dX9_needed_86 ?_
                      refine Z_Vj hk (c_X9_rowSum κ.2.1 δ ad _ hA x6_60 x5_42 (by (try simp only [f54_0, f42_0, and_true, true_and, or_true, true_or, implies_true, upn, reduceIte, Nat.reduceEqDiff, ne_eq, not_false_eq_true, upc]) <;> (omega)) (by (try simp only [f54_0, f42_0, and_true, true_and, or_true, true_or, implies_true, upn, reduceIte, Nat.reduceEqDiff, ne_eq, not_false_eq_true, upc]) <;> (omega))) ov_X9_rowSum ml_X9_564 dX9_needed_88 rfl ⟨by decide, by decide⟩ ob_48.1 (by decide) (by decide) rfl (Nat.le_of_ble_eq_true rfl) (fun r88 m88 p88 => ?_)
                      obtain ⟨rfl, p88⟩ := p88
                      try simp only [f54_0, f42_0, and_true, true_and, or_true, true_or, implies_true, upn, reduceIte, Nat.reduceEqDiff, ne_eq, not_false_eq_true, upc] at p88
                      refine Z_sipush hk dX9_needed_91 (by decide) ?_
                      refine Z_iload4 hk dX9_needed_94 ?_
                      refine Z_isub hk dX9_needed_96 ?_
                      refine Z_Sj hk (c_X9_thousandths κ.2.1 δ ad _ hA (1000 - b) (by (try simp only [f54_0, f42_0, and_true, true_and, or_true, true_or, implies_true, upn, reduceIte, Nat.reduceEqDiff, ne_eq, not_false_eq_true, upc]) <;> (omega))) os_X9_thousandths ml_X9_567 dX9_needed_97 rfl ⟨by decide, by decide⟩ rfl (Nat.le_of_ble_eq_true rfl) (fun r97 m97 p97 => ?_)
                      obtain ⟨rfl, p97⟩ := p97
                      try simp only [f54_0, f42_0, and_true, true_and, or_true, true_or, implies_true, upn, reduceIte, Nat.reduceEqDiff, ne_eq, not_false_eq_true, upc] at p97
                      refine Z_lcmp hk dX9_needed_100 (by omega) (by omega) (by omega) (by omega) (fun v100 e100 => ?_)
                      refine Z_if_lt hk (tgt := 107) dX9_needed_101 (by decide) (by omega) (by omega) (fun h101 => ?_) (fun h101 => ?_)
                      · exact J107 () (by trivial)
                      · refine Z_iload5 hk dX9_needed_104 ?_
                        exact Z_iret hk hA hQ dX9_needed_106 ⟨rfl, rfl, _, rfl, (by exact ⟨(by (try simp only [f54_0, f42_0, and_true, true_and, or_true, true_or, implies_true, upn, reduceIte, Nat.reduceEqDiff, ne_eq, not_false_eq_true, upc]) <;> (omega)), (by intro c k0; simp only [f54_0, f42_0, upc, upn, k0, reduceIte, Nat.reduceEqDiff, ne_eq, not_false_eq_true])⟩)⟩
              refine Z_istore6 hk rfl (by decide) dX9_needed_58 ?_
              exact J60 (((x5_42 + 1 - 0) : Int).toNat + 1) _ (by (try simp only [f54_0, f42_0, and_true, true_and, or_true, true_or, implies_true, upn, reduceIte, Nat.reduceEqDiff, ne_eq, not_false_eq_true, upc]) <;> (omega)) (by omega)
        refine Z_istore5 hk rfl (by decide) dX9_needed_40 ?_
        exact J42 (((31 - 1) : Int).toNat + 1) _ _ (by exact ⟨(by (omega)), (by intro c k0; rfl)⟩) (by omega)
      · refine Z_iconst hk dX9_needed_37 ?_
        exact Z_iret hk hA hQ dX9_needed_38 ⟨rfl, rfl, _, rfl, (by exact ⟨(by (omega)), (by intro c k0; rfl)⟩)⟩
set_option maxRecDepth 10000 in
theorem c_X9_millionths (l : Launch) (δ : Dp) (ad : Nat → Nat) (M : Mem) (hA : okA δ ad) (t : Int) (q0 : 0 ≤ t ∧ t ≤ 3) (q1 : 0 ≤ (M 48 94) ∧ 0 ≤ (M 48 95) ∧ 0 ≤ (M 48 96) ∧ (M 48 94) + (M 48 95) + (M 48 96) ≤ 30) : Mi l δ yX9_millionths cX9_millionths 9 (some (.int)) 2 50 ad rs [.ref (ad 48), iv t] M (fun r M' => M = M' ∧ (-2147483648 ≤ r ∧ r ≤ 2147483647)) := by
  refine Mg.of (rm := rmN 2 50) (by decide) (Nat.le_of_ble_eq_true rfl) fun κ _ hk _ => ?_
  generalize hQ : Qg κ δ 121 (rmN 2 50).cells (rmN 2 50).slots _ = Q
  show Zj κ δ ad rs Q 9 (121, 0, 0) 0 [some (.ref (ad 48)), some (iv t), none, none, none, none, none, none, none] [] M
  refine Z_aload0 hk dX9_millionths_0 ?_
  refine Z_getR hk fl_9_152 dX9_millionths_1 ob_48.1 ob_48.2.1 ob_48.2.2.1 ob_48.2.2.2 ft_9_67 rs_48_67 ?_
  refine Z_iload1 hk dX9_millionths_4 ?_
  refine Z_zald hk dX9_millionths_5 ar_94.1 ar_94.2.1 ar_94.2.2 (by omega) (by omega) (fun v5 e5 a5 b5 => ?_)
  have J18 : ∀ (y0_18 : Int), (y0_18 = 2 ∨ y0_18 = 3) → Zj κ δ ad rs Q 9 (121, 0, 0) 18 [some (.ref (ad 48)), some (iv t), none, none, none, none, none, none, none] [jv y0_18] M := by
    intro y0_18 h18
    have w18 := fun k h => pw_in (b := y0_18) (k := k) h18 h
    refine Z_aload0 hk dX9_millionths_18 ?_
    refine Z_Vi hk (c_X9_ofN κ.2.1 δ ad _ hA  (by (omega))) ov_X9_ofN ml_X9_520 dX9_millionths_19 rfl ⟨by decide, by decide⟩ ob_48.1 (by decide) (by decide) rfl (Nat.le_of_ble_eq_true rfl) (fun r19 m19 p19 => ?_)
    obtain ⟨rfl, p19⟩ := p19
    refine Z_Sj hk (c_X9_power κ.2.1 δ ad _ hA y0_18 r19 (by (omega))) os_X9_power ml_X9_540 dX9_millionths_22 rfl ⟨by decide, by decide⟩ rfl (Nat.le_of_ble_eq_true rfl) (fun r22 m22 p22 => ?_)
    obtain ⟨rfl, p22⟩ := p22
    have w22 := w18 r19.toNat (by omega)
    rw [← p22] at w22
    refine Z_lstore2 hk rfl (by decide) dX9_millionths_25 ?_
    refine Z_aload0 hk dX9_millionths_26 ?_
    refine Z_getR hk fl_9_152 dX9_millionths_27 ob_48.1 ob_48.2.1 ob_48.2.2.1 ob_48.2.2.2 ft_9_67 rs_48_67 ?_
    refine Z_iload1 hk dX9_millionths_30 ?_
    refine Z_zald hk dX9_millionths_31 ar_94.1 ar_94.2.1 ar_94.2.2 (by omega) (by omega) (fun v31 e31 a31 b31 => ?_)
    try simp only [e5, and_true, true_and, or_true, true_or, implies_true, upn, reduceIte, Nat.reduceEqDiff, ne_eq, not_false_eq_true, upc] at e31
    refine Z_aload0 hk dX9_millionths_32 ?_
    refine Z_iload1 hk dX9_millionths_33 ?_
    refine Z_Vi hk (c_X9_ofK κ.2.1 δ ad _ hA t (by (omega)) (by (omega))) ov_X9_ofK ml_X9_523 dX9_millionths_34 rfl ⟨by decide, by decide⟩ ob_48.1 (by decide) (by decide) rfl (Nat.le_of_ble_eq_true rfl) (fun r34 m34 p34 => ?_)
    obtain ⟨rfl, p34⟩ := p34
    refine Z_aload0 hk dX9_millionths_37 ?_
    refine Z_Vi hk (c_X9_ofN κ.2.1 δ ad _ hA  (by (omega))) ov_X9_ofN ml_X9_520 dX9_millionths_38 rfl ⟨by decide, by decide⟩ ob_48.1 (by decide) (by decide) rfl (Nat.le_of_ble_eq_true rfl) (fun r38 m38 p38 => ?_)
    obtain ⟨rfl, p38⟩ := p38
    refine Z_Sj hk (c_X9_guessed κ.2.1 δ ad _ hA v31 r34 r38 (by (omega)) (by (omega))) os_X9_guessed ml_X9_544 dX9_millionths_41 rfl ⟨by decide, by decide⟩ rfl (Nat.le_of_ble_eq_true rfl) (fun r41 m41 p41 => ?_)
    obtain ⟨rfl, p41⟩ := p41
    have g41 := gs_le (z := v31) (by omega) (n := r38.toNat) (m := (r38 - r34 + 1).toNat) (by omega) (by omega)
    refine Z_lstore4 hk rfl (by decide) dX9_millionths_44 ?_
    refine Z_lload4 hk dX9_millionths_46 ?_
    refine Z_lload2 hk dX9_millionths_48 ?_
    refine Z_ldiv hk dX9_millionths_49 (by omega) (by omega) (by omega) (by omega) (by omega) ?_
    refine Z_wJ (fun w49 a49w b49w g49w => ?_)
    refine Z_lstore6 hk rfl (by decide) dX9_millionths_50 ?_
    refine Z_lload4 hk dX9_millionths_52 ?_
    refine Z_lload2 hk dX9_millionths_54 ?_
    refine Z_lrem hk dX9_millionths_55 (by omega) (by omega) (by omega) (by omega) (by omega) ?_
    refine Z_wJ (fun w55 a55w b55w g55w => ?_)
    refine Z_lstore4 hk rfl (by decide) dX9_millionths_56 ?_
    refine Z_iconst hk dX9_millionths_58 ?_
    have J61 : ∀ (n : Nat) (x4_61 : Int) (x6_61 : Int) (x8_61 : Int), (0 ≤ x8_61 ∧ x8_61 ≤ 6 ∧ -9223372036854775808 ≤ x4_61 ∧ x4_61 ≤ 9223372036854775807 ∧ -9223372036854775808 ≤ x6_61 ∧ x6_61 ≤ 9223372036854775807) → (6 - x8_61) < (n : Int) → Zj κ δ ad rs Q 9 (121, 0, 0) 61 [some (.ref (ad 48)), some (iv t), some (jv r22), none, some (jv x4_61), none, some (jv x6_61), none, some (iv x8_61)] [] M := by
      intro n
      induction n with
      | zero => intro x4_61 x6_61 x8_61 h61 hm61; exfalso; omega
      | succ n ih61 =>
        intro x4_61 x6_61 x8_61 h61 hm61
        refine Z_iload8 hk dX9_millionths_61 ?_
        refine Z_bipush hk dX9_millionths_63 (by decide) ?_
        refine Z_icmp_ge hk (tgt := 101) dX9_millionths_65 (by decide) (by omega) (by omega) (by decide) (by decide) (fun h65 => ?_) (fun h65 => ?_)
        · refine Z_lload4 hk dX9_millionths_101 ?_
          refine Z_lconst0 hk dX9_millionths_103 ?_
          refine Z_lcmp hk dX9_millionths_104 (by omega) (by omega) (by decide) (by decide) (fun v104 e104 => ?_)
          refine Z_if_le hk (tgt := 115) dX9_millionths_105 (by decide) (by omega) (by omega) (fun h105 => ?_) (fun h105 => ?_)
          · refine Z_lload6 hk dX9_millionths_115 ?_
            refine Z_l2i hk dX9_millionths_117 ?_
            refine Z_wI (fun w117 a117w b117w g117w => ?_)
            exact Z_iret hk hA hQ dX9_millionths_118 ⟨rfl, rfl, _, rfl, (by exact ⟨rfl, (by omega)⟩)⟩
          · refine Z_lload6 hk dX9_millionths_108 ?_
            refine Z_lconst1 hk dX9_millionths_110 ?_
            refine Z_ladd hk dX9_millionths_111 ?_
            refine Z_wJ (fun w111 a111w b111w g111w => ?_)
            refine Z_goto hk (tgt := 117) dX9_millionths_112 (by decide) ?_
            refine Z_l2i hk dX9_millionths_117 ?_
            refine Z_wI (fun w117 a117w b117w g117w => ?_)
            exact Z_iret hk hA hQ dX9_millionths_118 ⟨rfl, rfl, _, rfl, (by exact ⟨rfl, (by omega)⟩)⟩
        · refine Z_lload4 hk dX9_millionths_68 ?_
          refine Z_ldc2_w hk (n := 10) (mem_g (by decide +kernel)) dX9_millionths_70 ?_
          refine Z_lmul hk dX9_millionths_73 ?_
          refine Z_wJ (fun w73 a73w b73w g73w => ?_)
          refine Z_lstore4 hk rfl (by decide) dX9_millionths_74 ?_
          refine Z_ldc2_w hk (n := 10) (mem_g (by decide +kernel)) dX9_millionths_76 ?_
          refine Z_lload6 hk dX9_millionths_79 ?_
          refine Z_lmul hk dX9_millionths_81 ?_
          refine Z_wJ (fun w81 a81w b81w g81w => ?_)
          refine Z_lload4 hk dX9_millionths_82 ?_
          refine Z_lload2 hk dX9_millionths_84 ?_
          refine Z_ldiv hk dX9_millionths_85 (by omega) (by omega) (by omega) (by omega) (by omega) ?_
          refine Z_wJ (fun w85 a85w b85w g85w => ?_)
          refine Z_ladd hk dX9_millionths_86 ?_
          refine Z_wJ (fun w86 a86w b86w g86w => ?_)
          refine Z_lstore6 hk rfl (by decide) dX9_millionths_87 ?_
          refine Z_lload4 hk dX9_millionths_89 ?_
          refine Z_lload2 hk dX9_millionths_91 ?_
          refine Z_lrem hk dX9_millionths_92 (by omega) (by omega) (by omega) (by omega) (by omega) ?_
          refine Z_wJ (fun w92 a92w b92w g92w => ?_)
          refine Z_lstore4 hk rfl (by decide) dX9_millionths_93 ?_
          refine Z_iinc8 hk rfl (by decide) dX9_millionths_95 ?_
          refine Z_goto hk (tgt := 61) dX9_millionths_98 (by decide) ?_
          exact ih61 _ _ _ (by omega) (by (omega))
    refine Z_istore8 hk rfl (by decide) dX9_millionths_59 ?_
    exact J61 (((6 - 0) : Int).toNat + 1) _ _ _ (by omega) (by omega)
  refine Z_if_eq hk (tgt := 15) dX9_millionths_6 (by decide) (by omega) (by omega) (fun h6 => ?_) (fun h6 => ?_)
  · refine Z_ldc2_w hk (n := 2) (mem_g (by decide +kernel)) dX9_millionths_15 ?_
    exact J18 _ (by omega)
  · refine Z_ldc2_w hk (n := 3) (mem_g (by decide +kernel)) dX9_millionths_9 ?_
    refine Z_goto hk (tgt := 18) dX9_millionths_12 (by decide) ?_
    exact J18 _ (by omega)
set_option maxRecDepth 10000 in
theorem c_X9_told (l : Launch) (δ : Dp) (ad : Nat → Nat) (M : Mem) (hA : okA δ ad) (t : Int) (w : Int) (q0 : 0 ≤ t ∧ t ≤ 3) (q1 : 0 ≤ (M 48 84) ∧ (M 48 84) ≤ 250) (q2 : AC (M 48 84) (M 104) (M 105) (M 106) (M 107) (M 108)) (q3 : LK (M 97)) (q4 : KB (M 99)) (q5 : KB (M 100)) (i_w : -2147483648 ≤ w ∧ w ≤ 2147483647) : Mi l δ yX9_told cX9_told 3 (some (.int)) 4 101 ad rs [.ref (ad 48), iv t, iv w] M (fun r M' => (-2147483648 ≤ r ∧ r ≤ 2147483647) ∧ (∀ c : Nat, c ≠ 110 → c ≠ 111 → c ≠ 112 → c ≠ 48 → M' c = M c) ∧ (∀ i : Nat, i ≠ 94 → i ≠ 95 → i ≠ 96 → i ≠ 97 → i ≠ 98 → M' 48 i = M 48 i)) := by
  refine Mg.of (rm := rmN 4 101) (by decide) (Nat.le_of_ble_eq_true rfl) fun κ _ hk _ => ?_
  generalize hQ : Qg κ δ 121 (rmN 4 101).cells (rmN 4 101).slots _ = Q
  show Zj κ δ ad rs Q 3 (121, 0, 0) 0 [some (.ref (ad 48)), some (iv t), some (iv w)] [] M
  refine Z_aload0 hk dX9_told_0 ?_
  refine Z_iload1 hk dX9_told_1 ?_
  refine Z_iconst hk dX9_told_2 ?_
  refine Z_Vv hk (c_X9_counts κ.2.1 δ ad _ hA t 1 (by (omega)) (by (omega)) (by (exact q2)) (by (exact q3)) (by (exact q4)) (by (exact q5)) (by (omega))) ov_X9_counts ml_X9_530 dX9_told_3 rfl ⟨by decide, by decide⟩ ob_48.1 (by decide) (by decide) rfl (Nat.le_of_ble_eq_true rfl) (fun m3 p3 => ?_)
  obtain ⟨p3, f3_0, f3_1⟩ := p3
  try simp only [f3_0, f3_1, and_true, true_and, or_true, true_or, implies_true, upn, reduceIte, Nat.reduceEqDiff, ne_eq, not_false_eq_true, upc] at p3
  refine Z_iload2 hk dX9_told_6 ?_
  rcases (show (w < 0 ∨ 9 < w) ∨ w = 0 ∨ w = 1 ∨ w = 2 ∨ w = 3 ∨ w = 4 ∨ w = 5 ∨ w = 6 ∨ w = 7 ∨ w = 8 ∨ w = 9 from by omega) with h7 | h7 | h7 | h7 | h7 | h7 | h7 | h7 | h7 | h7 | h7
  · refine Z_tableOut hk dX9_told_7 (tgt := 114) (by decide) (by omega) (by omega) h7 ?_
    refine Z_iconst hk dX9_told_114 ?_
    exact Z_iret hk hA hQ dX9_told_115 ⟨rfl, rfl, _, rfl, (by exact ⟨(by (try simp only [f3_0, f3_1, and_true, true_and, or_true, true_or, implies_true, upn, reduceIte, Nat.reduceEqDiff, ne_eq, not_false_eq_true, upc]) <;> (omega)), (by intro c k0 k1 k2 k3; simp only [f3_0, f3_1, upc, upn, k0, k1, k2, k3, reduceIte, Nat.reduceEqDiff, ne_eq, not_false_eq_true]), (by intro i k0 k1 k2 k3 k4; simp only [f3_0, f3_1, upc, upn, k0, k1, k2, k3, k4, reduceIte, Nat.reduceEqDiff, ne_eq, not_false_eq_true])⟩)⟩
  · refine Z_tableIn hk dX9_told_7 h7 (by decide) (by decide) (by decide) (by decide) (off := 53) rfl (tgt := 60) (by decide) ?_
    refine Z_aload0 hk dX9_told_60 ?_
    refine Z_getI hk fl_9_502 dX9_told_61 ob_48.1 ob_48.2.1 ob_48.2.2.1 ob_48.2.2.2 ft_9_94 (fun v61 e61 a61 b61 => ?_)
    try simp only [f3_0, f3_1, and_true, true_and, or_true, true_or, implies_true, upn, reduceIte, Nat.reduceEqDiff, ne_eq, not_false_eq_true, upc] at e61
    exact Z_iret hk hA hQ dX9_told_64 ⟨rfl, rfl, _, rfl, (by exact ⟨(by (try simp only [f3_0, f3_1, and_true, true_and, or_true, true_or, implies_true, upn, reduceIte, Nat.reduceEqDiff, ne_eq, not_false_eq_true, upc]) <;> (omega)), (by intro c k0 k1 k2 k3; simp only [f3_0, f3_1, upc, upn, k0, k1, k2, k3, reduceIte, Nat.reduceEqDiff, ne_eq, not_false_eq_true]), (by intro i k0 k1 k2 k3 k4; simp only [f3_0, f3_1, upc, upn, k0, k1, k2, k3, k4, reduceIte, Nat.reduceEqDiff, ne_eq, not_false_eq_true])⟩)⟩
  · refine Z_tableIn hk dX9_told_7 h7 (by decide) (by decide) (by decide) (by decide) (off := 58) rfl (tgt := 65) (by decide) ?_
    refine Z_aload0 hk dX9_told_65 ?_
    refine Z_getI hk fl_9_505 dX9_told_66 ob_48.1 ob_48.2.1 ob_48.2.2.1 ob_48.2.2.2 ft_9_95 (fun v66 e66 a66 b66 => ?_)
    try simp only [f3_0, f3_1, and_true, true_and, or_true, true_or, implies_true, upn, reduceIte, Nat.reduceEqDiff, ne_eq, not_false_eq_true, upc] at e66
    exact Z_iret hk hA hQ dX9_told_69 ⟨rfl, rfl, _, rfl, (by exact ⟨(by (try simp only [f3_0, f3_1, and_true, true_and, or_true, true_or, implies_true, upn, reduceIte, Nat.reduceEqDiff, ne_eq, not_false_eq_true, upc]) <;> (omega)), (by intro c k0 k1 k2 k3; simp only [f3_0, f3_1, upc, upn, k0, k1, k2, k3, reduceIte, Nat.reduceEqDiff, ne_eq, not_false_eq_true]), (by intro i k0 k1 k2 k3 k4; simp only [f3_0, f3_1, upc, upn, k0, k1, k2, k3, k4, reduceIte, Nat.reduceEqDiff, ne_eq, not_false_eq_true])⟩)⟩
  · refine Z_tableIn hk dX9_told_7 h7 (by decide) (by decide) (by decide) (by decide) (off := 63) rfl (tgt := 70) (by decide) ?_
    refine Z_aload0 hk dX9_told_70 ?_
    refine Z_getI hk fl_9_508 dX9_told_71 ob_48.1 ob_48.2.1 ob_48.2.2.1 ob_48.2.2.2 ft_9_96 (fun v71 e71 a71 b71 => ?_)
    try simp only [f3_0, f3_1, and_true, true_and, or_true, true_or, implies_true, upn, reduceIte, Nat.reduceEqDiff, ne_eq, not_false_eq_true, upc] at e71
    exact Z_iret hk hA hQ dX9_told_74 ⟨rfl, rfl, _, rfl, (by exact ⟨(by (try simp only [f3_0, f3_1, and_true, true_and, or_true, true_or, implies_true, upn, reduceIte, Nat.reduceEqDiff, ne_eq, not_false_eq_true, upc]) <;> (omega)), (by intro c k0 k1 k2 k3; simp only [f3_0, f3_1, upc, upn, k0, k1, k2, k3, reduceIte, Nat.reduceEqDiff, ne_eq, not_false_eq_true]), (by intro i k0 k1 k2 k3 k4; simp only [f3_0, f3_1, upc, upn, k0, k1, k2, k3, k4, reduceIte, Nat.reduceEqDiff, ne_eq, not_false_eq_true])⟩)⟩
  · refine Z_tableIn hk dX9_told_7 h7 (by decide) (by decide) (by decide) (by decide) (off := 68) rfl (tgt := 75) (by decide) ?_
    refine Z_aload0 hk dX9_told_75 ?_
    refine Z_Vi hk (c_X9_ofN κ.2.1 δ ad _ hA  (by (try simp only [f3_0, f3_1, and_true, true_and, or_true, true_or, implies_true, upn, reduceIte, Nat.reduceEqDiff, ne_eq, not_false_eq_true, upc]) <;> (omega))) ov_X9_ofN ml_X9_520 dX9_told_76 rfl ⟨by decide, by decide⟩ ob_48.1 (by decide) (by decide) rfl (Nat.le_of_ble_eq_true rfl) (fun r76 m76 p76 => ?_)
    obtain ⟨rfl, p76⟩ := p76
    try simp only [f3_0, f3_1, and_true, true_and, or_true, true_or, implies_true, upn, reduceIte, Nat.reduceEqDiff, ne_eq, not_false_eq_true, upc] at p76
    exact Z_iret hk hA hQ dX9_told_79 ⟨rfl, rfl, _, rfl, (by exact ⟨(by (try simp only [f3_0, f3_1, and_true, true_and, or_true, true_or, implies_true, upn, reduceIte, Nat.reduceEqDiff, ne_eq, not_false_eq_true, upc]) <;> (omega)), (by intro c k0 k1 k2 k3; simp only [f3_0, f3_1, upc, upn, k0, k1, k2, k3, reduceIte, Nat.reduceEqDiff, ne_eq, not_false_eq_true]), (by intro i k0 k1 k2 k3 k4; simp only [f3_0, f3_1, upc, upn, k0, k1, k2, k3, k4, reduceIte, Nat.reduceEqDiff, ne_eq, not_false_eq_true])⟩)⟩
  · refine Z_tableIn hk dX9_told_7 h7 (by decide) (by decide) (by decide) (by decide) (off := 73) rfl (tgt := 80) (by decide) ?_
    refine Z_aload0 hk dX9_told_80 ?_
    refine Z_iload1 hk dX9_told_81 ?_
    refine Z_Vi hk (c_X9_ofK κ.2.1 δ ad _ hA t (by (try simp only [f3_0, f3_1, and_true, true_and, or_true, true_or, implies_true, upn, reduceIte, Nat.reduceEqDiff, ne_eq, not_false_eq_true, upc]) <;> (omega)) (by (try simp only [f3_0, f3_1, and_true, true_and, or_true, true_or, implies_true, upn, reduceIte, Nat.reduceEqDiff, ne_eq, not_false_eq_true, upc]) <;> (omega))) ov_X9_ofK ml_X9_523 dX9_told_82 rfl ⟨by decide, by decide⟩ ob_48.1 (by decide) (by decide) rfl (Nat.le_of_ble_eq_true rfl) (fun r82 m82 p82 => ?_)
    obtain ⟨rfl, p82⟩ := p82
    try simp only [f3_0, f3_1, and_true, true_and, or_true, true_or, implies_true, upn, reduceIte, Nat.reduceEqDiff, ne_eq, not_false_eq_true, upc] at p82
    exact Z_iret hk hA hQ dX9_told_85 ⟨rfl, rfl, _, rfl, (by exact ⟨(by (try simp only [f3_0, f3_1, and_true, true_and, or_true, true_or, implies_true, upn, reduceIte, Nat.reduceEqDiff, ne_eq, not_false_eq_true, upc]) <;> (omega)), (by intro c k0 k1 k2 k3; simp only [f3_0, f3_1, upc, upn, k0, k1, k2, k3, reduceIte, Nat.reduceEqDiff, ne_eq, not_false_eq_true]), (by intro i k0 k1 k2 k3 k4; simp only [f3_0, f3_1, upc, upn, k0, k1, k2, k3, k4, reduceIte, Nat.reduceEqDiff, ne_eq, not_false_eq_true])⟩)⟩
  · refine Z_tableIn hk dX9_told_7 h7 (by decide) (by decide) (by decide) (by decide) (off := 79) rfl (tgt := 86) (by decide) ?_
    refine Z_aload0 hk dX9_told_86 ?_
    refine Z_getI hk fl_9_511 dX9_told_87 ob_48.1 ob_48.2.1 ob_48.2.2.1 ob_48.2.2.2 ft_9_97 (fun v87 e87 a87 b87 => ?_)
    try simp only [f3_0, f3_1, and_true, true_and, or_true, true_or, implies_true, upn, reduceIte, Nat.reduceEqDiff, ne_eq, not_false_eq_true, upc] at e87
    exact Z_iret hk hA hQ dX9_told_90 ⟨rfl, rfl, _, rfl, (by exact ⟨(by (try simp only [f3_0, f3_1, and_true, true_and, or_true, true_or, implies_true, upn, reduceIte, Nat.reduceEqDiff, ne_eq, not_false_eq_true, upc]) <;> (omega)), (by intro c k0 k1 k2 k3; simp only [f3_0, f3_1, upc, upn, k0, k1, k2, k3, reduceIte, Nat.reduceEqDiff, ne_eq, not_false_eq_true]), (by intro i k0 k1 k2 k3 k4; simp only [f3_0, f3_1, upc, upn, k0, k1, k2, k3, k4, reduceIte, Nat.reduceEqDiff, ne_eq, not_false_eq_true])⟩)⟩
  · refine Z_tableIn hk dX9_told_7 h7 (by decide) (by decide) (by decide) (by decide) (off := 84) rfl (tgt := 91) (by decide) ?_
    refine Z_aload0 hk dX9_told_91 ?_
    refine Z_getI hk fl_9_514 dX9_told_92 ob_48.1 ob_48.2.1 ob_48.2.2.1 ob_48.2.2.2 ft_9_98 (fun v92 e92 a92 b92 => ?_)
    try simp only [f3_0, f3_1, and_true, true_and, or_true, true_or, implies_true, upn, reduceIte, Nat.reduceEqDiff, ne_eq, not_false_eq_true, upc] at e92
    exact Z_iret hk hA hQ dX9_told_95 ⟨rfl, rfl, _, rfl, (by exact ⟨(by (try simp only [f3_0, f3_1, and_true, true_and, or_true, true_or, implies_true, upn, reduceIte, Nat.reduceEqDiff, ne_eq, not_false_eq_true, upc]) <;> (omega)), (by intro c k0 k1 k2 k3; simp only [f3_0, f3_1, upc, upn, k0, k1, k2, k3, reduceIte, Nat.reduceEqDiff, ne_eq, not_false_eq_true]), (by intro i k0 k1 k2 k3 k4; simp only [f3_0, f3_1, upc, upn, k0, k1, k2, k3, k4, reduceIte, Nat.reduceEqDiff, ne_eq, not_false_eq_true])⟩)⟩
  · refine Z_tableIn hk dX9_told_7 h7 (by decide) (by decide) (by decide) (by decide) (off := 89) rfl (tgt := 96) (by decide) ?_
    refine Z_aload0 hk dX9_told_96 ?_
    refine Z_iload1 hk dX9_told_97 ?_
    refine Z_Vi hk (c_X9_least κ.2.1 δ ad _ hA t (by (try simp only [f3_0, f3_1, and_true, true_and, or_true, true_or, implies_true, upn, reduceIte, Nat.reduceEqDiff, ne_eq, not_false_eq_true, upc]) <;> (omega)) (by (try simp only [f3_0, f3_1, and_true, true_and, or_true, true_or, implies_true, upn, reduceIte, Nat.reduceEqDiff, ne_eq, not_false_eq_true, upc]) <;> (omega))) ov_X9_least ml_X9_573 dX9_told_98 rfl ⟨by decide, by decide⟩ ob_48.1 (by decide) (by decide) rfl (Nat.le_of_ble_eq_true rfl) (fun r98 m98 p98 => ?_)
    obtain ⟨p98, f98_0⟩ := p98
    try simp only [f98_0, f3_0, f3_1, and_true, true_and, or_true, true_or, implies_true, upn, reduceIte, Nat.reduceEqDiff, ne_eq, not_false_eq_true, upc] at p98
    exact Z_iret hk hA hQ dX9_told_101 ⟨rfl, rfl, _, rfl, (by exact ⟨(by (try simp only [f98_0, f3_0, f3_1, and_true, true_and, or_true, true_or, implies_true, upn, reduceIte, Nat.reduceEqDiff, ne_eq, not_false_eq_true, upc]) <;> (omega)), (by intro c k0 k1 k2 k3; simp only [f98_0, f3_0, f3_1, upc, upn, k0, k1, k2, k3, reduceIte, Nat.reduceEqDiff, ne_eq, not_false_eq_true]), (by intro i k0 k1 k2 k3 k4; simp only [f98_0, f3_0, f3_1, upc, upn, k0, k1, k2, k3, k4, reduceIte, Nat.reduceEqDiff, ne_eq, not_false_eq_true])⟩)⟩
  · refine Z_tableIn hk dX9_told_7 h7 (by decide) (by decide) (by decide) (by decide) (off := 95) rfl (tgt := 102) (by decide) ?_
    refine Z_aload0 hk dX9_told_102 ?_
    refine Z_iload1 hk dX9_told_103 ?_
    refine Z_Vi hk (c_X9_most κ.2.1 δ ad _ hA t (by (try simp only [f3_0, f3_1, and_true, true_and, or_true, true_or, implies_true, upn, reduceIte, Nat.reduceEqDiff, ne_eq, not_false_eq_true, upc]) <;> (omega)) (by (try simp only [f3_0, f3_1, and_true, true_and, or_true, true_or, implies_true, upn, reduceIte, Nat.reduceEqDiff, ne_eq, not_false_eq_true, upc]) <;> (omega))) ov_X9_most ml_X9_576 dX9_told_104 rfl ⟨by decide, by decide⟩ ob_48.1 (by decide) (by decide) rfl (Nat.le_of_ble_eq_true rfl) (fun r104 m104 p104 => ?_)
    obtain ⟨p104, f104_0⟩ := p104
    try simp only [f104_0, f3_0, f3_1, and_true, true_and, or_true, true_or, implies_true, upn, reduceIte, Nat.reduceEqDiff, ne_eq, not_false_eq_true, upc] at p104
    exact Z_iret hk hA hQ dX9_told_107 ⟨rfl, rfl, _, rfl, (by exact ⟨(by (try simp only [f104_0, f3_0, f3_1, and_true, true_and, or_true, true_or, implies_true, upn, reduceIte, Nat.reduceEqDiff, ne_eq, not_false_eq_true, upc]) <;> (omega)), (by intro c k0 k1 k2 k3; simp only [f104_0, f3_0, f3_1, upc, upn, k0, k1, k2, k3, reduceIte, Nat.reduceEqDiff, ne_eq, not_false_eq_true]), (by intro i k0 k1 k2 k3 k4; simp only [f104_0, f3_0, f3_1, upc, upn, k0, k1, k2, k3, k4, reduceIte, Nat.reduceEqDiff, ne_eq, not_false_eq_true])⟩)⟩
  · refine Z_tableIn hk dX9_told_7 h7 (by decide) (by decide) (by decide) (by decide) (off := 101) rfl (tgt := 108) (by decide) ?_
    refine Z_aload0 hk dX9_told_108 ?_
    refine Z_iload1 hk dX9_told_109 ?_
    refine Z_Vi hk (c_X9_millionths κ.2.1 δ ad _ hA t (by (try simp only [f3_0, f3_1, and_true, true_and, or_true, true_or, implies_true, upn, reduceIte, Nat.reduceEqDiff, ne_eq, not_false_eq_true, upc]) <;> (omega)) (by (try simp only [f3_0, f3_1, and_true, true_and, or_true, true_or, implies_true, upn, reduceIte, Nat.reduceEqDiff, ne_eq, not_false_eq_true, upc]) <;> (omega))) ov_X9_millionths ml_X9_579 dX9_told_110 rfl ⟨by decide, by decide⟩ ob_48.1 (by decide) (by decide) rfl (Nat.le_of_ble_eq_true rfl) (fun r110 m110 p110 => ?_)
    obtain ⟨rfl, p110⟩ := p110
    try simp only [f3_0, f3_1, and_true, true_and, or_true, true_or, implies_true, upn, reduceIte, Nat.reduceEqDiff, ne_eq, not_false_eq_true, upc] at p110
    exact Z_iret hk hA hQ dX9_told_113 ⟨rfl, rfl, _, rfl, (by exact ⟨(by (try simp only [f3_0, f3_1, and_true, true_and, or_true, true_or, implies_true, upn, reduceIte, Nat.reduceEqDiff, ne_eq, not_false_eq_true, upc]) <;> (omega)), (by intro c k0 k1 k2 k3; simp only [f3_0, f3_1, upc, upn, k0, k1, k2, k3, reduceIte, Nat.reduceEqDiff, ne_eq, not_false_eq_true]), (by intro i k0 k1 k2 k3 k4; simp only [f3_0, f3_1, upc, upn, k0, k1, k2, k3, k4, reduceIte, Nat.reduceEqDiff, ne_eq, not_false_eq_true])⟩)⟩
set_option maxRecDepth 10000 in
theorem c_X9_trial (l : Launch) (δ : Dp) (ad : Nat → Nat) (M : Mem) (hA : okA δ ad) (t : Int) (w : Int) (q0 : 0 ≤ (M 48 65) ∧ (M 48 65) ≤ 6 ∧ 0 ≤ (M 48 66) ∧ (M 48 66) ≤ 4 ∧ -1 ≤ (M 48 76) ∧ (M 48 76) ≤ 5 ∧ 0 ≤ (M 48 77) ∧ (M 48 77) ≤ 8 ∧ 0 ≤ (M 48 84) ∧ (M 48 84) ≤ 250 ∧ -1 ≤ (M 48 91) ∧ (M 48 91) ≤ (M 48 84)) (q2 : AC (M 48 84) (M 104) (M 105) (M 106) (M 107) (M 108)) (q3 : LK (M 97)) (q4 : KB (M 99)) (q5 : KB (M 100)) (i_t : -2147483648 ≤ t ∧ t ≤ 2147483647) (i_w : -2147483648 ≤ w ∧ w ≤ 2147483647) : Mi l δ yX9_trial cX9_trial 3 (some (.int)) 5 123 ad rs [.ref (ad 48), iv t, iv w] M (fun r M' => (True) ∧ (∀ c : Nat, c ≠ 110 → c ≠ 111 → c ≠ 112 → c ≠ 48 → M' c = M c) ∧ (∀ i : Nat, i ≠ 94 → i ≠ 95 → i ≠ 96 → i ≠ 97 → i ≠ 98 → M' 48 i = M 48 i)) := by
  refine Mg.of (rm := rmN 5 123) (by decide) (Nat.le_of_ble_eq_true rfl) fun κ _ hk _ => ?_
  generalize hQ : Qg κ δ 121 (rmN 5 123).cells (rmN 5 123).slots _ = Q
  show Zj κ δ ad rs Q 3 (121, 0, 0) 0 [some (.ref (ad 48)), some (iv t), some (iv w)] [] M
  refine Z_aload0 hk dX9_trial_0 ?_
  refine Z_iload1 hk dX9_trial_1 ?_
  refine Z_Vi hk (c_X9_isTrial κ.2.1 δ ad _ hA t (by (omega)) (by (omega))) ov_X9_isTrial ml_X9_470 dX9_trial_2 rfl ⟨by decide, by decide⟩ ob_48.1 (by decide) (by decide) rfl (Nat.le_of_ble_eq_true rfl) (fun r2 m2 p2 => ?_)
  obtain ⟨rfl, p2⟩ := p2
  refine Z_if_eq hk (tgt := 24) dX9_trial_5 (by decide) (by omega) (by omega) (fun h5 => ?_) (fun h5 => ?_)
  · refine Z_iconst hk dX9_trial_24 ?_
    exact Z_iret hk hA hQ dX9_trial_25 ⟨rfl, rfl, _, rfl, (by exact ⟨(by (trivial)), (by intro c k0 k1 k2 k3; rfl), (by intro i k0 k1 k2 k3 k4; rfl)⟩)⟩
  · refine Z_aload0 hk dX9_trial_8 ?_
    refine Z_getZ hk fl_9_448 dX9_trial_9 ob_48.1 ob_48.2.1 ob_48.2.2.1 ob_48.2.2.2 ft_9_92 (fun v9 e9 a9 b9 => ?_)
    refine Z_if_eq hk (tgt := 24) dX9_trial_12 (by decide) (by omega) (by omega) (fun h12 => ?_) (fun h12 => ?_)
    · refine Z_iconst hk dX9_trial_24 ?_
      exact Z_iret hk hA hQ dX9_trial_25 ⟨rfl, rfl, _, rfl, (by exact ⟨(by (trivial)), (by intro c k0 k1 k2 k3; rfl), (by intro i k0 k1 k2 k3 k4; rfl)⟩)⟩
    · refine Z_aload0 hk dX9_trial_15 ?_
      refine Z_iload1 hk dX9_trial_16 ?_
      refine Z_iload2 hk dX9_trial_17 ?_
      refine Z_Vi hk (c_X9_told κ.2.1 δ ad _ hA t w (by (omega)) (by (omega)) (by (exact q2)) (by (exact q3)) (by (exact q4)) (by (exact q5)) (by (omega))) ov_X9_told ml_X9_582 dX9_trial_18 rfl ⟨by decide, by decide⟩ ob_48.1 (by decide) (by decide) rfl (Nat.le_of_ble_eq_true rfl) (fun r18 m18 p18 => ?_)
      obtain ⟨p18, f18_0, f18_1⟩ := p18
      try simp only [f18_0, f18_1, e9, and_true, true_and, or_true, true_or, implies_true, upn, reduceIte, Nat.reduceEqDiff, ne_eq, not_false_eq_true, upc] at p18
      refine Z_goto hk (tgt := 25) dX9_trial_21 (by decide) ?_
      exact Z_iret hk hA hQ dX9_trial_25 ⟨rfl, rfl, _, rfl, (by exact ⟨(by (try simp only [f18_0, f18_1, and_true, true_and, or_true, true_or, implies_true, upn, reduceIte, Nat.reduceEqDiff, ne_eq, not_false_eq_true, upc]) <;> (trivial)), (by intro c k0 k1 k2 k3; simp only [f18_0, f18_1, upc, upn, k0, k1, k2, k3, reduceIte, Nat.reduceEqDiff, ne_eq, not_false_eq_true]), (by intro i k0 k1 k2 k3 k4; simp only [f18_0, f18_1, upc, upn, k0, k1, k2, k3, k4, reduceIte, Nat.reduceEqDiff, ne_eq, not_false_eq_true])⟩)⟩
set_option maxRecDepth 10000 in
theorem c_X9_chance (l : Launch) (δ : Dp) (ad : Nat → Nat) (M : Mem) (hA : okA δ ad) (t : Int) (w : Int) (q0 : 0 ≤ (M 48 65) ∧ (M 48 65) ≤ 6 ∧ 0 ≤ (M 48 66) ∧ (M 48 66) ≤ 4 ∧ -1 ≤ (M 48 76) ∧ (M 48 76) ≤ 5 ∧ 0 ≤ (M 48 77) ∧ (M 48 77) ≤ 8 ∧ 0 ≤ (M 48 84) ∧ (M 48 84) ≤ 250 ∧ -1 ≤ (M 48 91) ∧ (M 48 91) ≤ (M 48 84)) (q2 : AC (M 48 84) (M 104) (M 105) (M 106) (M 107) (M 108)) (q3 : LK (M 97)) (q4 : KB (M 99)) (q5 : KB (M 100)) (i_t : -2147483648 ≤ t ∧ t ≤ 2147483647) (i_w : -2147483648 ≤ w ∧ w ≤ 2147483647) : Mj l δ yX9_chance cX9_chance 3 (some (.long)) 4 101 ad rs [.ref (ad 48), iv t, iv w] M (fun r M' => (True) ∧ (∀ c : Nat, c ≠ 110 → c ≠ 111 → c ≠ 48 → M' c = M c) ∧ (∀ i : Nat, i ≠ 94 → i ≠ 95 → i ≠ 96 → i ≠ 97 → i ≠ 98 → M' 48 i = M 48 i)) := by
  refine Mg.of (rm := rmN 4 101) (by decide) (Nat.le_of_ble_eq_true rfl) fun κ _ hk _ => ?_
  generalize hQ : Qg κ δ 121 (rmN 4 101).cells (rmN 4 101).slots _ = Q
  show Zj κ δ ad rs Q 3 (121, 0, 0) 0 [some (.ref (ad 48)), some (iv t), some (iv w)] [] M
  refine Z_aload0 hk dX9_chance_0 ?_
  refine Z_iload1 hk dX9_chance_1 ?_
  refine Z_Vi hk (c_X9_isTrial κ.2.1 δ ad _ hA t (by (omega)) (by (omega))) ov_X9_isTrial ml_X9_470 dX9_chance_2 rfl ⟨by decide, by decide⟩ ob_48.1 (by decide) (by decide) rfl (Nat.le_of_ble_eq_true rfl) (fun r2 m2 p2 => ?_)
  obtain ⟨rfl, p2⟩ := p2
  refine Z_if_eq hk (tgt := 15) dX9_chance_5 (by decide) (by omega) (by omega) (fun h5 => ?_) (fun h5 => ?_)
  · refine Z_ldc2_w hk (n := -1) (mem_g (by decide +kernel)) dX9_chance_15 ?_
    exact Z_lret hk hA hQ dX9_chance_18 ⟨rfl, rfl, _, rfl, (by exact ⟨(by (trivial)), (by intro c k0 k1 k2; rfl), (by intro i k0 k1 k2 k3 k4; rfl)⟩)⟩
  · refine Z_aload0 hk dX9_chance_8 ?_
    refine Z_getZ hk fl_9_448 dX9_chance_9 ob_48.1 ob_48.2.1 ob_48.2.2.1 ob_48.2.2.2 ft_9_92 (fun v9 e9 a9 b9 => ?_)
    refine Z_if_ne hk (tgt := 19) dX9_chance_12 (by decide) (by omega) (by omega) (fun h12 => ?_) (fun h12 => ?_)
    · refine Z_aload0 hk dX9_chance_19 ?_
      refine Z_iload1 hk dX9_chance_20 ?_
      refine Z_iconst hk dX9_chance_21 ?_
      refine Z_Vv hk (c_X9_counts κ.2.1 δ ad _ hA t 1 (by (omega)) (by (omega)) (by (exact q2)) (by (exact q3)) (by (exact q4)) (by (exact q5)) (by (omega))) ov_X9_counts ml_X9_530 dX9_chance_22 rfl ⟨by decide, by decide⟩ ob_48.1 (by decide) (by decide) rfl (Nat.le_of_ble_eq_true rfl) (fun m22 p22 => ?_)
      obtain ⟨p22, f22_0, f22_1⟩ := p22
      try simp only [f22_0, f22_1, e9, and_true, true_and, or_true, true_or, implies_true, upn, reduceIte, Nat.reduceEqDiff, ne_eq, not_false_eq_true, upc] at p22
      refine Z_iload2 hk dX9_chance_25 ?_
      refine Z_if_eq hk (tgt := 50) dX9_chance_26 (by decide) (by omega) (by omega) (fun h26 => ?_) (fun h26 => ?_)
      · refine Z_aload0 hk dX9_chance_50 ?_
        refine Z_getR hk fl_9_152 dX9_chance_51 ob_48.1 ob_48.2.1 ob_48.2.2.1 ob_48.2.2.2 ft_9_67 rs_48_67 ?_
        refine Z_iload1 hk dX9_chance_54 ?_
        refine Z_zald hk dX9_chance_55 ar_94.1 ar_94.2.1 ar_94.2.2 (by omega) (by omega) (fun v55 e55 a55 b55 => ?_)
        try simp only [f22_0, f22_1, e9, and_true, true_and, or_true, true_or, implies_true, upn, reduceIte, Nat.reduceEqDiff, ne_eq, not_false_eq_true, upc] at e55
        have J68 : ∀ (y0_68 : Int), (True) → Zj κ δ ad rs Q 3 (121, 0, 0) 68 [some (.ref (ad 48)), some (iv t), some (iv w)] [jv y0_68] m22 := by
          intro y0_68 h68
          try simp only [f22_0, f22_1, and_true, true_and, or_true, true_or, implies_true, upn, reduceIte, Nat.reduceEqDiff, ne_eq, not_false_eq_true, upc] at h68
          refine Z_aload0 hk dX9_chance_68 ?_
          refine Z_Vi hk (c_X9_ofN κ.2.1 δ ad _ hA  (by (try simp only [f22_0, f22_1, and_true, true_and, or_true, true_or, implies_true, upn, reduceIte, Nat.reduceEqDiff, ne_eq, not_false_eq_true, upc]) <;> (omega))) ov_X9_ofN ml_X9_520 dX9_chance_69 rfl ⟨by decide, by decide⟩ ob_48.1 (by decide) (by decide) rfl (Nat.le_of_ble_eq_true rfl) (fun r69 m69 p69 => ?_)
          obtain ⟨rfl, p69⟩ := p69
          try simp only [f22_0, f22_1, e9, e55, and_true, true_and, or_true, true_or, implies_true, upn, reduceIte, Nat.reduceEqDiff, ne_eq, not_false_eq_true, upc] at p69
          refine Z_Sj hk (c_X9_power κ.2.1 δ ad _ hA y0_68 r69 (by (try simp only [f22_0, f22_1, and_true, true_and, or_true, true_or, implies_true, upn, reduceIte, Nat.reduceEqDiff, ne_eq, not_false_eq_true, upc]) <;> (omega))) os_X9_power ml_X9_540 dX9_chance_72 rfl ⟨by decide, by decide⟩ rfl (Nat.le_of_ble_eq_true rfl) (fun r72 m72 p72 => ?_)
          obtain ⟨rfl, p72⟩ := p72
          try simp only [f22_0, f22_1, e9, e55, and_true, true_and, or_true, true_or, implies_true, upn, reduceIte, Nat.reduceEqDiff, ne_eq, not_false_eq_true, upc] at p72
          exact Z_lret hk hA hQ dX9_chance_75 ⟨rfl, rfl, _, rfl, (by exact ⟨(by (try simp only [f22_0, f22_1, and_true, true_and, or_true, true_or, implies_true, upn, reduceIte, Nat.reduceEqDiff, ne_eq, not_false_eq_true, upc]) <;> (trivial)), (by intro c k0 k1 k2; simp only [f22_0, f22_1, upc, upn, k0, k1, k2, reduceIte, Nat.reduceEqDiff, ne_eq, not_false_eq_true]), (by intro i k0 k1 k2 k3 k4; simp only [f22_0, f22_1, upc, upn, k0, k1, k2, k3, k4, reduceIte, Nat.reduceEqDiff, ne_eq, not_false_eq_true])⟩)⟩
        refine Z_if_eq hk (tgt := 65) dX9_chance_56 (by decide) (by omega) (by omega) (fun h56 => ?_) (fun h56 => ?_)
        · refine Z_ldc2_w hk (n := 2) (mem_g (by decide +kernel)) dX9_chance_65 ?_
          exact J68 _ (by trivial)
        · refine Z_ldc2_w hk (n := 3) (mem_g (by decide +kernel)) dX9_chance_59 ?_
          refine Z_goto hk (tgt := 68) dX9_chance_62 (by decide) ?_
          exact J68 _ (by trivial)
      · refine Z_aload0 hk dX9_chance_29 ?_
        refine Z_getR hk fl_9_152 dX9_chance_30 ob_48.1 ob_48.2.1 ob_48.2.2.1 ob_48.2.2.2 ft_9_67 rs_48_67 ?_
        refine Z_iload1 hk dX9_chance_33 ?_
        refine Z_zald hk dX9_chance_34 ar_94.1 ar_94.2.1 ar_94.2.2 (by omega) (by omega) (fun v34 e34 a34 b34 => ?_)
        try simp only [f22_0, f22_1, e9, and_true, true_and, or_true, true_or, implies_true, upn, reduceIte, Nat.reduceEqDiff, ne_eq, not_false_eq_true, upc] at e34
        refine Z_aload0 hk dX9_chance_35 ?_
        refine Z_iload1 hk dX9_chance_36 ?_
        refine Z_Vi hk (c_X9_ofK κ.2.1 δ ad _ hA t (by (try simp only [f22_0, f22_1, and_true, true_and, or_true, true_or, implies_true, upn, reduceIte, Nat.reduceEqDiff, ne_eq, not_false_eq_true, upc]) <;> (omega)) (by (try simp only [f22_0, f22_1, and_true, true_and, or_true, true_or, implies_true, upn, reduceIte, Nat.reduceEqDiff, ne_eq, not_false_eq_true, upc]) <;> (omega))) ov_X9_ofK ml_X9_523 dX9_chance_37 rfl ⟨by decide, by decide⟩ ob_48.1 (by decide) (by decide) rfl (Nat.le_of_ble_eq_true rfl) (fun r37 m37 p37 => ?_)
        obtain ⟨rfl, p37⟩ := p37
        try simp only [f22_0, f22_1, e9, e34, and_true, true_and, or_true, true_or, implies_true, upn, reduceIte, Nat.reduceEqDiff, ne_eq, not_false_eq_true, upc] at p37
        refine Z_aload0 hk dX9_chance_40 ?_
        refine Z_Vi hk (c_X9_ofN κ.2.1 δ ad _ hA  (by (try simp only [f22_0, f22_1, and_true, true_and, or_true, true_or, implies_true, upn, reduceIte, Nat.reduceEqDiff, ne_eq, not_false_eq_true, upc]) <;> (omega))) ov_X9_ofN ml_X9_520 dX9_chance_41 rfl ⟨by decide, by decide⟩ ob_48.1 (by decide) (by decide) rfl (Nat.le_of_ble_eq_true rfl) (fun r41 m41 p41 => ?_)
        obtain ⟨rfl, p41⟩ := p41
        try simp only [f22_0, f22_1, e9, e34, and_true, true_and, or_true, true_or, implies_true, upn, reduceIte, Nat.reduceEqDiff, ne_eq, not_false_eq_true, upc] at p41
        refine Z_Sj hk (c_X9_guessed κ.2.1 δ ad _ hA v34 r37 r41 (by (try simp only [f22_0, f22_1, and_true, true_and, or_true, true_or, implies_true, upn, reduceIte, Nat.reduceEqDiff, ne_eq, not_false_eq_true, upc]) <;> (omega)) (by (try simp only [f22_0, f22_1, and_true, true_and, or_true, true_or, implies_true, upn, reduceIte, Nat.reduceEqDiff, ne_eq, not_false_eq_true, upc]) <;> (omega))) os_X9_guessed ml_X9_544 dX9_chance_44 rfl ⟨by decide, by decide⟩ rfl (Nat.le_of_ble_eq_true rfl) (fun r44 m44 p44 => ?_)
        obtain ⟨rfl, p44⟩ := p44
        try simp only [f22_0, f22_1, e9, e34, and_true, true_and, or_true, true_or, implies_true, upn, reduceIte, Nat.reduceEqDiff, ne_eq, not_false_eq_true, upc] at p44
        refine Z_goto hk (tgt := 75) dX9_chance_47 (by decide) ?_
        exact Z_lret hk hA hQ dX9_chance_75 ⟨rfl, rfl, _, rfl, (by exact ⟨(by (try simp only [f22_0, f22_1, and_true, true_and, or_true, true_or, implies_true, upn, reduceIte, Nat.reduceEqDiff, ne_eq, not_false_eq_true, upc]) <;> (trivial)), (by intro c k0 k1 k2; simp only [f22_0, f22_1, upc, upn, k0, k1, k2, reduceIte, Nat.reduceEqDiff, ne_eq, not_false_eq_true]), (by intro i k0 k1 k2 k3 k4; simp only [f22_0, f22_1, upc, upn, k0, k1, k2, k3, k4, reduceIte, Nat.reduceEqDiff, ne_eq, not_false_eq_true])⟩)⟩
    · refine Z_ldc2_w hk (n := -1) (mem_g (by decide +kernel)) dX9_chance_15 ?_
      exact Z_lret hk hA hQ dX9_chance_18 ⟨rfl, rfl, _, rfl, (by exact ⟨(by (trivial)), (by intro c k0 k1 k2; rfl), (by intro i k0 k1 k2 k3 k4; rfl)⟩)⟩
