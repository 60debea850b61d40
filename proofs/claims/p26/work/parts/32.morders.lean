def TH (f : Nat → Int) : Prop := ∀ j : Nat, j < 150 → 0 ≤ f j ∧ f j ≤ 4
theorem TH.put {f : Nat → Int} {i : Nat} {v : Int} (h : TH f) (hv : 0 ≤ v ∧ v ≤ 4) : TH (upr f i v) := by
  intro j hj
  by_cases e : j = i
  · subst e; rw [upr_eq]; exact hv
  · rw [upr_ne e]; exact h j hj
set_option maxRecDepth 10000 in
theorem c_X9_square (l : Launch) (δ : Dp) (ad : Nat → Nat) (M : Mem) (hA : okA δ ad) (v : Int) : Mi l δ yX9_square cX9_square 1 (some (.int)) 0 0 ad rs [iv v] M (fun r M' => M = M' ∧ (-2147483648 ≤ r ∧ r ≤ 2147483647)) := by
  refine Mg.of (rm := rmN 0 0) (by decide) (Nat.le_of_ble_eq_true rfl) fun κ _ hk _ => ?_
  generalize hQ : Qg κ δ 121 (rmN 0 0).cells (rmN 0 0).slots _ = Q
  show Zj κ δ ad rs Q 1 (121, 0, 0) 0 [some (iv v)] [] M
  refine Z_iload0 hk dX9_square_0 ?_
  refine Z_iload0 hk dX9_square_1 ?_
  refine Z_imul hk dX9_square_2 ?_
  refine Z_wI (fun w2 a2w b2w g2w => ?_)
  exact Z_iret hk hA hQ dX9_square_3 ⟨rfl, rfl, _, rfl, (by exact ⟨rfl, (by omega)⟩)⟩
set_option maxRecDepth 10000 in
theorem c_X9_uneven (l : Launch) (δ : Dp) (ad : Nat → Nat) (M : Mem) (hA : okA δ ad) (t : Int) (nn : Int) (q0 : 0 ≤ t ∧ t ≤ 5 ∧ 0 ≤ nn ∧ nn ≤ 30) (q1 : TH (M 118)) : Mi l δ yX9_uneven cX9_uneven 6 (some (.int)) 1 20 ad rs [.ref (ad 48), iv t, iv nn] M (fun r M' => (-2147483648 ≤ r ∧ r ≤ 2147483647) ∧ (∀ c : Nat, c ≠ 119 → c ≠ 120 → M' c = M c)) := by
  refine Mg.of (rm := rmN 1 20) (by decide) (Nat.le_of_ble_eq_true rfl) fun κ _ hk _ => ?_
  generalize hQ : Qg κ δ 121 (rmN 1 20).cells (rmN 1 20).slots _ = Q
  show Zj κ δ ad rs Q 6 (121, 0, 0) 0 [some (.ref (ad 48)), some (iv t), some (iv nn), none, none, none] [] M
  refine Z_iconst hk dX9_uneven_0 ?_
  have J2 : ∀ (n : Nat) (x3_2 : Int) (m2 : Mem), ((0 ≤ x3_2 ∧ x3_2 ≤ 25) ∧ (∀ c : Nat, c ≠ 119 → c ≠ 120 → m2 c = M c)) → (25 - x3_2) < (n : Int) → Zj κ δ ad rs Q 6 (121, 0, 0) 2 [some (.ref (ad 48)), some (iv t), some (iv nn), some (iv x3_2), none, none] [] m2 := by
    intro n
    induction n with
    | zero => intro x3_2 m2 h2 hm2; exfalso; obtain ⟨h2, -⟩ := h2; omega
    | succ n ih2 =>
      intro x3_2 m2 h2 hm2
      obtain ⟨h2, f2_0⟩ := h2
      try simp only [f2_0, and_true, true_and, or_true, true_or, implies_true, upn, reduceIte, Nat.reduceEqDiff, ne_eq, not_false_eq_true, upc] at h2 hm2
      refine Z_iload3 hk dX9_uneven_2 ?_
      refine Z_bipush hk dX9_uneven_3 (by decide) ?_
      refine Z_icmp_ge hk (tgt := 28) dX9_uneven_5 (by decide) (by omega) (by omega) (by decide) (by decide) (fun h5 => ?_) (fun h5 => ?_)
      · refine Z_iconst hk dX9_uneven_28 ?_
        have J30 : ∀ (n : Nat) (x3_30 : Int) (m30 : Mem), ((0 ≤ x3_30 ∧ x3_30 ≤ nn) ∧ (∀ c : Nat, c ≠ 119 → c ≠ 120 → m30 c = m2 c)) → (nn - x3_30) < (n : Int) → Zj κ δ ad rs Q 6 (121, 0, 0) 30 [some (.ref (ad 48)), some (iv t), some (iv nn), some (iv x3_30), none, none] [] m30 := by
          intro n
          induction n with
          | zero => intro x3_30 m30 h30 hm30; exfalso; obtain ⟨h30, -⟩ := h30; omega
          | succ n ih30 =>
            intro x3_30 m30 h30 hm30
            obtain ⟨h30, f30_0⟩ := h30
            try simp only [f30_0, f2_0, and_true, true_and, or_true, true_or, implies_true, upn, reduceIte, Nat.reduceEqDiff, ne_eq, not_false_eq_true, upc] at h30 hm30
            refine Z_iload3 hk dX9_uneven_30 ?_
            refine Z_iload2 hk dX9_uneven_31 ?_
            refine Z_icmp_ge hk (tgt := 122) dX9_uneven_32 (by decide) (by omega) (by omega) (by omega) (by omega) (fun h32 => ?_) (fun h32 => ?_)
            · refine Z_iconst hk dX9_uneven_122 ?_
              refine Z_istore3 hk rfl (by decide) dX9_uneven_123 ?_
              refine Z_iconst hk dX9_uneven_124 ?_
              have J127 : ∀ (n : Nat) (x3_127 : Int) (x4_127 : Int), (0 ≤ x4_127 ∧ x4_127 ≤ t ∧ -2147483648 ≤ x3_127 ∧ x3_127 ≤ 2147483647) → (t - x4_127) < (n : Int) → Zj κ δ ad rs Q 6 (121, 0, 0) 127 [some (.ref (ad 48)), some (iv t), some (iv nn), some (iv x3_127), some (iv x4_127), none] [] m30 := by
                intro n
                induction n with
                | zero => intro x3_127 x4_127 h127 hm127; exfalso; (try simp only [f30_0, f2_0, and_true, true_and, or_true, true_or, implies_true, upn, reduceIte, Nat.reduceEqDiff, ne_eq, not_false_eq_true, upc] at h127 hm127); omega
                | succ n ih127 =>
                  intro x3_127 x4_127 h127 hm127
                  try simp only [f30_0, f2_0, and_true, true_and, or_true, true_or, implies_true, upn, reduceIte, Nat.reduceEqDiff, ne_eq, not_false_eq_true, upc] at h127 hm127
                  refine Z_iload4 hk dX9_uneven_127 ?_
                  refine Z_iload1 hk dX9_uneven_129 ?_
                  refine Z_icmp_ge hk (tgt := 205) dX9_uneven_130 (by decide) (by omega) (by omega) (by omega) (by omega) (fun h130 => ?_) (fun h130 => ?_)
                  · refine Z_iload3 hk dX9_uneven_205 ?_
                    exact Z_iret hk hA hQ dX9_uneven_206 ⟨rfl, rfl, _, rfl, (by exact ⟨(by (try simp only [f30_0, f2_0, and_true, true_and, or_true, true_or, implies_true, upn, reduceIte, Nat.reduceEqDiff, ne_eq, not_false_eq_true, upc]) <;> (omega)), (by intro c k0 k1; simp only [f30_0, f2_0, upc, upn, k0, k1, reduceIte, Nat.reduceEqDiff, ne_eq, not_false_eq_true])⟩)⟩
                  · refine Z_iconst hk dX9_uneven_133 ?_
                    have J136 : ∀ (n : Nat) (x3_136 : Int) (x5_136 : Int), (0 ≤ x5_136 ∧ x5_136 ≤ t ∧ -2147483648 ≤ x3_136 ∧ x3_136 ≤ 2147483647) → (t - x5_136) < (n : Int) → Zj κ δ ad rs Q 6 (121, 0, 0) 136 [some (.ref (ad 48)), some (iv t), some (iv nn), some (iv x3_136), some (iv x4_127), some (iv x5_136)] [] m30 := by
                      intro n
                      induction n with
                      | zero => intro x3_136 x5_136 h136 hm136; exfalso; (try simp only [f30_0, f2_0, and_true, true_and, or_true, true_or, implies_true, upn, reduceIte, Nat.reduceEqDiff, ne_eq, not_false_eq_true, upc] at h136 hm136); omega
                      | succ n ih136 =>
                        intro x3_136 x5_136 h136 hm136
                        try simp only [f30_0, f2_0, and_true, true_and, or_true, true_or, implies_true, upn, reduceIte, Nat.reduceEqDiff, ne_eq, not_false_eq_true, upc] at h136 hm136
                        refine Z_iload5 hk dX9_uneven_136 ?_
                        refine Z_iload1 hk dX9_uneven_138 ?_
                        refine Z_icmp_ge hk (tgt := 199) dX9_uneven_139 (by decide) (by omega) (by omega) (by omega) (by omega) (fun h139 => ?_) (fun h139 => ?_)
                        · refine Z_iinc4 hk rfl (by decide) dX9_uneven_199 ?_
                          refine Z_goto hk (tgt := 127) dX9_uneven_202 (by decide) ?_
                          refine Z_drop5 ?_
                          exact ih127 _ _ (by (try simp only [f30_0, f2_0, and_true, true_and, or_true, true_or, implies_true, upn, reduceIte, Nat.reduceEqDiff, ne_eq, not_false_eq_true, upc]) <;> (omega)) (by (try simp only [f30_0, f2_0, and_true, true_and, or_true, true_or, implies_true, upn, reduceIte, Nat.reduceEqDiff, ne_eq, not_false_eq_true, upc]) <;> (omega))
                        · refine Z_iload3 hk dX9_uneven_142 ?_
                          refine Z_aload0 hk dX9_uneven_143 ?_
                          refine Z_getR hk fl_9_236 dX9_uneven_144 ob_48.1 ob_48.2.1 ob_48.2.2.1 ob_48.2.2.2 ft_9_111 rs_48_111 ?_
                          refine Z_iconst hk dX9_uneven_147 ?_
                          refine Z_iload4 hk dX9_uneven_148 ?_
                          refine Z_imul hk dX9_uneven_150 ?_
                          refine Z_iload5 hk dX9_uneven_151 ?_
                          refine Z_iadd hk dX9_uneven_153 ?_
                          refine Z_iald hk dX9_uneven_154 ar_119.1 ar_119.2.1 ar_119.2.2 (by omega) (by omega) (fun v154 e154 a154 b154 => ?_)
                          try simp only [f30_0, f2_0, and_true, true_and, or_true, true_or, implies_true, upn, reduceIte, Nat.reduceEqDiff, ne_eq, not_false_eq_true, upc] at e154
                          refine Z_iload1 hk dX9_uneven_155 ?_
                          refine Z_imul hk dX9_uneven_156 ?_
                          refine Z_iload2 hk dX9_uneven_157 ?_
                          refine Z_isub hk dX9_uneven_158 ?_
                          refine Z_Si hk (c_X9_square κ.2.1 δ ad _ hA ((v154 * t) - nn) ) os_X9_square ml_X9_634 dX9_uneven_159 rfl ⟨by decide, by decide⟩ rfl (Nat.le_of_ble_eq_true rfl) (fun r159 m159 p159 => ?_)
                          obtain ⟨rfl, p159⟩ := p159
                          try simp only [f30_0, f2_0, e154, and_true, true_and, or_true, true_or, implies_true, upn, reduceIte, Nat.reduceEqDiff, ne_eq, not_false_eq_true, upc] at p159
                          refine Z_iadd hk dX9_uneven_162 ?_
                          refine Z_wI (fun w162 a162w b162w g162w => ?_)
                          refine Z_istore3 hk rfl (by decide) dX9_uneven_163 ?_
                          refine Z_iload4 hk dX9_uneven_164 ?_
                          refine Z_iload5 hk dX9_uneven_166 ?_
                          have J193 : ∀ (x3_193 : Int), (-2147483648 ≤ x3_193 ∧ x3_193 ≤ 2147483647) → Zj κ δ ad rs Q 6 (121, 0, 0) 193 [some (.ref (ad 48)), some (iv t), some (iv nn), some (iv x3_193), some (iv x4_127), some (iv x5_136)] [] m30 := by
                            intro x3_193 h193
                            try simp only [f30_0, f2_0, and_true, true_and, or_true, true_or, implies_true, upn, reduceIte, Nat.reduceEqDiff, ne_eq, not_false_eq_true, upc] at h193
                            refine Z_iinc5 hk rfl (by decide) dX9_uneven_193 ?_
                            refine Z_goto hk (tgt := 136) dX9_uneven_196 (by decide) ?_
                            exact ih136 _ _ (by (try simp only [f30_0, f2_0, and_true, true_and, or_true, true_or, implies_true, upn, reduceIte, Nat.reduceEqDiff, ne_eq, not_false_eq_true, upc]) <;> (omega)) (by (try simp only [f30_0, f2_0, and_true, true_and, or_true, true_or, implies_true, upn, reduceIte, Nat.reduceEqDiff, ne_eq, not_false_eq_true, upc]) <;> (omega))
                          refine Z_icmp_eq hk (tgt := 193) dX9_uneven_168 (by decide) (by omega) (by omega) (by omega) (by omega) (fun h168 => ?_) (fun h168 => ?_)
                          · exact J193 _ (by (try simp only [f30_0, f2_0, and_true, true_and, or_true, true_or, implies_true, upn, reduceIte, Nat.reduceEqDiff, ne_eq, not_false_eq_true, upc]) <;> (omega))
                          · refine Z_iload3 hk dX9_uneven_171 ?_
                            refine Z_aload0 hk dX9_uneven_172 ?_
                            refine Z_getR hk fl_9_239 dX9_uneven_173 ob_48.1 ob_48.2.1 ob_48.2.2.1 ob_48.2.2.2 ft_9_112 rs_48_112 ?_
                            refine Z_iconst hk dX9_uneven_176 ?_
                            refine Z_iload4 hk dX9_uneven_177 ?_
                            refine Z_imul hk dX9_uneven_179 ?_
                            refine Z_iload5 hk dX9_uneven_180 ?_
                            refine Z_iadd hk dX9_uneven_182 ?_
                            refine Z_iald hk dX9_uneven_183 ar_120.1 ar_120.2.1 ar_120.2.2 (by omega) (by omega) (fun v183 e183 a183 b183 => ?_)
                            try simp only [f30_0, f2_0, e154, and_true, true_and, or_true, true_or, implies_true, upn, reduceIte, Nat.reduceEqDiff, ne_eq, not_false_eq_true, upc] at e183
                            refine Z_iload1 hk dX9_uneven_184 ?_
                            refine Z_imul hk dX9_uneven_185 ?_
                            refine Z_iload2 hk dX9_uneven_186 ?_
                            refine Z_isub hk dX9_uneven_187 ?_
                            refine Z_Si hk (c_X9_square κ.2.1 δ ad _ hA ((v183 * t) - nn) ) os_X9_square ml_X9_634 dX9_uneven_188 rfl ⟨by decide, by decide⟩ rfl (Nat.le_of_ble_eq_true rfl) (fun r188 m188 p188 => ?_)
                            obtain ⟨rfl, p188⟩ := p188
                            try simp only [f30_0, f2_0, e154, e183, and_true, true_and, or_true, true_or, implies_true, upn, reduceIte, Nat.reduceEqDiff, ne_eq, not_false_eq_true, upc] at p188
                            refine Z_iadd hk dX9_uneven_191 ?_
                            refine Z_wI (fun w191 a191w b191w g191w => ?_)
                            refine Z_istore3 hk rfl (by decide) dX9_uneven_192 ?_
                            exact J193 _ (by (try simp only [f30_0, f2_0, and_true, true_and, or_true, true_or, implies_true, upn, reduceIte, Nat.reduceEqDiff, ne_eq, not_false_eq_true, upc]) <;> (omega))
                    refine Z_istore5 hk rfl (by decide) dX9_uneven_134 ?_
                    exact J136 (((t - 0) : Int).toNat + 1) _ _ (by (try simp only [f30_0, f2_0, and_true, true_and, or_true, true_or, implies_true, upn, reduceIte, Nat.reduceEqDiff, ne_eq, not_false_eq_true, upc]) <;> (omega)) (by omega)
              refine Z_istore4 hk rfl (by decide) dX9_uneven_125 ?_
              exact J127 (((t - 0) : Int).toNat + 1) _ _ (by (try simp only [f30_0, f2_0, and_true, true_and, or_true, true_or, implies_true, upn, reduceIte, Nat.reduceEqDiff, ne_eq, not_false_eq_true, upc]) <;> (omega)) (by omega)
            · refine Z_iconst hk dX9_uneven_35 ?_
              have J38 : ∀ (n : Nat) (x4_38 : Int) (m38 : Mem), ((0 ≤ x4_38 ∧ x4_38 ≤ t) ∧ (∀ c : Nat, c ≠ 119 → c ≠ 120 → m38 c = m30 c)) → (t - x4_38) < (n : Int) → Zj κ δ ad rs Q 6 (121, 0, 0) 38 [some (.ref (ad 48)), some (iv t), some (iv nn), some (iv x3_30), some (iv x4_38), none] [] m38 := by
                intro n
                induction n with
                | zero => intro x4_38 m38 h38 hm38; exfalso; obtain ⟨h38, -⟩ := h38; omega
                | succ n ih38 =>
                  intro x4_38 m38 h38 hm38
                  obtain ⟨h38, f38_0⟩ := h38
                  try simp only [f38_0, f30_0, f2_0, and_true, true_and, or_true, true_or, implies_true, upn, reduceIte, Nat.reduceEqDiff, ne_eq, not_false_eq_true, upc] at h38 hm38
                  refine Z_iload4 hk dX9_uneven_38 ?_
                  refine Z_iload1 hk dX9_uneven_40 ?_
                  refine Z_icmp_ge hk (tgt := 116) dX9_uneven_41 (by decide) (by omega) (by omega) (by omega) (by omega) (fun h41 => ?_) (fun h41 => ?_)
                  · refine Z_iinc3 hk rfl (by decide) dX9_uneven_116 ?_
                    refine Z_goto hk (tgt := 30) dX9_uneven_119 (by decide) ?_
                    refine Z_drop4 ?_
                    exact ih30 _ _ (by exact ⟨(by (try simp only [f38_0, f30_0, f2_0, and_true, true_and, or_true, true_or, implies_true, upn, reduceIte, Nat.reduceEqDiff, ne_eq, not_false_eq_true, upc]) <;> (omega)), (by intro c k0 k1; simp only [f38_0, f30_0, f2_0, upc, upn, k0, k1, reduceIte, Nat.reduceEqDiff, ne_eq, not_false_eq_true])⟩) (by (try simp only [f38_0, f30_0, f2_0, and_true, true_and, or_true, true_or, implies_true, upn, reduceIte, Nat.reduceEqDiff, ne_eq, not_false_eq_true, upc]) <;> (omega))
                  · refine Z_aload0 hk dX9_uneven_44 ?_
                    refine Z_getR hk fl_9_236 dX9_uneven_45 ob_48.1 ob_48.2.1 ob_48.2.2.1 ob_48.2.2.2 ft_9_111 rs_48_111 ?_
                    refine Z_iconst hk dX9_uneven_48 ?_
                    refine Z_aload0 hk dX9_uneven_49 ?_
                    refine Z_getR hk fl_9_233 dX9_uneven_50 ob_48.1 ob_48.2.1 ob_48.2.2.1 ob_48.2.2.2 ft_9_110 rs_48_110 ?_
                    refine Z_iconst hk dX9_uneven_53 ?_
                    refine Z_iload3 hk dX9_uneven_54 ?_
                    refine Z_imul hk dX9_uneven_55 ?_
                    refine Z_iload4 hk dX9_uneven_56 ?_
                    refine Z_iadd hk dX9_uneven_58 ?_
                    refine Z_iald hk dX9_uneven_59 ar_118.1 ar_118.2.1 ar_118.2.2 (by omega) (by omega) (fun v59 e59 a59 b59 => ?_)
                    try simp only [f38_0, f30_0, f2_0, and_true, true_and, or_true, true_or, implies_true, upn, reduceIte, Nat.reduceEqDiff, ne_eq, not_false_eq_true, upc] at e59
                    have g59 := q1 (5 * x3_30 + x4_38).toNat (by omega)
                    rw [← e59] at g59
                    refine Z_imul hk dX9_uneven_60 ?_
                    refine Z_iload4 hk dX9_uneven_61 ?_
                    refine Z_iadd hk dX9_uneven_63 ?_
                    refine Z_dup2 hk rfl rfl dX9_uneven_64 ?_
                    refine Z_iald hk dX9_uneven_65 ar_119.1 ar_119.2.1 ar_119.2.2 (by omega) (by omega) (fun v65 e65 a65 b65 => ?_)
                    try simp only [f38_0, f30_0, f2_0, e59, and_true, true_and, or_true, true_or, implies_true, upn, reduceIte, Nat.reduceEqDiff, ne_eq, not_false_eq_true, upc] at e65
                    refine Z_iconst hk dX9_uneven_66 ?_
                    refine Z_iadd hk dX9_uneven_67 ?_
                    refine Z_wI (fun w67 a67w b67w g67w => ?_)
                    refine Z_iast hk hA dX9_uneven_68 ar_119.1 ar_119.2.1 ar_119.2.2 (by omega) (by omega) (by omega) (by omega) ?_
                    refine Z_nm (fun m68 em68 => ?_)
                    refine Z_iload4 hk dX9_uneven_69 ?_
                    have J110 : ∀ (m110 : Mem), ((True) ∧ (∀ c : Nat, c ≠ 120 → m110 c = m68 c)) → Zj κ δ ad rs Q 6 (121, 0, 0) 110 [some (.ref (ad 48)), some (iv t), some (iv nn), some (iv x3_30), some (iv x4_38), none] [] m110 := by
                      intro m110 h110
                      obtain ⟨h110, f110_0⟩ := h110
                      try simp only [f110_0, em68, f38_0, f30_0, f2_0, and_true, true_and, or_true, true_or, implies_true, upn, reduceIte, Nat.reduceEqDiff, ne_eq, not_false_eq_true, upc] at h110
                      refine Z_iinc4 hk rfl (by decide) dX9_uneven_110 ?_
                      refine Z_goto hk (tgt := 38) dX9_uneven_113 (by decide) ?_
                      exact ih38 _ _ (by exact ⟨(by (try simp only [f110_0, em68, f38_0, f30_0, f2_0, and_true, true_and, or_true, true_or, implies_true, upn, reduceIte, Nat.reduceEqDiff, ne_eq, not_false_eq_true, upc]) <;> (omega)), (by intro c k0 k1; simp only [f110_0, em68, f38_0, f30_0, f2_0, upc, upn, k0, k1, reduceIte, Nat.reduceEqDiff, ne_eq, not_false_eq_true])⟩) (by (try simp only [f110_0, em68, f38_0, f30_0, f2_0, and_true, true_and, or_true, true_or, implies_true, upn, reduceIte, Nat.reduceEqDiff, ne_eq, not_false_eq_true, upc]) <;> (omega))
                    refine Z_if_le hk (tgt := 110) dX9_uneven_71 (by decide) (by omega) (by omega) (fun h71 => ?_) (fun h71 => ?_)
                    · exact J110 _ (by exact ⟨(by (try simp only [em68, f38_0, f30_0, f2_0, and_true, true_and, or_true, true_or, implies_true, upn, reduceIte, Nat.reduceEqDiff, ne_eq, not_false_eq_true, upc]) <;> (trivial)), (by intro c k0; simp only [em68, f38_0, f30_0, f2_0, upc, upn, k0, reduceIte, Nat.reduceEqDiff, ne_eq, not_false_eq_true])⟩)
                    · refine Z_aload0 hk dX9_uneven_74 ?_
                      refine Z_getR hk fl_9_239 dX9_uneven_75 ob_48.1 ob_48.2.1 ob_48.2.2.1 ob_48.2.2.2 ft_9_112 rs_48_112 ?_
                      refine Z_iconst hk dX9_uneven_78 ?_
                      refine Z_aload0 hk dX9_uneven_79 ?_
                      refine Z_getR hk fl_9_233 dX9_uneven_80 ob_48.1 ob_48.2.1 ob_48.2.2.1 ob_48.2.2.2 ft_9_110 rs_48_110 ?_
                      refine Z_iconst hk dX9_uneven_83 ?_
                      refine Z_iload3 hk dX9_uneven_84 ?_
                      refine Z_imul hk dX9_uneven_85 ?_
                      refine Z_iload4 hk dX9_uneven_86 ?_
                      refine Z_iadd hk dX9_uneven_88 ?_
                      refine Z_iconst hk dX9_uneven_89 ?_
                      refine Z_isub hk dX9_uneven_90 ?_
                      refine Z_iald hk dX9_uneven_91 ar_118.1 ar_118.2.1 ar_118.2.2 (by omega) (by omega) (fun v91 e91 a91 b91 => ?_)
                      try simp only [em68, f38_0, f30_0, f2_0, e59, e65, and_true, true_and, or_true, true_or, implies_true, upn, reduceIte, Nat.reduceEqDiff, ne_eq, not_false_eq_true, upc] at e91
                      have g91 := q1 (5 * x3_30 + x4_38 - 1).toNat (by omega)
                      rw [← e91] at g91
                      refine Z_imul hk dX9_uneven_92 ?_
                      refine Z_aload0 hk dX9_uneven_93 ?_
                      refine Z_getR hk fl_9_233 dX9_uneven_94 ob_48.1 ob_48.2.1 ob_48.2.2.1 ob_48.2.2.2 ft_9_110 rs_48_110 ?_
                      refine Z_iconst hk dX9_uneven_97 ?_
                      refine Z_iload3 hk dX9_uneven_98 ?_
                      refine Z_imul hk dX9_uneven_99 ?_
                      refine Z_iload4 hk dX9_uneven_100 ?_
                      refine Z_iadd hk dX9_uneven_102 ?_
                      refine Z_iald hk dX9_uneven_103 ar_118.1 ar_118.2.1 ar_118.2.2 (by omega) (by omega) (fun v103 e103 a103 b103 => ?_)
                      try simp only [em68, f38_0, f30_0, f2_0, e59, e65, e91, and_true, true_and, or_true, true_or, implies_true, upn, reduceIte, Nat.reduceEqDiff, ne_eq, not_false_eq_true, upc] at e103
                      have g103 := q1 (5 * x3_30 + x4_38).toNat (by omega)
                      rw [← e103] at g103
                      refine Z_iadd hk dX9_uneven_104 ?_
                      refine Z_dup2 hk rfl rfl dX9_uneven_105 ?_
                      refine Z_iald hk dX9_uneven_106 ar_120.1 ar_120.2.1 ar_120.2.2 (by omega) (by omega) (fun v106 e106 a106 b106 => ?_)
                      try simp only [em68, f38_0, f30_0, f2_0, e59, e65, e91, e103, and_true, true_and, or_true, true_or, implies_true, upn, reduceIte, Nat.reduceEqDiff, ne_eq, not_false_eq_true, upc] at e106
                      refine Z_iconst hk dX9_uneven_107 ?_
                      refine Z_iadd hk dX9_uneven_108 ?_
                      refine Z_wI (fun w108 a108w b108w g108w => ?_)
                      refine Z_iast hk hA dX9_uneven_109 ar_120.1 ar_120.2.1 ar_120.2.2 (by omega) (by omega) (by omega) (by omega) ?_
                      refine Z_nm (fun m109 em109 => ?_)
                      exact J110 _ (by exact ⟨(by (try simp only [em109, em68, f38_0, f30_0, f2_0, and_true, true_and, or_true, true_or, implies_true, upn, reduceIte, Nat.reduceEqDiff, ne_eq, not_false_eq_true, upc]) <;> (trivial)), (by intro c k0; simp only [em109, em68, f38_0, f30_0, f2_0, upc, upn, k0, reduceIte, Nat.reduceEqDiff, ne_eq, not_false_eq_true])⟩)
              refine Z_istore4 hk rfl (by decide) dX9_uneven_36 ?_
              exact J38 (((t - 0) : Int).toNat + 1) _ _ (by exact ⟨(by (try simp only [f30_0, f2_0, and_true, true_and, or_true, true_or, implies_true, upn, reduceIte, Nat.reduceEqDiff, ne_eq, not_false_eq_true, upc]) <;> (omega)), (by intro c k0 k1; simp only [f30_0, f2_0, upc, upn, k0, k1, reduceIte, Nat.reduceEqDiff, ne_eq, not_false_eq_true])⟩) (by omega)
        refine Z_istore3 hk rfl (by decide) dX9_uneven_29 ?_
        exact J30 (((nn - 0) : Int).toNat + 1) _ _ (by exact ⟨(by (try simp only [f2_0, and_true, true_and, or_true, true_or, implies_true, upn, reduceIte, Nat.reduceEqDiff, ne_eq, not_false_eq_true, upc]) <;> (omega)), (by intro c k0 k1; simp only [f2_0, upc, upn, k0, k1, reduceIte, Nat.reduceEqDiff, ne_eq, not_false_eq_true])⟩) (by omega)
      · refine Z_aload0 hk dX9_uneven_8 ?_
        refine Z_getR hk fl_9_236 dX9_uneven_9 ob_48.1 ob_48.2.1 ob_48.2.2.1 ob_48.2.2.2 ft_9_111 rs_48_111 ?_
        refine Z_iload3 hk dX9_uneven_12 ?_
        refine Z_iconst hk dX9_uneven_13 ?_
        refine Z_iast hk hA dX9_uneven_14 ar_119.1 ar_119.2.1 ar_119.2.2 (by omega) (by omega) (by decide) (by decide) ?_
        refine Z_nm (fun m14 em14 => ?_)
        refine Z_aload0 hk dX9_uneven_15 ?_
        refine Z_getR hk fl_9_239 dX9_uneven_16 ob_48.1 ob_48.2.1 ob_48.2.2.1 ob_48.2.2.2 ft_9_112 rs_48_112 ?_
        refine Z_iload3 hk dX9_uneven_19 ?_
        refine Z_iconst hk dX9_uneven_20 ?_
        refine Z_iast hk hA dX9_uneven_21 ar_120.1 ar_120.2.1 ar_120.2.2 (by omega) (by omega) (by decide) (by decide) ?_
        refine Z_nm (fun m21 em21 => ?_)
        refine Z_iinc3 hk rfl (by decide) dX9_uneven_22 ?_
        refine Z_goto hk (tgt := 2) dX9_uneven_25 (by decide) ?_
        exact ih2 _ _ (by exact ⟨(by (try simp only [em21, em14, f2_0, and_true, true_and, or_true, true_or, implies_true, upn, reduceIte, Nat.reduceEqDiff, ne_eq, not_false_eq_true, upc]) <;> (omega)), (by intro c k0 k1; simp only [em21, em14, f2_0, upc, upn, k0, k1, reduceIte, Nat.reduceEqDiff, ne_eq, not_false_eq_true])⟩) (by (try simp only [em21, em14, f2_0, and_true, true_and, or_true, true_or, implies_true, upn, reduceIte, Nat.reduceEqDiff, ne_eq, not_false_eq_true, upc]) <;> (omega))
  refine Z_istore3 hk rfl (by decide) dX9_uneven_1 ?_
  exact J2 (((25 - 0) : Int).toNat + 1) _ _ (by exact ⟨(by (omega)), (by intro c k0 k1; rfl)⟩) (by omega)
set_option maxRecDepth 10000 in
theorem c_X9_lays (l : Launch) (δ : Dp) (ad : Nat → Nat) (M : Mem) (hA : okA δ ad) (v : Int) (t : Int) (i : Int) (q0 : 0 ≤ v ∧ v ≤ 2147483647 ∧ 2 ≤ t ∧ t ≤ 5 ∧ 0 ≤ i ∧ i ≤ 29) (q1 : TH (M 118)) : Mi l δ yX9_lays cX9_lays 7 (some (.boolean)) 0 0 ad rs [.ref (ad 48), iv v, iv t, iv i] M (fun r M' => (0 ≤ r ∧ r ≤ 1) ∧ (∀ c : Nat, c ≠ 118 → M' c = M c) ∧ (TH (M' 118))) := by
  refine Mg.of (rm := rmN 0 0) (by decide) (Nat.le_of_ble_eq_true rfl) fun κ _ hk _ => ?_
  generalize hQ : Qg κ δ 121 (rmN 0 0).cells (rmN 0 0).slots _ = Q
  show Zj κ δ ad rs Q 7 (121, 0, 0) 0 [some (.ref (ad 48)), some (iv v), some (iv t), some (iv i), none, none, none] [] M
  refine Z_iconst hk dX9_lays_0 ?_
  refine Z_istore4 hk rfl (by decide) dX9_lays_1 ?_
  refine Z_iload1 hk dX9_lays_3 ?_
  refine Z_istore5 hk rfl (by decide) dX9_lays_4 ?_
  refine Z_iload2 hk dX9_lays_6 ?_
  refine Z_iconst hk dX9_lays_7 ?_
  refine Z_isub hk dX9_lays_8 ?_
  have J11 : ∀ (n : Nat) (x4_11 : Int) (x5_11 : Int) (x6_11 : Int) (m11 : Mem), (((-1 ≤ x6_11 ∧ x6_11 ≤ 4 ∧ 0 ≤ x5_11 ∧ x5_11 ≤ 2147483647 ∧ -2147483648 ≤ x4_11 ∧ x4_11 ≤ 2147483647) ∧ TH (m11 118)) ∧ (∀ c : Nat, c ≠ 118 → m11 c = M c)) → (x6_11 + 1) < (n : Int) → Zj κ δ ad rs Q 7 (121, 0, 0) 11 [some (.ref (ad 48)), some (iv v), some (iv t), some (iv i), some (iv x4_11), some (iv x5_11), some (iv x6_11)] [] m11 := by
    intro n
    induction n with
    | zero => intro x4_11 x5_11 x6_11 m11 h11 hm11; exfalso; obtain ⟨h11, -⟩ := h11; omega
    | succ n ih11 =>
      intro x4_11 x5_11 x6_11 m11 h11 hm11
      obtain ⟨h11, f11_0⟩ := h11
      try simp only [f11_0, and_true, true_and, or_true, true_or, implies_true, upn, reduceIte, Nat.reduceEqDiff, ne_eq, not_false_eq_true, upc] at h11 hm11
      refine Z_iload6 hk dX9_lays_11 ?_
      refine Z_if_lt hk (tgt := 54) dX9_lays_13 (by decide) (by omega) (by omega) (fun h13 => ?_) (fun h13 => ?_)
      · refine Z_iload4 hk dX9_lays_54 ?_
        refine Z_iconst hk dX9_lays_56 ?_
        refine Z_iload2 hk dX9_lays_57 ?_
        refine Z_ishl hk dX9_lays_58 (fun v58 e58 a58 b58 => ?_)
        refine Z_iconst hk dX9_lays_59 ?_
        refine Z_isub hk dX9_lays_60 ?_
        refine Z_wI (fun w60 a60w b60w g60w => ?_)
        refine Z_icmp_ne hk (tgt := 68) dX9_lays_61 (by decide) (by omega) (by omega) (by omega) (by omega) (fun h61 => ?_) (fun h61 => ?_)
        · refine Z_iconst hk dX9_lays_68 ?_
          exact Z_zret hk hA hQ dX9_lays_69 (by decide) (by decide) ⟨rfl, rfl, _, rfl, (by exact ⟨(by (try simp only [f11_0, and_true, true_and, or_true, true_or, implies_true, upn, reduceIte, Nat.reduceEqDiff, ne_eq, not_false_eq_true, upc]) <;> (omega)), (by intro c k0; simp only [f11_0, upc, upn, k0, reduceIte, Nat.reduceEqDiff, ne_eq, not_false_eq_true]), (by exact h11.2)⟩)⟩
        · refine Z_iconst hk dX9_lays_64 ?_
          refine Z_goto hk (tgt := 69) dX9_lays_65 (by decide) ?_
          exact Z_zret hk hA hQ dX9_lays_69 (by decide) (by decide) ⟨rfl, rfl, _, rfl, (by exact ⟨(by (try simp only [f11_0, and_true, true_and, or_true, true_or, implies_true, upn, reduceIte, Nat.reduceEqDiff, ne_eq, not_false_eq_true, upc]) <;> (omega)), (by intro c k0; simp only [f11_0, upc, upn, k0, reduceIte, Nat.reduceEqDiff, ne_eq, not_false_eq_true]), (by exact h11.2)⟩)⟩
      · refine Z_aload0 hk dX9_lays_16 ?_
        refine Z_getR hk fl_9_233 dX9_lays_17 ob_48.1 ob_48.2.1 ob_48.2.2.1 ob_48.2.2.2 ft_9_110 rs_48_110 ?_
        refine Z_iconst hk dX9_lays_20 ?_
        refine Z_iload3 hk dX9_lays_21 ?_
        refine Z_imul hk dX9_lays_22 ?_
        refine Z_iload6 hk dX9_lays_23 ?_
        refine Z_iadd hk dX9_lays_25 ?_
        refine Z_iload5 hk dX9_lays_26 ?_
        refine Z_iload2 hk dX9_lays_28 ?_
        refine Z_irem hk dX9_lays_29 (by omega) (by omega) (by omega) (by omega) (by omega) ?_
        have g30 := tm_in (x := x5_11) (y := t) (by omega) (by omega)
        have g31 := td_in (x := x5_11) (y := t) (by omega) (by omega)
        refine Z_iast hk hA dX9_lays_30 ar_118.1 ar_118.2.1 ar_118.2.2 (by omega) (by omega) (by omega) (by omega) ?_
        refine Z_nm (fun m30 em30 => ?_)
        refine Z_iload4 hk dX9_lays_31 ?_
        refine Z_iconst hk dX9_lays_33 ?_
        refine Z_iload5 hk dX9_lays_34 ?_
        refine Z_iload2 hk dX9_lays_36 ?_
        refine Z_irem hk dX9_lays_37 (by omega) (by omega) (by omega) (by omega) (by omega) ?_
        refine Z_ishl hk dX9_lays_38 (fun v38 e38 a38 b38 => ?_)
        refine Z_ior hk dX9_lays_39 (fun v39 e39 a39 b39 => ?_)
        refine Z_istore4 hk rfl (by decide) dX9_lays_40 ?_
        refine Z_iload5 hk dX9_lays_42 ?_
        refine Z_iload2 hk dX9_lays_44 ?_
        refine Z_idiv hk dX9_lays_45 (by omega) (by omega) (by omega) (by omega) (by omega) ?_
        refine Z_istore5 hk rfl (by decide) dX9_lays_46 ?_
        refine Z_iinc6 hk rfl (by decide) dX9_lays_48 ?_
        refine Z_goto hk (tgt := 11) dX9_lays_51 (by decide) ?_
        exact ih11 _ _ _ _ (by exact ⟨(by (exact ⟨by omega, by simp only [em30, f11_0, and_true, true_and, or_true, true_or, implies_true, upn, reduceIte, Nat.reduceEqDiff, ne_eq, not_false_eq_true, upc, upc]; exact h11.2.put (by omega)⟩)), (by intro c k0; simp only [em30, f11_0, upc, upn, k0, reduceIte, Nat.reduceEqDiff, ne_eq, not_false_eq_true])⟩) (by (try simp only [em30, f11_0, and_true, true_and, or_true, true_or, implies_true, upn, reduceIte, Nat.reduceEqDiff, ne_eq, not_false_eq_true, upc]) <;> (omega))
  refine Z_istore6 hk rfl (by decide) dX9_lays_9 ?_
  exact J11 ((((t - 1) + 1) : Int).toNat + 1) _ _ _ _ (by exact ⟨(by (exact ⟨by omega, q1⟩)), (by intro c k0; rfl)⟩) (by omega)
set_option maxHeartbeats 1000000 in
set_option maxRecDepth 10000 in
theorem c_X9_orders (l : Launch) (δ : Dp) (ad : Nat → Nat) (M : Mem) (hA : okA δ ad) (t : Int) (nn : Int) (q1 : TH (M 118)) (i_t : -2147483648 ≤ t ∧ t ≤ 2147483647) (i_nn : -2147483648 ≤ nn ∧ nn ≤ 2147483647) : Mi l δ yX9_orders cX9_orders 10 (some (.int)) 2 45 ad rs [.ref (ad 48), iv t, iv nn] M (fun r M' => (((M' 48 108) = (M 48 108) ∧ (M' 48 109) = (M 48 109)) ∨ (2 ≤ (M' 48 108) ∧ (M' 48 108) ≤ 5 ∧ 1 ≤ (M' 48 109) ∧ (M' 48 109) ≤ 30)) ∧ (∀ c : Nat, c ≠ 118 → c ≠ 119 → c ≠ 120 → c ≠ 48 → M' c = M c) ∧ (∀ i : Nat, i ≠ 108 → i ≠ 109 → M' 48 i = M 48 i) ∧ (TH (M' 118))) := by
  refine Mg.of (rm := rmN 2 45) (by decide) (Nat.le_of_ble_eq_true rfl) fun κ _ hk _ => ?_
  generalize hQ : Qg κ δ 121 (rmN 2 45).cells (rmN 2 45).slots _ = Q
  show Zj κ δ ad rs Q 10 (121, 0, 0) 0 [some (.ref (ad 48)), some (iv t), some (iv nn), none, none, none, none, none, none, none] [] M
  refine Z_iload1 hk dX9_orders_0 ?_
  refine Z_i2l hk dX9_orders_1 (by omega) (by omega) ?_
  refine Z_ldc2_w hk (n := 2) (mem_g (by decide +kernel)) dX9_orders_2 ?_
  refine Z_ldc2_w hk (n := 5) (mem_g (by decide +kernel)) dX9_orders_5 ?_
  refine Z_Si hk (c_X9_isIn κ.2.1 δ ad _ hA t (2) (5) (by (omega)) (by (omega)) (by (omega))) os_X9_isIn ml_X9_285 dX9_orders_8 rfl ⟨by decide, by decide⟩ rfl (Nat.le_of_ble_eq_true rfl) (fun r8 m8 p8 => ?_)
  obtain ⟨rfl, p8⟩ := p8
  refine Z_if_eq hk (tgt := 26) dX9_orders_11 (by decide) (by omega) (by omega) (fun h11 => ?_) (fun h11 => ?_)
  · refine Z_iconst hk dX9_orders_26 ?_
    exact Z_iret hk hA hQ dX9_orders_27 ⟨rfl, rfl, _, rfl, (by exact ⟨(by (omega)), (by intro c k0 k1 k2 k3; rfl), (by intro i k0 k1; rfl), (by (try simp only [and_true, true_and, or_true, true_or, implies_true, upn, reduceIte, Nat.reduceEqDiff, ne_eq, not_false_eq_true, upc, upc]); first | exact h42.2 | exact q1)⟩)⟩
  · refine Z_iload2 hk dX9_orders_14 ?_
    refine Z_i2l hk dX9_orders_15 (by omega) (by omega) ?_
    refine Z_lconst1 hk dX9_orders_16 ?_
    refine Z_ldc2_w hk (n := 30) (mem_g (by decide +kernel)) dX9_orders_17 ?_
    refine Z_Si hk (c_X9_isIn κ.2.1 δ ad _ hA nn 1 (30) (by (omega)) (by (omega)) (by (omega))) os_X9_isIn ml_X9_285 dX9_orders_20 rfl ⟨by decide, by decide⟩ rfl (Nat.le_of_ble_eq_true rfl) (fun r20 m20 p20 => ?_)
    obtain ⟨rfl, p20⟩ := p20
    refine Z_if_ne hk (tgt := 28) dX9_orders_23 (by decide) (by omega) (by omega) (fun h23 => ?_) (fun h23 => ?_)
    · refine Z_iload1 hk dX9_orders_28 ?_
      refine Z_i2l hk dX9_orders_29 (by omega) (by omega) ?_
      refine Z_iload1 hk dX9_orders_30 ?_
      refine Z_Sj hk (c_X9_power κ.2.1 δ ad _ hA t t (by (omega))) os_X9_power ml_X9_540 dX9_orders_31 rfl ⟨by decide, by decide⟩ rfl (Nat.le_of_ble_eq_true rfl) (fun r31 m31 p31 => ?_)
      obtain ⟨rfl, p31⟩ := p31
      refine Z_l2i hk dX9_orders_34 ?_
      refine Z_wI (fun w34 a34w b34w g34w => ?_)
      refine Z_istore3 hk rfl (by decide) dX9_orders_35 ?_
      refine Z_iconst hk dX9_orders_36 ?_
      refine Z_istore4 hk rfl (by decide) dX9_orders_37 ?_
      refine Z_iconst hk dX9_orders_39 ?_
      have J42 : ∀ (n : Nat) (x4_42 : Int) (x5_42 : Int) (m42 : Mem), (((0 ≤ x5_42 ∧ x5_42 ≤ nn ∧ -2147483648 ≤ x4_42 ∧ x4_42 ≤ 2147483647) ∧ TH (m42 118)) ∧ (∀ c : Nat, c ≠ 118 → c ≠ 119 → c ≠ 120 → m42 c = M c)) → (nn - x5_42) < (n : Int) → Zj κ δ ad rs Q 10 (121, 0, 0) 42 [some (.ref (ad 48)), some (iv t), some (iv nn), some (iv w34), some (iv x4_42), some (iv x5_42), none, none, none, none] [] m42 := by
        intro n
        induction n with
        | zero => intro x4_42 x5_42 m42 h42 hm42; exfalso; obtain ⟨h42, -⟩ := h42; omega
        | succ n ih42 =>
          intro x4_42 x5_42 m42 h42 hm42
          obtain ⟨h42, f42_0⟩ := h42
          try simp only [f42_0, and_true, true_and, or_true, true_or, implies_true, upn, reduceIte, Nat.reduceEqDiff, ne_eq, not_false_eq_true, upc] at h42 hm42
          refine Z_iload5 hk dX9_orders_42 ?_
          refine Z_iload2 hk dX9_orders_44 ?_
          refine Z_icmp_ge hk (tgt := 139) dX9_orders_45 (by decide) (by omega) (by omega) (by omega) (by omega) (fun h45 => ?_) (fun h45 => ?_)
          · refine Z_aload0 hk dX9_orders_139 ?_
            refine Z_iload1 hk dX9_orders_140 ?_
            refine Z_putI hk hA fl_9_646 dX9_orders_141 ob_48.1 ob_48.2.1 ob_48.2.2.1 ob_48.2.2.2 ft_9_108 (by omega) (by omega) ?_
            refine Z_nm (fun m141 em141 => ?_)
            refine Z_aload0 hk dX9_orders_144 ?_
            refine Z_iload2 hk dX9_orders_145 ?_
            refine Z_putI hk hA fl_9_649 dX9_orders_146 ob_48.1 ob_48.2.1 ob_48.2.2.1 ob_48.2.2.2 ft_9_109 (by omega) (by omega) ?_
            refine Z_nm (fun m146 em146 => ?_)
            refine Z_iload4 hk dX9_orders_149 ?_
            exact Z_iret hk hA hQ dX9_orders_151 ⟨rfl, rfl, _, rfl, (by exact ⟨(by (try simp only [em146, em141, f42_0, and_true, true_and, or_true, true_or, implies_true, upn, reduceIte, Nat.reduceEqDiff, ne_eq, not_false_eq_true, upc]) <;> (omega)), (by intro c k0 k1 k2 k3; simp only [em146, em141, f42_0, upc, upn, k0, k1, k2, k3, reduceIte, Nat.reduceEqDiff, ne_eq, not_false_eq_true]), (by intro i k0 k1; simp only [em146, em141, f42_0, upc, upn, k0, k1, reduceIte, Nat.reduceEqDiff, ne_eq, not_false_eq_true]), (by (try simp only [em146, em141, f42_0, and_true, true_and, or_true, true_or, implies_true, upn, reduceIte, Nat.reduceEqDiff, ne_eq, not_false_eq_true, upc, upc]); first | exact h42.2 | exact q1)⟩)⟩
          · refine Z_iconst hk dX9_orders_48 ?_
            refine Z_istore6 hk rfl (by decide) dX9_orders_49 ?_
            refine Z_iconst hk dX9_orders_51 ?_
            refine Z_istore7 hk rfl (by decide) dX9_orders_52 ?_
            refine Z_iconst hk dX9_orders_54 ?_
            have J57 : ∀ (n : Nat) (x6_57 : Int) (x7_57 : Int) (x8_57 : Int) (m57 : Mem), (((0 ≤ x8_57 ∧ 0 ≤ x7_57 ∧ x7_57 ≤ 2147483647 ∧ -2147483648 ≤ x6_57 ∧ x6_57 ≤ 2147483647 ∧ (x8_57 ≤ 0 ∨ x8_57 ≤ w34)) ∧ TH (m57 118)) ∧ (∀ c : Nat, c ≠ 118 → c ≠ 119 → c ≠ 120 → m57 c = m42 c)) → (if w34 ≤ x8_57 then 0 else w34 - x8_57) < (n : Int) → Zj κ δ ad rs Q 10 (121, 0, 0) 57 [some (.ref (ad 48)), some (iv t), some (iv nn), some (iv w34), some (iv x4_42), some (iv x5_42), some (iv x6_57), some (iv x7_57), some (iv x8_57), none] [] m57 := by
              intro n
              induction n with
              | zero => intro x6_57 x7_57 x8_57 m57 h57 hm57; exfalso; obtain ⟨h57, -⟩ := h57; revert hm57; split <;> omega
              | succ n ih57 =>
                intro x6_57 x7_57 x8_57 m57 h57 hm57
                obtain ⟨h57, f57_0⟩ := h57
                try simp only [f57_0, f42_0, and_true, true_and, or_true, true_or, implies_true, upn, reduceIte, Nat.reduceEqDiff, ne_eq, not_false_eq_true, upc] at h57 hm57
                refine Z_iload8 hk dX9_orders_57 ?_
                refine Z_iload3 hk dX9_orders_59 ?_
                refine Z_icmp_ge hk (tgt := 119) dX9_orders_60 (by decide) (by omega) (by omega) (by omega) (by omega) (fun h60 => ?_) (fun h60 => ?_)
                · refine Z_aload0 hk dX9_orders_119 ?_
                  refine Z_iload7 hk dX9_orders_120 ?_
                  refine Z_iload1 hk dX9_orders_122 ?_
                  refine Z_iload5 hk dX9_orders_123 ?_
                  refine Z_Vi hk (c_X9_lays κ.2.1 δ ad _ hA x7_57 t x5_42 (by (try simp only [f57_0, f42_0, and_true, true_and, or_true, true_or, implies_true, upn, reduceIte, Nat.reduceEqDiff, ne_eq, not_false_eq_true, upc]) <;> (omega)) (by (exact h57.2))) ov_X9_lays ml_X9_639 dX9_orders_125 rfl ⟨by decide, by decide⟩ ob_48.1 (by decide) (by decide) rfl (Nat.le_of_ble_eq_true rfl) (fun r125 m125 p125 => ?_)
                  obtain ⟨p125, f125_0, f125_1⟩ := p125
                  try simp only [f125_0, f125_1, f57_0, f42_0, and_true, true_and, or_true, true_or, implies_true, upn, reduceIte, Nat.reduceEqDiff, ne_eq, not_false_eq_true, upc] at p125
                  refine Z_pop1 hk rfl dX9_orders_128 ?_
                  refine Z_iload6 hk dX9_orders_129 ?_
                  refine Z_istore4 hk rfl (by decide) dX9_orders_131 ?_
                  refine Z_iinc5 hk rfl (by decide) dX9_orders_133 ?_
                  refine Z_goto hk (tgt := 42) dX9_orders_136 (by decide) ?_
                  refine Z_drop6 ?_
                  refine Z_drop7 ?_
                  refine Z_drop8 ?_
                  exact ih42 _ _ _ (by exact ⟨(by (exact ⟨by omega, f125_1⟩)), (by intro c k0 k1 k2; simp only [f125_0, f125_1, f57_0, f42_0, upc, upn, k0, k1, k2, reduceIte, Nat.reduceEqDiff, ne_eq, not_false_eq_true])⟩) (by (try simp only [f125_0, f125_1, f57_0, f42_0, and_true, true_and, or_true, true_or, implies_true, upn, reduceIte, Nat.reduceEqDiff, ne_eq, not_false_eq_true, upc]) <;> (omega))
                · refine Z_aload0 hk dX9_orders_63 ?_
                  refine Z_iload8 hk dX9_orders_64 ?_
                  refine Z_iload1 hk dX9_orders_66 ?_
                  refine Z_iload5 hk dX9_orders_67 ?_
                  refine Z_Vi hk (c_X9_lays κ.2.1 δ ad _ hA x8_57 t x5_42 (by (try simp only [f57_0, f42_0, and_true, true_and, or_true, true_or, implies_true, upn, reduceIte, Nat.reduceEqDiff, ne_eq, not_false_eq_true, upc]) <;> (omega)) (by (exact h57.2))) ov_X9_lays ml_X9_639 dX9_orders_69 rfl ⟨by decide, by decide⟩ ob_48.1 (by decide) (by decide) rfl (Nat.le_of_ble_eq_true rfl) (fun r69 m69 p69 => ?_)
                  obtain ⟨p69, f69_0, f69_1⟩ := p69
                  try simp only [f69_0, f69_1, f57_0, f42_0, and_true, true_and, or_true, true_or, implies_true, upn, reduceIte, Nat.reduceEqDiff, ne_eq, not_false_eq_true, upc] at p69
                  have J113 : ∀ (x6_113 : Int) (x7_113 : Int) (m113 : Mem), (((0 ≤ x7_113 ∧ x7_113 ≤ 2147483647 ∧ -2147483648 ≤ x6_113 ∧ x6_113 ≤ 2147483647) ∧ TH (m113 118)) ∧ (∀ c : Nat, c ≠ 118 → c ≠ 119 → c ≠ 120 → m113 c = m69 c)) → Zj κ δ ad rs Q 10 (121, 0, 0) 113 [some (.ref (ad 48)), some (iv t), some (iv nn), some (iv w34), some (iv x4_42), some (iv x5_42), some (iv x6_113), some (iv x7_113), some (iv x8_57), none] [] m113 := by
                    intro x6_113 x7_113 m113 h113
                    obtain ⟨h113, f113_0⟩ := h113
                    try simp only [f113_0, f69_0, f69_1, f57_0, f42_0, and_true, true_and, or_true, true_or, implies_true, upn, reduceIte, Nat.reduceEqDiff, ne_eq, not_false_eq_true, upc] at h113
                    refine Z_iinc8 hk rfl (by decide) dX9_orders_113 ?_
                    refine Z_goto hk (tgt := 57) dX9_orders_116 (by decide) ?_
                    exact ih57 _ _ _ _ (by exact ⟨(by (exact ⟨by omega, h113.2⟩)), (by intro c k0 k1 k2; simp only [f113_0, f69_0, f69_1, f57_0, f42_0, upc, upn, k0, k1, k2, reduceIte, Nat.reduceEqDiff, ne_eq, not_false_eq_true])⟩) (by (try simp only [f113_0, f69_0, f69_1, f57_0, f42_0, and_true, true_and, or_true, true_or, implies_true, upn, reduceIte, Nat.reduceEqDiff, ne_eq, not_false_eq_true, upc]) <;> (revert hm57; split <;> split <;> omega))
                  refine Z_if_ne hk (tgt := 78) dX9_orders_72 (by decide) (by omega) (by omega) (fun h72 => ?_) (fun h72 => ?_)
                  · refine Z_aload0 hk dX9_orders_78 ?_
                    refine Z_iload1 hk dX9_orders_79 ?_
                    refine Z_iload5 hk dX9_orders_80 ?_
                    refine Z_iconst hk dX9_orders_82 ?_
                    refine Z_iadd hk dX9_orders_83 ?_
                    refine Z_Vi hk (c_X9_uneven κ.2.1 δ ad _ hA t (x5_42 + 1) (by (try simp only [f69_0, f69_1, f57_0, f42_0, and_true, true_and, or_true, true_or, implies_true, upn, reduceIte, Nat.reduceEqDiff, ne_eq, not_false_eq_true, upc]) <;> (omega)) (by (exact f69_1))) ov_X9_uneven ml_X9_643 dX9_orders_84 rfl ⟨by decide, by decide⟩ ob_48.1 (by decide) (by decide) rfl (Nat.le_of_ble_eq_true rfl) (fun r84 m84 p84 => ?_)
                    obtain ⟨p84, f84_0⟩ := p84
                    try simp only [f84_0, f69_0, f69_1, f57_0, f42_0, and_true, true_and, or_true, true_or, implies_true, upn, reduceIte, Nat.reduceEqDiff, ne_eq, not_false_eq_true, upc] at p84
                    refine Z_istore9 hk rfl (by decide) dX9_orders_87 ?_
                    refine Z_iload6 hk dX9_orders_89 ?_
                    refine Z_iconst hk dX9_orders_91 ?_
                    have J105 : ∀ (_ : Unit), (True) → Zj κ δ ad rs Q 10 (121, 0, 0) 105 [some (.ref (ad 48)), some (iv t), some (iv nn), some (iv w34), some (iv x4_42), some (iv x5_42), some (iv x6_57), some (iv x7_57), some (iv x8_57), some (iv r84)] [] m84 := by
                      intro _ h105
                      try simp only [f84_0, f69_0, f69_1, f57_0, f42_0, and_true, true_and, or_true, true_or, implies_true, upn, reduceIte, Nat.reduceEqDiff, ne_eq, not_false_eq_true, upc] at h105
                      refine Z_iload9 hk dX9_orders_105 ?_
                      refine Z_istore6 hk rfl (by decide) dX9_orders_107 ?_
                      refine Z_iload8 hk dX9_orders_109 ?_
                      refine Z_istore7 hk rfl (by decide) dX9_orders_111 ?_
                      refine Z_drop9 ?_
                      exact J113 _ _ _ (by exact ⟨(by (exact ⟨by omega, by (try simp only [f84_0, f69_0, f69_1, f57_0, f42_0, and_true, true_and, or_true, true_or, implies_true, upn, reduceIte, Nat.reduceEqDiff, ne_eq, not_false_eq_true, upc, upc]) <;> exact f69_1⟩)), (by intro c k0 k1 k2; simp only [f84_0, f69_0, f69_1, f57_0, f42_0, upc, upn, k0, k1, k2, reduceIte, Nat.reduceEqDiff, ne_eq, not_false_eq_true])⟩)
                    refine Z_icmp_eq hk (tgt := 105) dX9_orders_92 (by decide) (by omega) (by omega) (by decide) (by decide) (fun h92 => ?_) (fun h92 => ?_)
                    · exact J105 () (by trivial)
                    · refine Z_iload9 hk dX9_orders_95 ?_
                      refine Z_iload6 hk dX9_orders_97 ?_
                      refine Z_icmp_lt hk (tgt := 105) dX9_orders_99 (by decide) (by omega) (by omega) (by omega) (by omega) (fun h99 => ?_) (fun h99 => ?_)
                      · exact J105 () (by trivial)
                      · refine Z_goto hk (tgt := 113) dX9_orders_102 (by decide) ?_
                        refine Z_drop9 ?_
                        exact J113 _ _ _ (by exact ⟨(by (exact ⟨by omega, by (try simp only [f84_0, f69_0, f69_1, f57_0, f42_0, and_true, true_and, or_true, true_or, implies_true, upn, reduceIte, Nat.reduceEqDiff, ne_eq, not_false_eq_true, upc, upc]) <;> exact f69_1⟩)), (by intro c k0 k1 k2; simp only [f84_0, f69_0, f69_1, f57_0, f42_0, upc, upn, k0, k1, k2, reduceIte, Nat.reduceEqDiff, ne_eq, not_false_eq_true])⟩)
                  · refine Z_goto hk (tgt := 113) dX9_orders_75 (by decide) ?_
                    exact J113 _ _ _ (by exact ⟨(by (exact ⟨by omega, by (try simp only [f69_0, f69_1, f57_0, f42_0, and_true, true_and, or_true, true_or, implies_true, upn, reduceIte, Nat.reduceEqDiff, ne_eq, not_false_eq_true, upc, upc]) <;> exact f69_1⟩)), (by intro c k0 k1 k2; simp only [f69_0, f69_1, f57_0, f42_0, upc, upn, k0, k1, k2, reduceIte, Nat.reduceEqDiff, ne_eq, not_false_eq_true])⟩)
            refine Z_istore8 hk rfl (by decide) dX9_orders_55 ?_
            exact J57 (((if w34 ≤ 0 then 0 else w34 - 0) : Int).toNat + 1) _ _ _ _ (by exact ⟨(by (exact ⟨by omega, by (try simp only [f42_0, and_true, true_and, or_true, true_or, implies_true, upn, reduceIte, Nat.reduceEqDiff, ne_eq, not_false_eq_true, upc, upc]); exact h42.2⟩)), (by intro c k0 k1 k2; simp only [f42_0, upc, upn, k0, k1, k2, reduceIte, Nat.reduceEqDiff, ne_eq, not_false_eq_true])⟩) (by omega)
      refine Z_istore5 hk rfl (by decide) dX9_orders_40 ?_
      exact J42 (((nn - 0) : Int).toNat + 1) _ _ _ (by exact ⟨(by (exact ⟨by omega, by (try simp only [and_true, true_and, or_true, true_or, implies_true, upn, reduceIte, Nat.reduceEqDiff, ne_eq, not_false_eq_true, upc, upc]); exact q1⟩)), (by intro c k0 k1 k2; rfl)⟩) (by omega)
    · refine Z_iconst hk dX9_orders_26 ?_
      exact Z_iret hk hA hQ dX9_orders_27 ⟨rfl, rfl, _, rfl, (by exact ⟨(by (omega)), (by intro c k0 k1 k2 k3; rfl), (by intro i k0 k1; rfl), (by (try simp only [and_true, true_and, or_true, true_or, implies_true, upn, reduceIte, Nat.reduceEqDiff, ne_eq, not_false_eq_true, upc, upc]); first | exact h42.2 | exact q1)⟩)⟩
set_option maxRecDepth 10000 in
theorem c_X9_served (l : Launch) (δ : Dp) (ad : Nat → Nat) (M : Mem) (hA : okA δ ad) (i : Int) (p : Int) (q0 : ((M 48 108) = 0 ∨ (2 ≤ (M 48 108) ∧ (M 48 108) ≤ 5)) ∧ 0 ≤ (M 48 109) ∧ (M 48 109) ≤ 30) (i_i : -2147483648 ≤ i ∧ i ≤ 2147483647) (i_p : -2147483648 ≤ p ∧ p ≤ 2147483647) : Mi l δ yX9_served cX9_served 3 (some (.int)) 1 25 ad rs [.ref (ad 48), iv i, iv p] M (fun r M' => M = M' ∧ (True)) := by
  refine Mg.of (rm := rmN 1 25) (by decide) (Nat.le_of_ble_eq_true rfl) fun κ _ hk _ => ?_
  generalize hQ : Qg κ δ 121 (rmN 1 25).cells (rmN 1 25).slots _ = Q
  show Zj κ δ ad rs Q 3 (121, 0, 0) 0 [some (.ref (ad 48)), some (iv i), some (iv p)] [] M
  refine Z_iload1 hk dX9_served_0 ?_
  refine Z_if_lt hk (tgt := 41) dX9_served_1 (by decide) (by omega) (by omega) (fun h1 => ?_) (fun h1 => ?_)
  · refine Z_iconst hk dX9_served_41 ?_
    exact Z_iret hk hA hQ dX9_served_42 ⟨rfl, rfl, _, rfl, (by exact ⟨rfl, (by trivial)⟩)⟩
  · refine Z_iload1 hk dX9_served_4 ?_
    refine Z_aload0 hk dX9_served_5 ?_
    refine Z_getI hk fl_9_649 dX9_served_6 ob_48.1 ob_48.2.1 ob_48.2.2.1 ob_48.2.2.2 ft_9_109 (fun v6 e6 a6 b6 => ?_)
    refine Z_icmp_ge hk (tgt := 41) dX9_served_9 (by decide) (by omega) (by omega) (by omega) (by omega) (fun h9 => ?_) (fun h9 => ?_)
    · refine Z_iconst hk dX9_served_41 ?_
      exact Z_iret hk hA hQ dX9_served_42 ⟨rfl, rfl, _, rfl, (by exact ⟨rfl, (by trivial)⟩)⟩
    · refine Z_iload2 hk dX9_served_12 ?_
      refine Z_i2l hk dX9_served_13 (by omega) (by omega) ?_
      refine Z_lconst0 hk dX9_served_14 ?_
      refine Z_aload0 hk dX9_served_15 ?_
      refine Z_getI hk fl_9_646 dX9_served_16 ob_48.1 ob_48.2.1 ob_48.2.2.1 ob_48.2.2.2 ft_9_108 (fun v16 e16 a16 b16 => ?_)
      try simp only [e6, and_true, true_and, or_true, true_or, implies_true, upn, reduceIte, Nat.reduceEqDiff, ne_eq, not_false_eq_true, upc] at e16
      refine Z_iconst hk dX9_served_19 ?_
      refine Z_isub hk dX9_served_20 ?_
      refine Z_i2l hk dX9_served_21 (by omega) (by omega) ?_
      refine Z_Si hk (c_X9_isIn κ.2.1 δ ad _ hA p 0 (v16 - 1) (by (omega)) (by (omega)) (by (omega))) os_X9_isIn ml_X9_285 dX9_served_22 rfl ⟨by decide, by decide⟩ rfl (Nat.le_of_ble_eq_true rfl) (fun r22 m22 p22 => ?_)
      obtain ⟨rfl, p22⟩ := p22
      refine Z_if_eq hk (tgt := 41) dX9_served_25 (by decide) (by omega) (by omega) (fun h25 => ?_) (fun h25 => ?_)
      · refine Z_iconst hk dX9_served_41 ?_
        exact Z_iret hk hA hQ dX9_served_42 ⟨rfl, rfl, _, rfl, (by exact ⟨rfl, (by trivial)⟩)⟩
      · refine Z_aload0 hk dX9_served_28 ?_
        refine Z_getR hk fl_9_233 dX9_served_29 ob_48.1 ob_48.2.1 ob_48.2.2.1 ob_48.2.2.2 ft_9_110 rs_48_110 ?_
        refine Z_iconst hk dX9_served_32 ?_
        refine Z_iload1 hk dX9_served_33 ?_
        refine Z_imul hk dX9_served_34 ?_
        refine Z_iload2 hk dX9_served_35 ?_
        refine Z_iadd hk dX9_served_36 ?_
        refine Z_iald hk dX9_served_37 ar_118.1 ar_118.2.1 ar_118.2.2 (by omega) (by omega) (fun v37 e37 a37 b37 => ?_)
        try simp only [e6, e16, and_true, true_and, or_true, true_or, implies_true, upn, reduceIte, Nat.reduceEqDiff, ne_eq, not_false_eq_true, upc] at e37
        refine Z_goto hk (tgt := 42) dX9_served_38 (by decide) ?_
        exact Z_iret hk hA hQ dX9_served_42 ⟨rfl, rfl, _, rfl, (by exact ⟨rfl, (by trivial)⟩)⟩
set_option maxHeartbeats 1000000 in
set_option maxRecDepth 10000 in
theorem c_X9_serves (l : Launch) (δ : Dp) (ad : Nat → Nat) (M : Mem) (hA : okA δ ad) (v : Int) (q0 : ((M 48 108) = 0 ∨ (2 ≤ (M 48 108) ∧ (M 48 108) ≤ 5)) ∧ 0 ≤ (M 48 109) ∧ (M 48 109) ≤ 30) (q1 : TH (M 118)) (i_v : -2147483648 ≤ v ∧ v ≤ 2147483647) : Mi l δ yX9_serves cX9_serves 5 (some (.int)) 2 45 ad rs [.ref (ad 48), iv v] M (fun r M' => ((M 48 109) ≤ (M' 48 109) ∧ (M' 48 109) ≤ 30) ∧ (∀ c : Nat, c ≠ 118 → c ≠ 119 → c ≠ 120 → c ≠ 48 → M' c = M c) ∧ (∀ i : Nat, i ≠ 109 → M' 48 i = M 48 i) ∧ (TH (M' 118))) := by
  refine Mg.of (rm := rmN 2 45) (by decide) (Nat.le_of_ble_eq_true rfl) fun κ _ hk _ => ?_
  generalize hQ : Qg κ δ 121 (rmN 2 45).cells (rmN 2 45).slots _ = Q
  show Zj κ δ ad rs Q 5 (121, 0, 0) 0 [some (.ref (ad 48)), some (iv v), none, none, none] [] M
  refine Z_aload0 hk dX9_serves_0 ?_
  refine Z_getI hk fl_9_646 dX9_serves_1 ob_48.1 ob_48.2.1 ob_48.2.2.1 ob_48.2.2.2 ft_9_108 (fun v1 e1 a1 b1 => ?_)
  refine Z_if_eq hk (tgt := 31) dX9_serves_4 (by decide) (by omega) (by omega) (fun h4 => ?_) (fun h4 => ?_)
  · refine Z_iconst hk dX9_serves_31 ?_
    exact Z_iret hk hA hQ dX9_serves_32 ⟨rfl, rfl, _, rfl, (by exact ⟨(by (omega)), (by intro c k0 k1 k2 k3; rfl), (by intro i k0; rfl), (by (try simp only [e1, and_true, true_and, or_true, true_or, implies_true, upn, reduceIte, Nat.reduceEqDiff, ne_eq, not_false_eq_true, upc, upc]); first | exact h95.2 | exact q1)⟩)⟩
  · refine Z_aload0 hk dX9_serves_7 ?_
    refine Z_getI hk fl_9_649 dX9_serves_8 ob_48.1 ob_48.2.1 ob_48.2.2.1 ob_48.2.2.2 ft_9_109 (fun v8 e8 a8 b8 => ?_)
    try simp only [e1, and_true, true_and, or_true, true_or, implies_true, upn, reduceIte, Nat.reduceEqDiff, ne_eq, not_false_eq_true, upc] at e8
    refine Z_bipush hk dX9_serves_11 (by decide) ?_
    refine Z_icmp_eq hk (tgt := 31) dX9_serves_13 (by decide) (by omega) (by omega) (by decide) (by decide) (fun h13 => ?_) (fun h13 => ?_)
    · refine Z_iconst hk dX9_serves_31 ?_
      exact Z_iret hk hA hQ dX9_serves_32 ⟨rfl, rfl, _, rfl, (by exact ⟨(by (omega)), (by intro c k0 k1 k2 k3; rfl), (by intro i k0; rfl), (by (try simp only [e1, e8, and_true, true_and, or_true, true_or, implies_true, upn, reduceIte, Nat.reduceEqDiff, ne_eq, not_false_eq_true, upc, upc]); first | exact h95.2 | exact q1)⟩)⟩
    · refine Z_iload1 hk dX9_serves_16 ?_
      refine Z_if_lt hk (tgt := 31) dX9_serves_17 (by decide) (by omega) (by omega) (fun h17 => ?_) (fun h17 => ?_)
      · refine Z_iconst hk dX9_serves_31 ?_
        exact Z_iret hk hA hQ dX9_serves_32 ⟨rfl, rfl, _, rfl, (by exact ⟨(by (omega)), (by intro c k0 k1 k2 k3; rfl), (by intro i k0; rfl), (by (try simp only [e1, e8, and_true, true_and, or_true, true_or, implies_true, upn, reduceIte, Nat.reduceEqDiff, ne_eq, not_false_eq_true, upc, upc]); first | exact h95.2 | exact q1)⟩)⟩
      · refine Z_iload1 hk dX9_serves_20 ?_
        refine Z_iconst hk dX9_serves_21 ?_
        refine Z_aload0 hk dX9_serves_22 ?_
        refine Z_getI hk fl_9_646 dX9_serves_23 ob_48.1 ob_48.2.1 ob_48.2.2.1 ob_48.2.2.2 ft_9_108 (fun v23 e23 a23 b23 => ?_)
        try simp only [e1, e8, and_true, true_and, or_true, true_or, implies_true, upn, reduceIte, Nat.reduceEqDiff, ne_eq, not_false_eq_true, upc] at e23
        refine Z_imul hk dX9_serves_26 ?_
        refine Z_ishr hk dX9_serves_27 (fun v27 e27 a27 b27 => ?_)
        refine Z_if_eq hk (tgt := 33) dX9_serves_28 (by decide) (by omega) (by omega) (fun h28 => ?_) (fun h28 => ?_)
        · refine Z_iconst hk dX9_serves_33 ?_
          refine Z_istore2 hk rfl (by decide) dX9_serves_34 ?_
          refine Z_iconst hk dX9_serves_35 ?_
          have J37 : ∀ (n : Nat) (x2_37 : Int) (x3_37 : Int), ((0 ≤ x3_37 ∧ x3_37 ≤ (M 48 108) ∧ -2147483648 ≤ x2_37 ∧ x2_37 ≤ 2147483647) ∧ ∀ j : Nat, (j : Int) < x3_37 → (Int32.ofInt (Int32.ofInt v >>> (Int32.ofInt (4 * (j : Int)) &&& 31)).toInt &&& Int32.ofInt 15).toInt < (M 48 108)) → ((M 48 108) - x3_37) < (n : Int) → Zj κ δ ad rs Q 5 (121, 0, 0) 37 [some (.ref (ad 48)), some (iv v), some (iv x2_37), some (iv x3_37), none] [] M := by
            intro n
            induction n with
            | zero => intro x2_37 x3_37 h37 hm37; exfalso; omega
            | succ n ih37 =>
              intro x2_37 x3_37 h37 hm37
              refine Z_iload3 hk dX9_serves_37 ?_
              refine Z_aload0 hk dX9_serves_38 ?_
              refine Z_getI hk fl_9_646 dX9_serves_39 ob_48.1 ob_48.2.1 ob_48.2.2.1 ob_48.2.2.2 ft_9_108 (fun v39 e39 a39 b39 => ?_)
              try simp only [e1, e8, e23, and_true, true_and, or_true, true_or, implies_true, upn, reduceIte, Nat.reduceEqDiff, ne_eq, not_false_eq_true, upc] at e39
              refine Z_icmp_ge hk (tgt := 79) dX9_serves_42 (by decide) (by omega) (by omega) (by omega) (by omega) (fun h42 => ?_) (fun h42 => ?_)
              · refine Z_iload2 hk dX9_serves_79 ?_
                refine Z_iconst hk dX9_serves_80 ?_
                refine Z_aload0 hk dX9_serves_81 ?_
                refine Z_getI hk fl_9_646 dX9_serves_82 ob_48.1 ob_48.2.1 ob_48.2.2.1 ob_48.2.2.2 ft_9_108 (fun v82 e82 a82 b82 => ?_)
                try simp only [e1, e8, e23, e39, and_true, true_and, or_true, true_or, implies_true, upn, reduceIte, Nat.reduceEqDiff, ne_eq, not_false_eq_true, upc] at e82
                refine Z_ishl hk dX9_serves_85 (fun v85 e85 a85 b85 => ?_)
                refine Z_iconst hk dX9_serves_86 ?_
                refine Z_isub hk dX9_serves_87 ?_
                refine Z_wI (fun w87 a87w b87w g87w => ?_)
                refine Z_icmp_eq hk (tgt := 93) dX9_serves_88 (by decide) (by omega) (by omega) (by omega) (by omega) (fun h88 => ?_) (fun h88 => ?_)
                · refine Z_iconst hk dX9_serves_93 ?_
                  have J95 : ∀ (n : Nat) (x3_95 : Int) (m95 : Mem), (((0 ≤ x3_95 ∧ x3_95 ≤ (M 48 108)) ∧ TH (m95 118)) ∧ (∀ c : Nat, c ≠ 118 → m95 c = M c)) → ((M 48 108) - x3_95) < (n : Int) → Zj κ δ ad rs Q 5 (121, 0, 0) 95 [some (.ref (ad 48)), some (iv v), some (iv x2_37), some (iv x3_95), none] [] m95 := by
                    intro n
                    induction n with
                    | zero => intro x3_95 m95 h95 hm95; exfalso; obtain ⟨h95, -⟩ := h95; omega
                    | succ n ih95 =>
                      intro x3_95 m95 h95 hm95
                      obtain ⟨h95, f95_0⟩ := h95
                      try simp only [f95_0, and_true, true_and, or_true, true_or, implies_true, upn, reduceIte, Nat.reduceEqDiff, ne_eq, not_false_eq_true, upc] at h95 hm95
                      refine Z_iload3 hk dX9_serves_95 ?_
                      refine Z_aload0 hk dX9_serves_96 ?_
                      refine Z_getI hk fl_9_646 dX9_serves_97 ob_48.1 ob_48.2.1 ob_48.2.2.1 ob_48.2.2.2 ft_9_108 (fun v97 e97 a97 b97 => ?_)
                      try simp only [f95_0, e1, e8, e23, e39, e82, and_true, true_and, or_true, true_or, implies_true, upn, reduceIte, Nat.reduceEqDiff, ne_eq, not_false_eq_true, upc] at e97
                      refine Z_icmp_ge hk (tgt := 130) dX9_serves_100 (by decide) (by omega) (by omega) (by omega) (by omega) (fun h100 => ?_) (fun h100 => ?_)
                      · refine Z_aload0 hk dX9_serves_130 ?_
                        refine Z_dup1 hk rfl dX9_serves_131 ?_
                        refine Z_getI hk fl_9_649 dX9_serves_132 ob_48.1 ob_48.2.1 ob_48.2.2.1 ob_48.2.2.2 ft_9_109 (fun v132 e132 a132 b132 => ?_)
                        try simp only [f95_0, e1, e8, e23, e39, e82, e97, and_true, true_and, or_true, true_or, implies_true, upn, reduceIte, Nat.reduceEqDiff, ne_eq, not_false_eq_true, upc] at e132
                        refine Z_iconst hk dX9_serves_135 ?_
                        refine Z_iadd hk dX9_serves_136 ?_
                        refine Z_putI hk hA fl_9_649 dX9_serves_137 ob_48.1 ob_48.2.1 ob_48.2.2.1 ob_48.2.2.2 ft_9_109 (by omega) (by omega) ?_
                        refine Z_nm (fun m137 em137 => ?_)
                        refine Z_aload0 hk dX9_serves_140 ?_
                        refine Z_aload0 hk dX9_serves_141 ?_
                        refine Z_getI hk fl_9_646 dX9_serves_142 ob_48.1 ob_48.2.1 ob_48.2.2.1 ob_48.2.2.2 ft_9_108 (fun v142 e142 a142 b142 => ?_)
                        try simp only [em137, f95_0, e1, e8, e23, e39, e82, e97, e132, and_true, true_and, or_true, true_or, implies_true, upn, reduceIte, Nat.reduceEqDiff, ne_eq, not_false_eq_true, upc] at e142
                        refine Z_aload0 hk dX9_serves_145 ?_
                        refine Z_getI hk fl_9_649 dX9_serves_146 ob_48.1 ob_48.2.1 ob_48.2.2.1 ob_48.2.2.2 ft_9_109 (fun v146 e146 a146 b146 => ?_)
                        try simp only [em137, f95_0, e1, e8, e23, e39, e82, e97, e132, e142, and_true, true_and, or_true, true_or, implies_true, upn, reduceIte, Nat.reduceEqDiff, ne_eq, not_false_eq_true, upc] at e146
                        refine Z_Vi hk (c_X9_uneven κ.2.1 δ ad _ hA v142 v146 (by (try simp only [em137, f95_0, and_true, true_and, or_true, true_or, implies_true, upn, reduceIte, Nat.reduceEqDiff, ne_eq, not_false_eq_true, upc]) <;> (omega)) (by ((try simp only [em137, f95_0, e1, e8, e23, e39, e82, e97, e132, e142, e146, and_true, true_and, or_true, true_or, implies_true, upn, reduceIte, Nat.reduceEqDiff, ne_eq, not_false_eq_true, upc, upc]); exact h95.2))) ov_X9_uneven ml_X9_643 dX9_serves_149 rfl ⟨by decide, by decide⟩ ob_48.1 (by decide) (by decide) rfl (Nat.le_of_ble_eq_true rfl) (fun r149 m149 p149 => ?_)
                        obtain ⟨p149, f149_0⟩ := p149
                        try simp only [f149_0, em137, f95_0, e1, e8, e23, e39, e82, e97, e132, e142, e146, and_true, true_and, or_true, true_or, implies_true, upn, reduceIte, Nat.reduceEqDiff, ne_eq, not_false_eq_true, upc] at p149
                        exact Z_iret hk hA hQ dX9_serves_152 ⟨rfl, rfl, _, rfl, (by exact ⟨(by (try simp only [f149_0, em137, f95_0, and_true, true_and, or_true, true_or, implies_true, upn, reduceIte, Nat.reduceEqDiff, ne_eq, not_false_eq_true, upc]) <;> (omega)), (by intro c k0 k1 k2 k3; simp only [f149_0, em137, f95_0, upc, upn, k0, k1, k2, k3, reduceIte, Nat.reduceEqDiff, ne_eq, not_false_eq_true]), (by intro i k0; simp only [f149_0, em137, f95_0, upc, upn, k0, reduceIte, Nat.reduceEqDiff, ne_eq, not_false_eq_true]), (by (try simp only [f149_0, em137, f95_0, e1, e8, e23, e39, e82, e97, e132, e142, e146, and_true, true_and, or_true, true_or, implies_true, upn, reduceIte, Nat.reduceEqDiff, ne_eq, not_false_eq_true, upc, upc]); first | exact h95.2 | exact q1)⟩)⟩
                      · refine Z_aload0 hk dX9_serves_103 ?_
                        refine Z_getR hk fl_9_233 dX9_serves_104 ob_48.1 ob_48.2.1 ob_48.2.2.1 ob_48.2.2.2 ft_9_110 rs_48_110 ?_
                        refine Z_iconst hk dX9_serves_107 ?_
                        refine Z_aload0 hk dX9_serves_108 ?_
                        refine Z_getI hk fl_9_649 dX9_serves_109 ob_48.1 ob_48.2.1 ob_48.2.2.1 ob_48.2.2.2 ft_9_109 (fun v109 e109 a109 b109 => ?_)
                        try simp only [f95_0, e1, e8, e23, e39, e82, e97, and_true, true_and, or_true, true_or, implies_true, upn, reduceIte, Nat.reduceEqDiff, ne_eq, not_false_eq_true, upc] at e109
                        refine Z_imul hk dX9_serves_112 ?_
                        refine Z_iload3 hk dX9_serves_113 ?_
                        refine Z_iadd hk dX9_serves_114 ?_
                        refine Z_iload1 hk dX9_serves_115 ?_
                        refine Z_iconst hk dX9_serves_116 ?_
                        refine Z_iload3 hk dX9_serves_117 ?_
                        refine Z_imul hk dX9_serves_118 ?_
                        refine Z_ishr hk dX9_serves_119 (fun v119 e119 a119 b119 => ?_)
                        refine Z_bipush hk dX9_serves_120 (by decide) ?_
                        refine Z_iand hk dX9_serves_122 (fun v122 e122 a122 b122 => ?_)
                        have g122 := and_mask (Int32.ofInt v119) 4 (m := 15) (by decide +kernel) (by decide)
                        rw [← e122] at g122
                        have g123 := h37.2 x3_95.toNat (by omega)
                        rw [show ((x3_95.toNat : Nat) : Int) = x3_95 from by omega, ← e119, ← e122] at g123
                        refine Z_iast hk hA dX9_serves_123 ar_118.1 ar_118.2.1 ar_118.2.2 (by omega) (by omega) (by omega) (by omega) ?_
                        refine Z_nm (fun m123 em123 => ?_)
                        refine Z_iinc3 hk rfl (by decide) dX9_serves_124 ?_
                        refine Z_goto hk (tgt := 95) dX9_serves_127 (by decide) ?_
                        exact ih95 _ _ (by exact ⟨(by (exact ⟨by omega, by simp only [em123, f95_0, e1, e8, e23, e39, e82, e97, e109, and_true, true_and, or_true, true_or, implies_true, upn, reduceIte, Nat.reduceEqDiff, ne_eq, not_false_eq_true, upc, upc]; exact h95.2.put (by omega)⟩)), (by intro c k0; simp only [em123, f95_0, upc, upn, k0, reduceIte, Nat.reduceEqDiff, ne_eq, not_false_eq_true])⟩) (by (try simp only [em123, f95_0, and_true, true_and, or_true, true_or, implies_true, upn, reduceIte, Nat.reduceEqDiff, ne_eq, not_false_eq_true, upc]) <;> (omega))
                  refine Z_istore3 hk rfl (by decide) dX9_serves_94 ?_
                  exact J95 ((((M 48 108) - 0) : Int).toNat + 1) _ _ (by exact ⟨(by (exact ⟨by omega, q1⟩)), (by intro c k0; rfl)⟩) (by omega)
                · refine Z_iconst hk dX9_serves_91 ?_
                  exact Z_iret hk hA hQ dX9_serves_92 ⟨rfl, rfl, _, rfl, (by exact ⟨(by (omega)), (by intro c k0 k1 k2 k3; rfl), (by intro i k0; rfl), (by (try simp only [e1, e8, e23, e39, e82, and_true, true_and, or_true, true_or, implies_true, upn, reduceIte, Nat.reduceEqDiff, ne_eq, not_false_eq_true, upc, upc]); first | exact h95.2 | exact q1)⟩)⟩
              · refine Z_iload1 hk dX9_serves_45 ?_
                refine Z_iconst hk dX9_serves_46 ?_
                refine Z_iload3 hk dX9_serves_47 ?_
                refine Z_imul hk dX9_serves_48 ?_
                refine Z_ishr hk dX9_serves_49 (fun v49 e49 a49 b49 => ?_)
                refine Z_bipush hk dX9_serves_50 (by decide) ?_
                refine Z_iand hk dX9_serves_52 (fun v52 e52 a52 b52 => ?_)
                refine Z_istore4 hk rfl (by decide) dX9_serves_53 ?_
                refine Z_iload4 hk dX9_serves_55 ?_
                refine Z_aload0 hk dX9_serves_57 ?_
                refine Z_getI hk fl_9_646 dX9_serves_58 ob_48.1 ob_48.2.1 ob_48.2.2.1 ob_48.2.2.2 ft_9_108 (fun v58 e58 a58 b58 => ?_)
                try simp only [e1, e8, e23, e39, and_true, true_and, or_true, true_or, implies_true, upn, reduceIte, Nat.reduceEqDiff, ne_eq, not_false_eq_true, upc] at e58
                refine Z_icmp_lt hk (tgt := 66) dX9_serves_61 (by decide) (by omega) (by omega) (by omega) (by omega) (fun h61 => ?_) (fun h61 => ?_)
                · refine Z_iload2 hk dX9_serves_66 ?_
                  refine Z_iconst hk dX9_serves_67 ?_
                  refine Z_iload4 hk dX9_serves_68 ?_
                  refine Z_ishl hk dX9_serves_70 (fun v70 e70 a70 b70 => ?_)
                  refine Z_ior hk dX9_serves_71 (fun v71 e71 a71 b71 => ?_)
                  refine Z_istore2 hk rfl (by decide) dX9_serves_72 ?_
                  refine Z_iinc3 hk rfl (by decide) dX9_serves_73 ?_
                  refine Z_goto hk (tgt := 37) dX9_serves_76 (by decide) ?_
                  refine Z_drop4 ?_
                  exact ih37 _ _ (by refine ⟨by omega, fun j hj => ?_⟩; by_cases e : (j : Int) = x3_37; (rw [e, ← e49, ← e52]; omega); exact h37.2 j (by omega)) (by (omega))
                · refine Z_iconst hk dX9_serves_64 ?_
                  exact Z_iret hk hA hQ dX9_serves_65 ⟨rfl, rfl, _, rfl, (by exact ⟨(by (omega)), (by intro c k0 k1 k2 k3; rfl), (by intro i k0; rfl), (by (try simp only [e1, e8, e23, e39, e58, and_true, true_and, or_true, true_or, implies_true, upn, reduceIte, Nat.reduceEqDiff, ne_eq, not_false_eq_true, upc, upc]); first | exact h95.2 | exact q1)⟩)⟩
          refine Z_istore3 hk rfl (by decide) dX9_serves_36 ?_
          exact J37 ((((M 48 108) - 0) : Int).toNat + 1) _ _ (by exact ⟨by omega, fun j hj => by omega⟩) (by omega)
        · refine Z_iconst hk dX9_serves_31 ?_
          exact Z_iret hk hA hQ dX9_serves_32 ⟨rfl, rfl, _, rfl, (by exact ⟨(by (omega)), (by intro c k0 k1 k2 k3; rfl), (by intro i k0; rfl), (by (try simp only [e1, e8, e23, and_true, true_and, or_true, true_or, implies_true, upn, reduceIte, Nat.reduceEqDiff, ne_eq, not_false_eq_true, upc, upc]); first | exact h95.2 | exact q1)⟩)⟩
set_option maxRecDepth 10000 in
theorem c_X9_all (l : Launch) (δ : Dp) (ad : Nat → Nat) (M : Mem) (hA : okA δ ad) (w : Int) (q0 : 0 ≤ (M 48 65) ∧ (M 48 65) ≤ 6 ∧ 0 ≤ (M 48 66) ∧ (M 48 66) ≤ 4 ∧ -1 ≤ (M 48 76) ∧ (M 48 76) ≤ 5 ∧ 0 ≤ (M 48 77) ∧ (M 48 77) ≤ 8 ∧ 0 ≤ (M 48 84) ∧ (M 48 84) ≤ 250 ∧ -1 ≤ (M 48 91) ∧ (M 48 91) ≤ (M 48 84)) (i_w : -2147483648 ≤ w ∧ w ≤ 2147483647) : Mi l δ yX9_all cX9_all 4 (some (.int)) 1 20 ad rs [.ref (ad 48), iv w] M (fun r M' => M = M' ∧ (True)) := by
  refine Mg.of (rm := rmN 1 20) (by decide) (Nat.le_of_ble_eq_true rfl) fun κ _ hk _ => ?_
  generalize hQ : Qg κ δ 121 (rmN 1 20).cells (rmN 1 20).slots _ = Q
  show Zj κ δ ad rs Q 4 (121, 0, 0) 0 [some (.ref (ad 48)), some (iv w), none, none] [] M
  refine Z_iconst hk dX9_all_0 ?_
  refine Z_istore2 hk rfl (by decide) dX9_all_1 ?_
  refine Z_iload1 hk dX9_all_2 ?_
  rcases (show (w < 0 ∨ 6 < w) ∨ w = 0 ∨ w = 1 ∨ w = 2 ∨ w = 3 ∨ w = 4 ∨ w = 5 ∨ w = 6 from by omega) with h3 | h3 | h3 | h3 | h3 | h3 | h3 | h3
  · refine Z_tableOut hk dX9_all_3 (tgt := 109) (by decide) (by omega) (by omega) h3 ?_
    refine Z_iconst hk dX9_all_109 ?_
    exact Z_iret hk hA hQ dX9_all_110 ⟨rfl, rfl, _, rfl, (by exact ⟨rfl, (by trivial)⟩)⟩
  · refine Z_tableIn hk dX9_all_3 h3 (by decide) (by decide) (by decide) (by decide) (off := 41) rfl (tgt := 44) (by decide) ?_
    refine Z_aload0 hk dX9_all_44 ?_
    refine Z_getI hk fl_9_433 dX9_all_45 ob_48.1 ob_48.2.1 ob_48.2.2.1 ob_48.2.2.2 ft_9_65 (fun v45 e45 a45 b45 => ?_)
    exact Z_iret hk hA hQ dX9_all_48 ⟨rfl, rfl, _, rfl, (by exact ⟨rfl, (by trivial)⟩)⟩
  · refine Z_tableIn hk dX9_all_3 h3 (by decide) (by decide) (by decide) (by decide) (off := 46) rfl (tgt := 49) (by decide) ?_
    refine Z_aload0 hk dX9_all_49 ?_
    refine Z_getI hk fl_9_436 dX9_all_50 ob_48.1 ob_48.2.1 ob_48.2.2.1 ob_48.2.2.2 ft_9_66 (fun v50 e50 a50 b50 => ?_)
    exact Z_iret hk hA hQ dX9_all_53 ⟨rfl, rfl, _, rfl, (by exact ⟨rfl, (by trivial)⟩)⟩
  · refine Z_tableIn hk dX9_all_3 h3 (by decide) (by decide) (by decide) (by decide) (off := 51) rfl (tgt := 54) (by decide) ?_
    refine Z_aload0 hk dX9_all_54 ?_
    refine Z_getI hk fl_9_442 dX9_all_55 ob_48.1 ob_48.2.1 ob_48.2.2.1 ob_48.2.2.2 ft_9_77 (fun v55 e55 a55 b55 => ?_)
    exact Z_iret hk hA hQ dX9_all_58 ⟨rfl, rfl, _, rfl, (by exact ⟨rfl, (by trivial)⟩)⟩
  · refine Z_tableIn hk dX9_all_3 h3 (by decide) (by decide) (by decide) (by decide) (off := 56) rfl (tgt := 59) (by decide) ?_
    refine Z_aload0 hk dX9_all_59 ?_
    refine Z_getI hk fl_9_445 dX9_all_60 ob_48.1 ob_48.2.1 ob_48.2.2.1 ob_48.2.2.2 ft_9_84 (fun v60 e60 a60 b60 => ?_)
    exact Z_iret hk hA hQ dX9_all_63 ⟨rfl, rfl, _, rfl, (by exact ⟨rfl, (by trivial)⟩)⟩
  · refine Z_tableIn hk dX9_all_3 h3 (by decide) (by decide) (by decide) (by decide) (off := 61) rfl (tgt := 64) (by decide) ?_
    refine Z_aload0 hk dX9_all_64 ?_
    refine Z_Vi hk (c_X9_now κ.2.1 δ ad _ hA  ) ov_X9_now ml_X9_489 dX9_all_65 rfl ⟨by decide, by decide⟩ ob_48.1 (by decide) (by decide) rfl (Nat.le_of_ble_eq_true rfl) (fun r65 m65 p65 => ?_)
    obtain ⟨rfl, p65⟩ := p65
    exact Z_iret hk hA hQ dX9_all_68 ⟨rfl, rfl, _, rfl, (by exact ⟨rfl, (by trivial)⟩)⟩
  · refine Z_tableIn hk dX9_all_3 h3 (by decide) (by decide) (by decide) (by decide) (off := 66) rfl (tgt := 69) (by decide) ?_
    refine Z_aload0 hk dX9_all_69 ?_
    refine Z_getZ hk fl_9_448 dX9_all_70 ob_48.1 ob_48.2.1 ob_48.2.2.1 ob_48.2.2.2 ft_9_92 (fun v70 e70 a70 b70 => ?_)
    refine Z_if_eq hk (tgt := 80) dX9_all_73 (by decide) (by omega) (by omega) (fun h73 => ?_) (fun h73 => ?_)
    · refine Z_iconst hk dX9_all_80 ?_
      exact Z_iret hk hA hQ dX9_all_81 ⟨rfl, rfl, _, rfl, (by exact ⟨rfl, (by trivial)⟩)⟩
    · refine Z_iconst hk dX9_all_76 ?_
      refine Z_goto hk (tgt := 81) dX9_all_77 (by decide) ?_
      exact Z_iret hk hA hQ dX9_all_81 ⟨rfl, rfl, _, rfl, (by exact ⟨rfl, (by trivial)⟩)⟩
  · refine Z_tableIn hk dX9_all_3 h3 (by decide) (by decide) (by decide) (by decide) (off := 79) rfl (tgt := 82) (by decide) ?_
    refine Z_iconst hk dX9_all_82 ?_
    have J84 : ∀ (n : Nat) (x2_84 : Int) (x3_84 : Int), (0 ≤ x3_84 ∧ x3_84 ≤ (M 48 66) ∧ -2147483648 ≤ x2_84 ∧ x2_84 ≤ 2147483647) → ((M 48 66) - x3_84) < (n : Int) → Zj κ δ ad rs Q 4 (121, 0, 0) 84 [some (.ref (ad 48)), some (iv w), some (iv x2_84), some (iv x3_84)] [] M := by
      intro n
      induction n with
      | zero => intro x2_84 x3_84 h84 hm84; exfalso; omega
      | succ n ih84 =>
        intro x2_84 x3_84 h84 hm84
        refine Z_iload3 hk dX9_all_84 ?_
        refine Z_aload0 hk dX9_all_85 ?_
        refine Z_getI hk fl_9_436 dX9_all_86 ob_48.1 ob_48.2.1 ob_48.2.2.1 ob_48.2.2.2 ft_9_66 (fun v86 e86 a86 b86 => ?_)
        refine Z_icmp_ge hk (tgt := 107) dX9_all_89 (by decide) (by omega) (by omega) (by omega) (by omega) (fun h89 => ?_) (fun h89 => ?_)
        · refine Z_iload2 hk dX9_all_107 ?_
          exact Z_iret hk hA hQ dX9_all_108 ⟨rfl, rfl, _, rfl, (by exact ⟨rfl, (by trivial)⟩)⟩
        · refine Z_iload2 hk dX9_all_92 ?_
          refine Z_aload0 hk dX9_all_93 ?_
          refine Z_getR hk fl_9_161 dX9_all_94 ob_48.1 ob_48.2.1 ob_48.2.2.1 ob_48.2.2.2 ft_9_70 rs_48_70 ?_
          refine Z_iload3 hk dX9_all_97 ?_
          refine Z_iald hk dX9_all_98 ar_97.1 ar_97.2.1 ar_97.2.2 (by omega) (by omega) (fun v98 e98 a98 b98 => ?_)
          try simp only [e86, and_true, true_and, or_true, true_or, implies_true, upn, reduceIte, Nat.reduceEqDiff, ne_eq, not_false_eq_true, upc] at e98
          refine Z_iadd hk dX9_all_99 ?_
          refine Z_wI (fun w99 a99w b99w g99w => ?_)
          refine Z_istore2 hk rfl (by decide) dX9_all_100 ?_
          refine Z_iinc3 hk rfl (by decide) dX9_all_101 ?_
          refine Z_goto hk (tgt := 84) dX9_all_104 (by decide) ?_
          exact ih84 _ _ (by omega) (by (omega))
    refine Z_istore3 hk rfl (by decide) dX9_all_83 ?_
    exact J84 ((((M 48 66) - 0) : Int).toNat + 1) _ _ (by omega) (by omega)
