/-- which act holds a score: none, or one that is a score -/
def SA (n : Int) (K f : Nat → Int) : Prop := ∀ j : Nat, j < 1800 → f j = 0 ∨ (1 ≤ f j ∧ f j ≤ n ∧ K (f j).toNat = 2)
def LH (n : Int) (lo hi : Nat → Int) : Prop := ∀ j : Nat, (j : Int) < n → 0 ≤ lo j ∧ lo j ≤ 1000 ∧ -1 ≤ hi j ∧ hi j ≤ 100
set_option maxRecDepth 10000 in
theorem c_X9_scoreAct (l : Launch) (δ : Dp) (ad : Nat → Nat) (M : Mem) (hA : okA δ ad) (k : Int) (s : Int) (p : Int) (q0 : 0 ≤ k ∧ k ≤ 29 ∧ 0 ≤ s ∧ s ≤ 9 ∧ 0 ≤ p ∧ p ≤ 5) (q1 : 0 ≤ (M 48 84) ∧ (M 48 84) ≤ 250) (q3 : SA (M 48 84) (M 104) (M 113)) : Mi l δ yX9_scoreAct cX9_scoreAct 5 (some (.int)) 0 0 ad rs [.ref (ad 48), iv k, iv s, iv p] M (fun r M' => M = M' ∧ (r = -1 ∨ (1 ≤ r ∧ r ≤ (M 48 84) ∧ M 104 r.toNat = 2))) := by
  refine Mg.of (rm := rmN 0 0) (by decide) (Nat.le_of_ble_eq_true rfl) fun κ _ hk _ => ?_
  generalize hQ : Qg κ δ 121 (rmN 0 0).cells (rmN 0 0).slots _ = Q
  show Zj κ δ ad rs Q 5 (121, 0, 0) 0 [some (.ref (ad 48)), some (iv k), some (iv s), some (iv p), none] [] M
  refine Z_aload0 hk dX9_scoreAct_0 ?_
  refine Z_getR hk fl_9_218 dX9_scoreAct_1 ob_48.1 ob_48.2.1 ob_48.2.2.1 ob_48.2.2.2 ft_9_101 rs_48_101 ?_
  refine Z_bipush hk dX9_scoreAct_4 (by decide) ?_
  refine Z_iload1 hk dX9_scoreAct_6 ?_
  refine Z_imul hk dX9_scoreAct_7 ?_
  refine Z_bipush hk dX9_scoreAct_8 (by decide) ?_
  refine Z_iload2 hk dX9_scoreAct_10 ?_
  refine Z_imul hk dX9_scoreAct_11 ?_
  refine Z_iadd hk dX9_scoreAct_12 ?_
  refine Z_iload3 hk dX9_scoreAct_13 ?_
  refine Z_iadd hk dX9_scoreAct_14 ?_
  refine Z_iald hk dX9_scoreAct_15 ar_113.1 ar_113.2.1 ar_113.2.2 (by omega) (by omega) (fun v15 e15 a15 b15 => ?_)
  have g15 := q3 (60 * k + 6 * s + p).toNat (by omega)
  rw [← e15] at g15
  refine Z_istore4 hk rfl (by decide) dX9_scoreAct_16 ?_
  refine Z_iload4 hk dX9_scoreAct_18 ?_
  refine Z_if_ne hk (tgt := 27) dX9_scoreAct_20 (by decide) (by omega) (by omega) (fun h20 => ?_) (fun h20 => ?_)
  · refine Z_iload4 hk dX9_scoreAct_27 ?_
    exact Z_iret hk hA hQ dX9_scoreAct_29 ⟨rfl, rfl, _, rfl, (by exact ⟨rfl, (by omega)⟩)⟩
  · refine Z_iconst hk dX9_scoreAct_23 ?_
    refine Z_goto hk (tgt := 29) dX9_scoreAct_24 (by decide) ?_
    exact Z_iret hk hA hQ dX9_scoreAct_29 ⟨rfl, rfl, _, rfl, (by exact ⟨rfl, (by omega)⟩)⟩
set_option maxRecDepth 10000 in
theorem c_X9_floor1 (l : Launch) (δ : Dp) (ad : Nat → Nat) (M : Mem) (hA : okA δ ad) (v : Int) (b : Int) (q0 : b ≠ 0) (i_v : -9223372036854775808 ≤ v ∧ v ≤ 9223372036854775807) (i_b : -9223372036854775808 ≤ b ∧ b ≤ 9223372036854775807) : Mj l δ yX9_floor1 cX9_floor1 6 (some (.long)) 0 0 ad rs [jv v, jv b] M (fun r M' => M = M' ∧ (-9223372036854775808 ≤ r ∧ r ≤ 9223372036854775807)) := by
  refine Mg.of (rm := rmN 0 0) (by decide) (Nat.le_of_ble_eq_true rfl) fun κ _ hk _ => ?_
  generalize hQ : Qg κ δ 121 (rmN 0 0).cells (rmN 0 0).slots _ = Q
  show Zj κ δ ad rs Q 6 (121, 0, 0) 0 [some (jv v), none, some (jv b), none, none, none] [] M
  refine Z_lload0 hk dX9_floor1_0 ?_
  refine Z_lload2 hk dX9_floor1_1 ?_
  refine Z_ldiv hk dX9_floor1_2 (by omega) (by omega) (by omega) (by omega) (by omega) ?_
  refine Z_wJ (fun w2 a2w b2w g2w => ?_)
  refine Z_lstore4 hk rfl (by decide) dX9_floor1_3 ?_
  refine Z_lload0 hk dX9_floor1_5 ?_
  refine Z_lload2 hk dX9_floor1_6 ?_
  refine Z_lrem hk dX9_floor1_7 (by omega) (by omega) (by omega) (by omega) (by omega) ?_
  refine Z_wJ (fun w7 a7w b7w g7w => ?_)
  refine Z_lconst0 hk dX9_floor1_8 ?_
  refine Z_lcmp hk dX9_floor1_9 (by omega) (by omega) (by decide) (by decide) (fun v9 e9 => ?_)
  refine Z_if_eq hk (tgt := 26) dX9_floor1_10 (by decide) (by omega) (by omega) (fun h10 => ?_) (fun h10 => ?_)
  · refine Z_lload4 hk dX9_floor1_26 ?_
    exact Z_lret hk hA hQ dX9_floor1_28 ⟨rfl, rfl, _, rfl, (by exact ⟨rfl, (by omega)⟩)⟩
  · refine Z_lload0 hk dX9_floor1_13 ?_
    refine Z_lconst0 hk dX9_floor1_14 ?_
    refine Z_lcmp hk dX9_floor1_15 (by omega) (by omega) (by decide) (by decide) (fun v15 e15 => ?_)
    refine Z_if_ge hk (tgt := 26) dX9_floor1_16 (by decide) (by omega) (by omega) (fun h16 => ?_) (fun h16 => ?_)
    · refine Z_lload4 hk dX9_floor1_26 ?_
      exact Z_lret hk hA hQ dX9_floor1_28 ⟨rfl, rfl, _, rfl, (by exact ⟨rfl, (by omega)⟩)⟩
    · refine Z_lload4 hk dX9_floor1_19 ?_
      refine Z_lconst1 hk dX9_floor1_21 ?_
      refine Z_lsub hk dX9_floor1_22 ?_
      refine Z_wJ (fun w22 a22w b22w g22w => ?_)
      refine Z_goto hk (tgt := 28) dX9_floor1_23 (by decide) ?_
      exact Z_lret hk hA hQ dX9_floor1_28 ⟨rfl, rfl, _, rfl, (by exact ⟨rfl, (by omega)⟩)⟩
set_option maxRecDepth 10000 in
theorem c_X9_scaled (l : Launch) (δ : Dp) (ad : Nat → Nat) (M : Mem) (hA : okA δ ad) (a : Int) (q0 : 1 ≤ a ∧ a ≤ (M 48 84) ∧ M 104 a.toNat = 2) (q1 : 0 ≤ (M 48 84) ∧ (M 48 84) ≤ 250) (q2 : AC (M 48 84) (M 104) (M 105) (M 106) (M 107) (M 108)) (q4 : LH 30 (M 114) (M 115)) : Mi l δ yX9_scaled cX9_scaled 4 (some (.int)) 0 0 ad rs [.ref (ad 48), iv a] M (fun r M' => M = M' ∧ (-2147483648 ≤ r ∧ r ≤ 2147483647)) := by
  refine Mg.of (rm := rmN 0 0) (by decide) (Nat.le_of_ble_eq_true rfl) fun κ _ hk _ => ?_
  generalize hQ : Qg κ δ 121 (rmN 0 0).cells (rmN 0 0).slots _ = Q
  show Zj κ δ ad rs Q 4 (121, 0, 0) 0 [some (.ref (ad 48)), some (iv a), none, none] [] M
  obtain ⟨-, g0, -⟩ := q2 a.toNat (by omega) (by omega)
  have g0 := g0 q0.2.2
  have g1 := q4 (M 106 a.toNat).toNat (by omega)
  refine Z_aload0 hk dX9_scaled_0 ?_
  refine Z_getZ hk fl_9_439 dX9_scaled_1 ob_48.1 ob_48.2.1 ob_48.2.2.1 ob_48.2.2.2 ft_9_75 (fun v1 e1 a1 b1 => ?_)
  refine Z_if_ne hk (tgt := 17) dX9_scaled_4 (by decide) (by omega) (by omega) (fun h4 => ?_) (fun h4 => ?_)
  · refine Z_aload0 hk dX9_scaled_17 ?_
    refine Z_getR hk fl_9_221 dX9_scaled_18 ob_48.1 ob_48.2.1 ob_48.2.2.1 ob_48.2.2.2 ft_9_102 rs_48_102 ?_
    refine Z_aload0 hk dX9_scaled_21 ?_
    refine Z_getR hk fl_9_194 dX9_scaled_22 ob_48.1 ob_48.2.1 ob_48.2.2.1 ob_48.2.2.2 ft_9_87 rs_48_87 ?_
    refine Z_iload1 hk dX9_scaled_25 ?_
    refine Z_iald hk dX9_scaled_26 ar_106.1 ar_106.2.1 ar_106.2.2 (by omega) (by omega) (fun v26 e26 a26 b26 => ?_)
    try simp only [e1, and_true, true_and, or_true, true_or, implies_true, upn, reduceIte, Nat.reduceEqDiff, ne_eq, not_false_eq_true, upc] at e26
    refine Z_iald hk dX9_scaled_27 ar_114.1 ar_114.2.1 ar_114.2.2 (by omega) (by omega) (fun v27 e27 a27 b27 => ?_)
    try simp only [e1, e26, and_true, true_and, or_true, true_or, implies_true, upn, reduceIte, Nat.reduceEqDiff, ne_eq, not_false_eq_true, upc] at e27
    refine Z_istore2 hk rfl (by decide) dX9_scaled_28 ?_
    refine Z_aload0 hk dX9_scaled_29 ?_
    refine Z_getR hk fl_9_224 dX9_scaled_30 ob_48.1 ob_48.2.1 ob_48.2.2.1 ob_48.2.2.2 ft_9_103 rs_48_103 ?_
    refine Z_aload0 hk dX9_scaled_33 ?_
    refine Z_getR hk fl_9_194 dX9_scaled_34 ob_48.1 ob_48.2.1 ob_48.2.2.1 ob_48.2.2.2 ft_9_87 rs_48_87 ?_
    refine Z_iload1 hk dX9_scaled_37 ?_
    refine Z_iald hk dX9_scaled_38 ar_106.1 ar_106.2.1 ar_106.2.2 (by omega) (by omega) (fun v38 e38 a38 b38 => ?_)
    try simp only [e1, e26, e27, and_true, true_and, or_true, true_or, implies_true, upn, reduceIte, Nat.reduceEqDiff, ne_eq, not_false_eq_true, upc] at e38
    refine Z_iald hk dX9_scaled_39 ar_115.1 ar_115.2.1 ar_115.2.2 (by omega) (by omega) (fun v39 e39 a39 b39 => ?_)
    try simp only [e1, e26, e27, e38, and_true, true_and, or_true, true_or, implies_true, upn, reduceIte, Nat.reduceEqDiff, ne_eq, not_false_eq_true, upc] at e39
    refine Z_istore3 hk rfl (by decide) dX9_scaled_40 ?_
    refine Z_iload2 hk dX9_scaled_41 ?_
    refine Z_iload3 hk dX9_scaled_42 ?_
    refine Z_icmp_ne hk (tgt := 52) dX9_scaled_43 (by decide) (by omega) (by omega) (by omega) (by omega) (fun h43 => ?_) (fun h43 => ?_)
    · refine Z_sipush hk dX9_scaled_52 (by decide) ?_
      refine Z_aload0 hk dX9_scaled_55 ?_
      refine Z_getR hk fl_9_197 dX9_scaled_56 ob_48.1 ob_48.2.1 ob_48.2.2.1 ob_48.2.2.2 ft_9_88 rs_48_88 ?_
      refine Z_iload1 hk dX9_scaled_59 ?_
      refine Z_iald hk dX9_scaled_60 ar_107.1 ar_107.2.1 ar_107.2.2 (by omega) (by omega) (fun v60 e60 a60 b60 => ?_)
      try simp only [e1, e26, e27, e38, e39, and_true, true_and, or_true, true_or, implies_true, upn, reduceIte, Nat.reduceEqDiff, ne_eq, not_false_eq_true, upc] at e60
      refine Z_iload2 hk dX9_scaled_61 ?_
      refine Z_isub hk dX9_scaled_62 ?_
      refine Z_imul hk dX9_scaled_63 ?_
      refine Z_iload3 hk dX9_scaled_64 ?_
      refine Z_iload2 hk dX9_scaled_65 ?_
      refine Z_isub hk dX9_scaled_66 ?_
      refine Z_idiv hk dX9_scaled_67 (by omega) (by omega) (by omega) (by omega) (by omega) ?_
      refine Z_wI (fun w67 a67w b67w g67w => ?_)
      exact Z_iret hk hA hQ dX9_scaled_68 ⟨rfl, rfl, _, rfl, (by exact ⟨rfl, (by omega)⟩)⟩
    · refine Z_sipush hk dX9_scaled_46 (by decide) ?_
      refine Z_goto hk (tgt := 68) dX9_scaled_49 (by decide) ?_
      exact Z_iret hk hA hQ dX9_scaled_68 ⟨rfl, rfl, _, rfl, (by exact ⟨rfl, (by omega)⟩)⟩
  · refine Z_bipush hk dX9_scaled_7 (by decide) ?_
    refine Z_aload0 hk dX9_scaled_9 ?_
    refine Z_getR hk fl_9_197 dX9_scaled_10 ob_48.1 ob_48.2.1 ob_48.2.2.1 ob_48.2.2.2 ft_9_88 rs_48_88 ?_
    refine Z_iload1 hk dX9_scaled_13 ?_
    refine Z_iald hk dX9_scaled_14 ar_107.1 ar_107.2.1 ar_107.2.2 (by omega) (by omega) (fun v14 e14 a14 b14 => ?_)
    try simp only [e1, and_true, true_and, or_true, true_or, implies_true, upn, reduceIte, Nat.reduceEqDiff, ne_eq, not_false_eq_true, upc] at e14
    refine Z_imul hk dX9_scaled_15 ?_
    exact Z_iret hk hA hQ dX9_scaled_16 ⟨rfl, rfl, _, rfl, (by exact ⟨rfl, (by omega)⟩)⟩
set_option maxRecDepth 10000 in
theorem c_X9_referenceMean (l : Launch) (δ : Dp) (ad : Nat → Nat) (M : Mem) (hA : okA δ ad) (s : Int) (q0 : 0 ≤ s ∧ s ≤ 9) (qr : -1 ≤ (M 48 76) ∧ (M 48 76) ≤ 5) (q1 : 0 ≤ (M 48 84) ∧ (M 48 84) ≤ 250) (q2 : AC (M 48 84) (M 104) (M 105) (M 106) (M 107) (M 108)) (q3 : SA (M 48 84) (M 104) (M 113)) (q4 : LH 30 (M 114) (M 115)) : Mi l δ yX9_referenceMean cX9_referenceMean 6 (some (.int)) 1 25 ad rs [.ref (ad 48), iv s] M (fun r M' => (-2147483648 ≤ r ∧ r ≤ 2147483647 ∧ 0 ≤ (M' 48 104) ∧ (M' 48 104) ≤ 30) ∧ (∀ c : Nat, c ≠ 48 → M' c = M c) ∧ (∀ i : Nat, i ≠ 104 → M' 48 i = M 48 i)) := by
  refine Mg.of (rm := rmN 1 25) (by decide) (Nat.le_of_ble_eq_true rfl) fun κ _ hk _ => ?_
  generalize hQ : Qg κ δ 121 (rmN 1 25).cells (rmN 1 25).slots _ = Q
  show Zj κ δ ad rs Q 6 (121, 0, 0) 0 [some (.ref (ad 48)), some (iv s), none, none, none, none] [] M
  refine Z_aload0 hk dX9_referenceMean_0 ?_
  refine Z_iconst hk dX9_referenceMean_1 ?_
  refine Z_putI hk hA fl_9_598 dX9_referenceMean_2 ob_48.1 ob_48.2.1 ob_48.2.2.1 ob_48.2.2.2 ft_9_104 (by decide) (by decide) ?_
  refine Z_nm (fun m2 em2 => ?_)
  refine Z_aload0 hk dX9_referenceMean_5 ?_
  refine Z_getI hk fl_9_176 dX9_referenceMean_6 ob_48.1 ob_48.2.1 ob_48.2.2.1 ob_48.2.2.2 ft_9_76 (fun v6 e6 a6 b6 => ?_)
  try simp only [em2, and_true, true_and, or_true, true_or, implies_true, upn, reduceIte, Nat.reduceEqDiff, ne_eq, not_false_eq_true, upc] at e6
  refine Z_iconst hk dX9_referenceMean_9 ?_
  refine Z_icmp_ne hk (tgt := 15) dX9_referenceMean_10 (by decide) (by omega) (by omega) (by decide) (by decide) (fun h10 => ?_) (fun h10 => ?_)
  · refine Z_lconst0 hk dX9_referenceMean_15 ?_
    refine Z_lstore2 hk rfl (by decide) dX9_referenceMean_16 ?_
    refine Z_iconst hk dX9_referenceMean_17 ?_
    have J20 : ∀ (n : Nat) (x2_20 : Int) (x4_20 : Int) (m20 : Mem), ((0 ≤ x4_20 ∧ x4_20 ≤ 30 ∧ 0 ≤ (m20 48 104) ∧ (m20 48 104) ≤ x4_20 ∧ -9223372036854775808 ≤ x2_20 ∧ x2_20 ≤ 9223372036854775807) ∧ (∀ c : Nat, c ≠ 48 → m20 c = m2 c) ∧ (∀ i : Nat, i ≠ 104 → m20 48 i = m2 48 i)) → (30 - x4_20) < (n : Int) → Zj κ δ ad rs Q 6 (121, 0, 0) 20 [some (.ref (ad 48)), some (iv s), some (jv x2_20), none, some (iv x4_20), none] [] m20 := by
      intro n
      induction n with
      | zero => intro x2_20 x4_20 m20 h20 hm20; exfalso; obtain ⟨h20, -⟩ := h20; omega
      | succ n ih20 =>
        intro x2_20 x4_20 m20 h20 hm20
        obtain ⟨h20, f20_0, f20_1⟩ := h20
        try simp only [f20_0, f20_1, em2, and_true, true_and, or_true, true_or, implies_true, upn, reduceIte, Nat.reduceEqDiff, ne_eq, not_false_eq_true, upc] at h20 hm20
        refine Z_iload4 hk dX9_referenceMean_20 ?_
        refine Z_bipush hk dX9_referenceMean_22 (by decide) ?_
        refine Z_icmp_ge hk (tgt := 75) dX9_referenceMean_24 (by decide) (by omega) (by omega) (by decide) (by decide) (fun h24 => ?_) (fun h24 => ?_)
        · refine Z_aload0 hk dX9_referenceMean_75 ?_
          refine Z_getI hk fl_9_598 dX9_referenceMean_76 ob_48.1 ob_48.2.1 ob_48.2.2.1 ob_48.2.2.2 ft_9_104 (fun v76 e76 a76 b76 => ?_)
          try simp only [f20_0, f20_1, em2, e6, and_true, true_and, or_true, true_or, implies_true, upn, reduceIte, Nat.reduceEqDiff, ne_eq, not_false_eq_true, upc] at e76
          refine Z_if_ne hk (tgt := 86) dX9_referenceMean_79 (by decide) (by omega) (by omega) (fun h79 => ?_) (fun h79 => ?_)
          · refine Z_lload2 hk dX9_referenceMean_86 ?_
            refine Z_aload0 hk dX9_referenceMean_87 ?_
            refine Z_getI hk fl_9_598 dX9_referenceMean_88 ob_48.1 ob_48.2.1 ob_48.2.2.1 ob_48.2.2.2 ft_9_104 (fun v88 e88 a88 b88 => ?_)
            try simp only [f20_0, f20_1, em2, e6, e76, and_true, true_and, or_true, true_or, implies_true, upn, reduceIte, Nat.reduceEqDiff, ne_eq, not_false_eq_true, upc] at e88
            refine Z_i2l hk dX9_referenceMean_91 (by omega) (by omega) ?_
            refine Z_Sj hk (c_X9_floor1 κ.2.1 δ ad _ hA x2_20 v88 (by (try simp only [f20_0, f20_1, em2, and_true, true_and, or_true, true_or, implies_true, upn, reduceIte, Nat.reduceEqDiff, ne_eq, not_false_eq_true, upc]) <;> (omega)) (by (try simp only [f20_0, f20_1, em2, and_true, true_and, or_true, true_or, implies_true, upn, reduceIte, Nat.reduceEqDiff, ne_eq, not_false_eq_true, upc]) <;> (omega)) (by (try simp only [f20_0, f20_1, em2, and_true, true_and, or_true, true_or, implies_true, upn, reduceIte, Nat.reduceEqDiff, ne_eq, not_false_eq_true, upc]) <;> (omega))) os_X9_floor1 ml_X9_601 dX9_referenceMean_92 rfl ⟨by decide, by decide⟩ rfl (Nat.le_of_ble_eq_true rfl) (fun r92 m92 p92 => ?_)
            obtain ⟨rfl, p92⟩ := p92
            try simp only [f20_0, f20_1, em2, e6, e76, e88, and_true, true_and, or_true, true_or, implies_true, upn, reduceIte, Nat.reduceEqDiff, ne_eq, not_false_eq_true, upc] at p92
            refine Z_l2i hk dX9_referenceMean_95 ?_
            refine Z_wI (fun w95 a95w b95w g95w => ?_)
            exact Z_iret hk hA hQ dX9_referenceMean_96 ⟨rfl, rfl, _, rfl, (by exact ⟨(by (try simp only [f20_0, f20_1, em2, and_true, true_and, or_true, true_or, implies_true, upn, reduceIte, Nat.reduceEqDiff, ne_eq, not_false_eq_true, upc]) <;> (omega)), (by intro c k0; simp only [f20_0, f20_1, em2, upc, upn, k0, reduceIte, Nat.reduceEqDiff, ne_eq, not_false_eq_true]), (by intro i k0; simp only [f20_0, f20_1, em2, upc, upn, k0, reduceIte, Nat.reduceEqDiff, ne_eq, not_false_eq_true])⟩)⟩
          · refine Z_iconst hk dX9_referenceMean_82 ?_
            refine Z_goto hk (tgt := 96) dX9_referenceMean_83 (by decide) ?_
            exact Z_iret hk hA hQ dX9_referenceMean_96 ⟨rfl, rfl, _, rfl, (by exact ⟨(by (try simp only [f20_0, f20_1, em2, and_true, true_and, or_true, true_or, implies_true, upn, reduceIte, Nat.reduceEqDiff, ne_eq, not_false_eq_true, upc]) <;> (omega)), (by intro c k0; simp only [f20_0, f20_1, em2, upc, upn, k0, reduceIte, Nat.reduceEqDiff, ne_eq, not_false_eq_true]), (by intro i k0; simp only [f20_0, f20_1, em2, upc, upn, k0, reduceIte, Nat.reduceEqDiff, ne_eq, not_false_eq_true])⟩)⟩
        · refine Z_aload0 hk dX9_referenceMean_27 ?_
          refine Z_iload4 hk dX9_referenceMean_28 ?_
          refine Z_iload1 hk dX9_referenceMean_30 ?_
          refine Z_aload0 hk dX9_referenceMean_31 ?_
          refine Z_getI hk fl_9_176 dX9_referenceMean_32 ob_48.1 ob_48.2.1 ob_48.2.2.1 ob_48.2.2.2 ft_9_76 (fun v32 e32 a32 b32 => ?_)
          try simp only [f20_0, f20_1, em2, e6, and_true, true_and, or_true, true_or, implies_true, upn, reduceIte, Nat.reduceEqDiff, ne_eq, not_false_eq_true, upc] at e32
          refine Z_Vi hk (c_X9_scoreAct κ.2.1 δ ad _ hA x4_20 s v32 (by (try simp only [f20_0, f20_1, em2, and_true, true_and, or_true, true_or, implies_true, upn, reduceIte, Nat.reduceEqDiff, ne_eq, not_false_eq_true, upc]) <;> (omega)) (by (try simp only [f20_0, f20_1, em2, and_true, true_and, or_true, true_or, implies_true, upn, reduceIte, Nat.reduceEqDiff, ne_eq, not_false_eq_true, upc]) <;> (omega)) (by (try simp only [f20_0, f20_1, em2, and_true, true_and, or_true, true_or, implies_true, upn, reduceIte, Nat.reduceEqDiff, ne_eq, not_false_eq_true, upc]) <;> (exact q3))) ov_X9_scoreAct ml_X9_591 dX9_referenceMean_35 rfl ⟨by decide, by decide⟩ ob_48.1 (by decide) (by decide) rfl (Nat.le_of_ble_eq_true rfl) (fun r35 m35 p35 => ?_)
          obtain ⟨rfl, p35⟩ := p35
          try simp only [f20_0, f20_1, em2, e6, e32, and_true, true_and, or_true, true_or, implies_true, upn, reduceIte, Nat.reduceEqDiff, ne_eq, not_false_eq_true, upc] at p35
          refine Z_istore5 hk rfl (by decide) dX9_referenceMean_38 ?_
          refine Z_iload5 hk dX9_referenceMean_40 ?_
          refine Z_iconst hk dX9_referenceMean_42 ?_
          have J69 : ∀ (x2_69 : Int) (m69 : Mem), ((0 ≤ (m69 48 104) ∧ (m69 48 104) ≤ x4_20 + 1 ∧ -9223372036854775808 ≤ x2_69 ∧ x2_69 ≤ 9223372036854775807) ∧ (∀ c : Nat, c ≠ 48 → m69 c = m20 c) ∧ (∀ i : Nat, i ≠ 104 → m69 48 i = m20 48 i)) → Zj κ δ ad rs Q 6 (121, 0, 0) 69 [some (.ref (ad 48)), some (iv s), some (jv x2_69), none, some (iv x4_20), some (iv r35)] [] m69 := by
            intro x2_69 m69 h69
            obtain ⟨h69, f69_0, f69_1⟩ := h69
            try simp only [f69_0, f69_1, f20_0, f20_1, em2, and_true, true_and, or_true, true_or, implies_true, upn, reduceIte, Nat.reduceEqDiff, ne_eq, not_false_eq_true, upc] at h69
            refine Z_iinc4 hk rfl (by decide) dX9_referenceMean_69 ?_
            refine Z_goto hk (tgt := 20) dX9_referenceMean_72 (by decide) ?_
            refine Z_drop5 ?_
            exact ih20 _ _ _ (by exact ⟨(by (try simp only [f69_0, f69_1, f20_0, f20_1, em2, and_true, true_and, or_true, true_or, implies_true, upn, reduceIte, Nat.reduceEqDiff, ne_eq, not_false_eq_true, upc]) <;> (omega)), (by intro c k0; simp only [f69_0, f69_1, f20_0, f20_1, em2, upc, upn, k0, reduceIte, Nat.reduceEqDiff, ne_eq, not_false_eq_true]), (by intro i k0; simp only [f69_0, f69_1, f20_0, f20_1, em2, upc, upn, k0, reduceIte, Nat.reduceEqDiff, ne_eq, not_false_eq_true])⟩) (by (try simp only [f69_0, f69_1, f20_0, f20_1, em2, and_true, true_and, or_true, true_or, implies_true, upn, reduceIte, Nat.reduceEqDiff, ne_eq, not_false_eq_true, upc]) <;> (omega))
          refine Z_icmp_ne hk (tgt := 49) dX9_referenceMean_43 (by decide) (by omega) (by omega) (by decide) (by decide) (fun h43 => ?_) (fun h43 => ?_)
          · refine Z_lload2 hk dX9_referenceMean_49 ?_
            refine Z_aload0 hk dX9_referenceMean_50 ?_
            refine Z_iload5 hk dX9_referenceMean_51 ?_
            refine Z_Vi hk (c_X9_scaled κ.2.1 δ ad _ hA r35 (by (try simp only [f20_0, f20_1, em2, and_true, true_and, or_true, true_or, implies_true, upn, reduceIte, Nat.reduceEqDiff, ne_eq, not_false_eq_true, upc]) <;> (omega)) (by (try simp only [f20_0, f20_1, em2, and_true, true_and, or_true, true_or, implies_true, upn, reduceIte, Nat.reduceEqDiff, ne_eq, not_false_eq_true, upc]) <;> (omega)) (by (try simp only [f20_0, f20_1, em2, and_true, true_and, or_true, true_or, implies_true, upn, reduceIte, Nat.reduceEqDiff, ne_eq, not_false_eq_true, upc]) <;> (exact q2)) (by (try simp only [f20_0, f20_1, em2, and_true, true_and, or_true, true_or, implies_true, upn, reduceIte, Nat.reduceEqDiff, ne_eq, not_false_eq_true, upc]) <;> (exact q4))) ov_X9_scaled ml_X9_595 dX9_referenceMean_53 rfl ⟨by decide, by decide⟩ ob_48.1 (by decide) (by decide) rfl (Nat.le_of_ble_eq_true rfl) (fun r53 m53 p53 => ?_)
            obtain ⟨rfl, p53⟩ := p53
            try simp only [f20_0, f20_1, em2, e6, e32, and_true, true_and, or_true, true_or, implies_true, upn, reduceIte, Nat.reduceEqDiff, ne_eq, not_false_eq_true, upc] at p53
            refine Z_i2l hk dX9_referenceMean_56 (by omega) (by omega) ?_
            refine Z_ladd hk dX9_referenceMean_57 ?_
            refine Z_wJ (fun w57 a57w b57w g57w => ?_)
            refine Z_lstore2 hk rfl (by decide) dX9_referenceMean_58 ?_
            refine Z_aload0 hk dX9_referenceMean_59 ?_
            refine Z_dup1 hk rfl dX9_referenceMean_60 ?_
            refine Z_getI hk fl_9_598 dX9_referenceMean_61 ob_48.1 ob_48.2.1 ob_48.2.2.1 ob_48.2.2.2 ft_9_104 (fun v61 e61 a61 b61 => ?_)
            try simp only [f20_0, f20_1, em2, e6, e32, and_true, true_and, or_true, true_or, implies_true, upn, reduceIte, Nat.reduceEqDiff, ne_eq, not_false_eq_true, upc] at e61
            refine Z_iconst hk dX9_referenceMean_64 ?_
            refine Z_iadd hk dX9_referenceMean_65 ?_
            refine Z_putI hk hA fl_9_598 dX9_referenceMean_66 ob_48.1 ob_48.2.1 ob_48.2.2.1 ob_48.2.2.2 ft_9_104 (by omega) (by omega) ?_
            refine Z_nm (fun m66 em66 => ?_)
            exact J69 _ _ (by exact ⟨(by (try simp only [em66, f20_0, f20_1, em2, and_true, true_and, or_true, true_or, implies_true, upn, reduceIte, Nat.reduceEqDiff, ne_eq, not_false_eq_true, upc]) <;> (omega)), (by intro c k0; simp only [em66, f20_0, f20_1, em2, upc, upn, k0, reduceIte, Nat.reduceEqDiff, ne_eq, not_false_eq_true]), (by intro i k0; simp only [em66, f20_0, f20_1, em2, upc, upn, k0, reduceIte, Nat.reduceEqDiff, ne_eq, not_false_eq_true])⟩)
          · refine Z_goto hk (tgt := 69) dX9_referenceMean_46 (by decide) ?_
            exact J69 _ _ (by exact ⟨(by (try simp only [f20_0, f20_1, em2, and_true, true_and, or_true, true_or, implies_true, upn, reduceIte, Nat.reduceEqDiff, ne_eq, not_false_eq_true, upc]) <;> (omega)), (by intro c k0; simp only [f20_0, f20_1, em2, upc, upn, k0, reduceIte, Nat.reduceEqDiff, ne_eq, not_false_eq_true]), (by intro i k0; simp only [f20_0, f20_1, em2, upc, upn, k0, reduceIte, Nat.reduceEqDiff, ne_eq, not_false_eq_true])⟩)
    refine Z_istore4 hk rfl (by decide) dX9_referenceMean_18 ?_
    exact J20 (((30 - 0) : Int).toNat + 1) _ _ _ (by exact ⟨(by (try simp only [em2, and_true, true_and, or_true, true_or, implies_true, upn, reduceIte, Nat.reduceEqDiff, ne_eq, not_false_eq_true, upc]) <;> (omega)), (by intro c k0; simp only [em2, upc, upn, k0, reduceIte, Nat.reduceEqDiff, ne_eq, not_false_eq_true]), (by intro i k0; simp only [em2, upc, upn, k0, reduceIte, Nat.reduceEqDiff, ne_eq, not_false_eq_true])⟩) (by omega)
  · refine Z_iconst hk dX9_referenceMean_13 ?_
    exact Z_iret hk hA hQ dX9_referenceMean_14 ⟨rfl, rfl, _, rfl, (by exact ⟨(by (try simp only [em2, and_true, true_and, or_true, true_or, implies_true, upn, reduceIte, Nat.reduceEqDiff, ne_eq, not_false_eq_true, upc]) <;> (omega)), (by intro c k0; simp only [em2, upc, upn, k0, reduceIte, Nat.reduceEqDiff, ne_eq, not_false_eq_true]), (by intro i k0; simp only [em2, upc, upn, k0, reduceIte, Nat.reduceEqDiff, ne_eq, not_false_eq_true])⟩)⟩
set_option maxRecDepth 10000 in
theorem c_X9_driftOf (l : Launch) (δ : Dp) (ad : Nat → Nat) (M : Mem) (hA : okA δ ad) (s : Int) (q0 : 0 ≤ s ∧ s ≤ 9) (qr : -1 ≤ (M 48 76) ∧ (M 48 76) ≤ 5) (q1 : 0 ≤ (M 48 84) ∧ (M 48 84) ≤ 250) (q2 : AC (M 48 84) (M 104) (M 105) (M 106) (M 107) (M 108)) (q3 : SA (M 48 84) (M 104) (M 113)) (q4 : LH 30 (M 114) (M 115)) : Mi l δ yX9_driftOf cX9_driftOf 5 (some (.int)) 2 50 ad rs [.ref (ad 48), iv s] M (fun r M' => (-2147483648 ≤ r ∧ r ≤ 2147483647) ∧ (∀ c : Nat, c ≠ 48 → M' c = M c) ∧ (∀ i : Nat, i ≠ 104 → M' 48 i = M 48 i)) := by
  refine Mg.of (rm := rmN 2 50) (by decide) (Nat.le_of_ble_eq_true rfl) fun κ _ hk _ => ?_
  generalize hQ : Qg κ δ 121 (rmN 2 50).cells (rmN 2 50).slots _ = Q
  show Zj κ δ ad rs Q 5 (121, 0, 0) 0 [some (.ref (ad 48)), some (iv s), none, none, none] [] M
  refine Z_aload0 hk dX9_driftOf_0 ?_
  refine Z_iload1 hk dX9_driftOf_1 ?_
  refine Z_Vi hk (c_X9_referenceMean κ.2.1 δ ad _ hA s (by (omega)) (by (omega)) (by (omega)) (by (exact q2)) (by (exact q3)) (by (exact q4))) ov_X9_referenceMean ml_X9_605 dX9_driftOf_2 rfl ⟨by decide, by decide⟩ ob_48.1 (by decide) (by decide) rfl (Nat.le_of_ble_eq_true rfl) (fun r2 m2 p2 => ?_)
  obtain ⟨p2, f2_0, f2_1⟩ := p2
  try simp only [f2_0, f2_1, and_true, true_and, or_true, true_or, implies_true, upn, reduceIte, Nat.reduceEqDiff, ne_eq, not_false_eq_true, upc] at p2
  refine Z_istore2 hk rfl (by decide) dX9_driftOf_5 ?_
  refine Z_aload0 hk dX9_driftOf_6 ?_
  refine Z_getI hk fl_9_598 dX9_driftOf_7 ob_48.1 ob_48.2.1 ob_48.2.2.1 ob_48.2.2.2 ft_9_104 (fun v7 e7 a7 b7 => ?_)
  try simp only [f2_0, f2_1, and_true, true_and, or_true, true_or, implies_true, upn, reduceIte, Nat.reduceEqDiff, ne_eq, not_false_eq_true, upc] at e7
  refine Z_if_ne hk (tgt := 15) dX9_driftOf_10 (by decide) (by omega) (by omega) (fun h10 => ?_) (fun h10 => ?_)
  · refine Z_iconst hk dX9_driftOf_15 ?_
    have J17 : ∀ (n : Nat) (x3_17 : Int) (m17 : Mem), ((0 ≤ x3_17 ∧ x3_17 ≤ 10) ∧ (∀ c : Nat, c ≠ 48 → m17 c = m2 c) ∧ (∀ i : Nat, i ≠ 104 → m17 48 i = m2 48 i)) → (10 - x3_17) < (n : Int) → Zj κ δ ad rs Q 5 (121, 0, 0) 17 [some (.ref (ad 48)), some (iv s), some (iv r2), some (iv x3_17), none] [] m17 := by
      intro n
      induction n with
      | zero => intro x3_17 m17 h17 hm17; exfalso; obtain ⟨h17, -⟩ := h17; omega
      | succ n ih17 =>
        intro x3_17 m17 h17 hm17
        obtain ⟨h17, f17_0, f17_1⟩ := h17
        try simp only [f17_0, f17_1, f2_0, f2_1, and_true, true_and, or_true, true_or, implies_true, upn, reduceIte, Nat.reduceEqDiff, ne_eq, not_false_eq_true, upc] at h17 hm17
        refine Z_iload3 hk dX9_driftOf_17 ?_
        refine Z_bipush hk dX9_driftOf_18 (by decide) ?_
        refine Z_icmp_ge hk (tgt := 48) dX9_driftOf_20 (by decide) (by omega) (by omega) (by decide) (by decide) (fun h20 => ?_) (fun h20 => ?_)
        · refine Z_iconst hk dX9_driftOf_48 ?_
          exact Z_iret hk hA hQ dX9_driftOf_49 ⟨rfl, rfl, _, rfl, (by exact ⟨(by (try simp only [f17_0, f17_1, f2_0, f2_1, and_true, true_and, or_true, true_or, implies_true, upn, reduceIte, Nat.reduceEqDiff, ne_eq, not_false_eq_true, upc]) <;> (omega)), (by intro c k0; simp only [f17_0, f17_1, f2_0, f2_1, upc, upn, k0, reduceIte, Nat.reduceEqDiff, ne_eq, not_false_eq_true]), (by intro i k0; simp only [f17_0, f17_1, f2_0, f2_1, upc, upn, k0, reduceIte, Nat.reduceEqDiff, ne_eq, not_false_eq_true])⟩)⟩
        · refine Z_aload0 hk dX9_driftOf_23 ?_
          refine Z_iload3 hk dX9_driftOf_24 ?_
          refine Z_Vi hk (c_X9_referenceMean κ.2.1 δ ad _ hA x3_17 (by (try simp only [f17_0, f17_1, f2_0, f2_1, and_true, true_and, or_true, true_or, implies_true, upn, reduceIte, Nat.reduceEqDiff, ne_eq, not_false_eq_true, upc]) <;> (omega)) (by (try simp only [f17_0, f17_1, f2_0, f2_1, and_true, true_and, or_true, true_or, implies_true, upn, reduceIte, Nat.reduceEqDiff, ne_eq, not_false_eq_true, upc]) <;> (omega)) (by (try simp only [f17_0, f17_1, f2_0, f2_1, and_true, true_and, or_true, true_or, implies_true, upn, reduceIte, Nat.reduceEqDiff, ne_eq, not_false_eq_true, upc]) <;> (omega)) (by (try simp only [f17_0, f17_1, f2_0, f2_1, and_true, true_and, or_true, true_or, implies_true, upn, reduceIte, Nat.reduceEqDiff, ne_eq, not_false_eq_true, upc]) <;> (exact q2)) (by (try simp only [f17_0, f17_1, f2_0, f2_1, and_true, true_and, or_true, true_or, implies_true, upn, reduceIte, Nat.reduceEqDiff, ne_eq, not_false_eq_true, upc]) <;> (exact q3)) (by (try simp only [f17_0, f17_1, f2_0, f2_1, and_true, true_and, or_true, true_or, implies_true, upn, reduceIte, Nat.reduceEqDiff, ne_eq, not_false_eq_true, upc]) <;> (exact q4))) ov_X9_referenceMean ml_X9_605 dX9_driftOf_25 rfl ⟨by decide, by decide⟩ ob_48.1 (by decide) (by decide) rfl (Nat.le_of_ble_eq_true rfl) (fun r25 m25 p25 => ?_)
          obtain ⟨p25, f25_0, f25_1⟩ := p25
          try simp only [f25_0, f25_1, f17_0, f17_1, f2_0, f2_1, e7, and_true, true_and, or_true, true_or, implies_true, upn, reduceIte, Nat.reduceEqDiff, ne_eq, not_false_eq_true, upc] at p25
          refine Z_istore4 hk rfl (by decide) dX9_driftOf_28 ?_
          refine Z_aload0 hk dX9_driftOf_30 ?_
          refine Z_getI hk fl_9_598 dX9_driftOf_31 ob_48.1 ob_48.2.1 ob_48.2.2.1 ob_48.2.2.2 ft_9_104 (fun v31 e31 a31 b31 => ?_)
          try simp only [f25_0, f25_1, f17_0, f17_1, f2_0, f2_1, e7, and_true, true_and, or_true, true_or, implies_true, upn, reduceIte, Nat.reduceEqDiff, ne_eq, not_false_eq_true, upc] at e31
          refine Z_if_le hk (tgt := 42) dX9_driftOf_34 (by decide) (by omega) (by omega) (fun h34 => ?_) (fun h34 => ?_)
          · refine Z_iinc3 hk rfl (by decide) dX9_driftOf_42 ?_
            refine Z_goto hk (tgt := 17) dX9_driftOf_45 (by decide) ?_
            refine Z_drop4 ?_
            exact ih17 _ _ (by exact ⟨(by (try simp only [f25_0, f25_1, f17_0, f17_1, f2_0, f2_1, and_true, true_and, or_true, true_or, implies_true, upn, reduceIte, Nat.reduceEqDiff, ne_eq, not_false_eq_true, upc]) <;> (omega)), (by intro c k0; simp only [f25_0, f25_1, f17_0, f17_1, f2_0, f2_1, upc, upn, k0, reduceIte, Nat.reduceEqDiff, ne_eq, not_false_eq_true]), (by intro i k0; simp only [f25_0, f25_1, f17_0, f17_1, f2_0, f2_1, upc, upn, k0, reduceIte, Nat.reduceEqDiff, ne_eq, not_false_eq_true])⟩) (by (try simp only [f25_0, f25_1, f17_0, f17_1, f2_0, f2_1, and_true, true_and, or_true, true_or, implies_true, upn, reduceIte, Nat.reduceEqDiff, ne_eq, not_false_eq_true, upc]) <;> (omega))
          · refine Z_iload2 hk dX9_driftOf_37 ?_
            refine Z_iload4 hk dX9_driftOf_38 ?_
            refine Z_isub hk dX9_driftOf_40 ?_
            refine Z_wI (fun w40 a40w b40w g40w => ?_)
            exact Z_iret hk hA hQ dX9_driftOf_41 ⟨rfl, rfl, _, rfl, (by exact ⟨(by (try simp only [f25_0, f25_1, f17_0, f17_1, f2_0, f2_1, and_true, true_and, or_true, true_or, implies_true, upn, reduceIte, Nat.reduceEqDiff, ne_eq, not_false_eq_true, upc]) <;> (omega)), (by intro c k0; simp only [f25_0, f25_1, f17_0, f17_1, f2_0, f2_1, upc, upn, k0, reduceIte, Nat.reduceEqDiff, ne_eq, not_false_eq_true]), (by intro i k0; simp only [f25_0, f25_1, f17_0, f17_1, f2_0, f2_1, upc, upn, k0, reduceIte, Nat.reduceEqDiff, ne_eq, not_false_eq_true])⟩)⟩
    refine Z_istore3 hk rfl (by decide) dX9_driftOf_16 ?_
    exact J17 (((10 - 0) : Int).toNat + 1) _ _ (by exact ⟨(by (try simp only [f2_0, f2_1, and_true, true_and, or_true, true_or, implies_true, upn, reduceIte, Nat.reduceEqDiff, ne_eq, not_false_eq_true, upc]) <;> (omega)), (by intro c k0; simp only [f2_0, f2_1, upc, upn, k0, reduceIte, Nat.reduceEqDiff, ne_eq, not_false_eq_true]), (by intro i k0; simp only [f2_0, f2_1, upc, upn, k0, reduceIte, Nat.reduceEqDiff, ne_eq, not_false_eq_true])⟩) (by omega)
  · refine Z_iconst hk dX9_driftOf_13 ?_
    exact Z_iret hk hA hQ dX9_driftOf_14 ⟨rfl, rfl, _, rfl, (by exact ⟨(by (try simp only [f2_0, f2_1, and_true, true_and, or_true, true_or, implies_true, upn, reduceIte, Nat.reduceEqDiff, ne_eq, not_false_eq_true, upc]) <;> (omega)), (by intro c k0; simp only [f2_0, f2_1, upc, upn, k0, reduceIte, Nat.reduceEqDiff, ne_eq, not_false_eq_true]), (by intro i k0; simp only [f2_0, f2_1, upc, upn, k0, reduceIte, Nat.reduceEqDiff, ne_eq, not_false_eq_true])⟩)⟩
set_option maxRecDepth 10000 in
theorem c_X9_meanOf (l : Launch) (δ : Dp) (ad : Nat → Nat) (M : Mem) (hA : okA δ ad) (p : Int) (q0 : 0 ≤ p ∧ p ≤ 5) (q1 : 0 ≤ (M 48 84) ∧ (M 48 84) ≤ 250) (q2 : AC (M 48 84) (M 104) (M 105) (M 106) (M 107) (M 108)) (q3 : SA (M 48 84) (M 104) (M 113)) (q4 : LH 30 (M 114) (M 115)) : Mi l δ yX9_meanOf cX9_meanOf 9 (some (.int)) 1 25 ad rs [.ref (ad 48), iv p] M (fun r M' => M = M' ∧ (-2147483648 ≤ r ∧ r ≤ 2147483647)) := by
  refine Mg.of (rm := rmN 1 25) (by decide) (Nat.le_of_ble_eq_true rfl) fun κ _ hk _ => ?_
  generalize hQ : Qg κ δ 121 (rmN 1 25).cells (rmN 1 25).slots _ = Q
  show Zj κ δ ad rs Q 9 (121, 0, 0) 0 [some (.ref (ad 48)), some (iv p), none, none, none, none, none, none, none] [] M
  refine Z_lconst0 hk dX9_meanOf_0 ?_
  refine Z_lstore2 hk rfl (by decide) dX9_meanOf_1 ?_
  refine Z_iconst hk dX9_meanOf_2 ?_
  refine Z_istore4 hk rfl (by decide) dX9_meanOf_3 ?_
  refine Z_iconst hk dX9_meanOf_5 ?_
  have J8 : ∀ (n : Nat) (x2_8 : Int) (x4_8 : Int) (x5_8 : Int), (0 ≤ x5_8 ∧ x5_8 ≤ 10 ∧ 0 ≤ x4_8 ∧ x4_8 ≤ 30 * x5_8 ∧ -9223372036854775808 ≤ x2_8 ∧ x2_8 ≤ 9223372036854775807) → (10 - x5_8) < (n : Int) → Zj κ δ ad rs Q 9 (121, 0, 0) 8 [some (.ref (ad 48)), some (iv p), some (jv x2_8), none, some (iv x4_8), some (iv x5_8), none, none, none] [] M := by
    intro n
    induction n with
    | zero => intro x2_8 x4_8 x5_8 h8 hm8; exfalso; omega
    | succ n ih8 =>
      intro x2_8 x4_8 x5_8 h8 hm8
      refine Z_iload5 hk dX9_meanOf_8 ?_
      refine Z_bipush hk dX9_meanOf_10 (by decide) ?_
      refine Z_icmp_ge hk (tgt := 82) dX9_meanOf_12 (by decide) (by omega) (by omega) (by decide) (by decide) (fun h12 => ?_) (fun h12 => ?_)
      · refine Z_iload4 hk dX9_meanOf_82 ?_
        refine Z_if_ne hk (tgt := 93) dX9_meanOf_84 (by decide) (by omega) (by omega) (fun h84 => ?_) (fun h84 => ?_)
        · refine Z_lload2 hk dX9_meanOf_93 ?_
          refine Z_iload4 hk dX9_meanOf_94 ?_
          refine Z_i2l hk dX9_meanOf_96 (by omega) (by omega) ?_
          refine Z_Sj hk (c_X9_floor1 κ.2.1 δ ad _ hA x2_8 x4_8 (by (omega)) (by (omega)) (by (omega))) os_X9_floor1 ml_X9_601 dX9_meanOf_97 rfl ⟨by decide, by decide⟩ rfl (Nat.le_of_ble_eq_true rfl) (fun r97 m97 p97 => ?_)
          obtain ⟨rfl, p97⟩ := p97
          refine Z_l2i hk dX9_meanOf_100 ?_
          refine Z_wI (fun w100 a100w b100w g100w => ?_)
          exact Z_iret hk hA hQ dX9_meanOf_101 ⟨rfl, rfl, _, rfl, (by exact ⟨rfl, (by omega)⟩)⟩
        · refine Z_ldc_w hk (n := -1000000) (mem_g (by decide +kernel)) dX9_meanOf_87 ?_
          refine Z_goto hk (tgt := 101) dX9_meanOf_90 (by decide) ?_
          exact Z_iret hk hA hQ dX9_meanOf_101 ⟨rfl, rfl, _, rfl, (by exact ⟨rfl, (by omega)⟩)⟩
      · refine Z_aload0 hk dX9_meanOf_15 ?_
        refine Z_getR hk fl_9_227 dX9_meanOf_16 ob_48.1 ob_48.2.1 ob_48.2.2.1 ob_48.2.2.2 ft_9_105 rs_48_105 ?_
        refine Z_iload5 hk dX9_meanOf_19 ?_
        refine Z_iald hk dX9_meanOf_21 ar_116.1 ar_116.2.1 ar_116.2.2 (by omega) (by omega) (fun v21 e21 a21 b21 => ?_)
        refine Z_istore6 hk rfl (by decide) dX9_meanOf_22 ?_
        refine Z_iconst hk dX9_meanOf_24 ?_
        have J27 : ∀ (n : Nat) (x2_27 : Int) (x4_27 : Int) (x7_27 : Int), (0 ≤ x7_27 ∧ x7_27 ≤ 30 ∧ 0 ≤ x4_27 ∧ x4_27 ≤ 30 * x5_8 + x7_27 ∧ -9223372036854775808 ≤ x2_27 ∧ x2_27 ≤ 9223372036854775807) → (30 - x7_27) < (n : Int) → Zj κ δ ad rs Q 9 (121, 0, 0) 27 [some (.ref (ad 48)), some (iv p), some (jv x2_27), none, some (iv x4_27), some (iv x5_8), some (iv v21), some (iv x7_27), none] [] M := by
          intro n
          induction n with
          | zero => intro x2_27 x4_27 x7_27 h27 hm27; exfalso; omega
          | succ n ih27 =>
            intro x2_27 x4_27 x7_27 h27 hm27
            refine Z_iload7 hk dX9_meanOf_27 ?_
            refine Z_bipush hk dX9_meanOf_29 (by decide) ?_
            refine Z_icmp_ge hk (tgt := 76) dX9_meanOf_31 (by decide) (by omega) (by omega) (by decide) (by decide) (fun h31 => ?_) (fun h31 => ?_)
            · refine Z_iinc5 hk rfl (by decide) dX9_meanOf_76 ?_
              refine Z_goto hk (tgt := 8) dX9_meanOf_79 (by decide) ?_
              refine Z_drop6 ?_
              refine Z_drop7 ?_
              exact ih8 _ _ _ (by omega) (by (omega))
            · refine Z_aload0 hk dX9_meanOf_34 ?_
              refine Z_iload7 hk dX9_meanOf_35 ?_
              refine Z_iload5 hk dX9_meanOf_37 ?_
              refine Z_iload1 hk dX9_meanOf_39 ?_
              refine Z_Vi hk (c_X9_scoreAct κ.2.1 δ ad _ hA x7_27 x5_8 p (by (omega)) (by (omega)) (by (exact q3))) ov_X9_scoreAct ml_X9_591 dX9_meanOf_40 rfl ⟨by decide, by decide⟩ ob_48.1 (by decide) (by decide) rfl (Nat.le_of_ble_eq_true rfl) (fun r40 m40 p40 => ?_)
              obtain ⟨rfl, p40⟩ := p40
              refine Z_istore8 hk rfl (by decide) dX9_meanOf_43 ?_
              refine Z_iload8 hk dX9_meanOf_45 ?_
              refine Z_iconst hk dX9_meanOf_47 ?_
              have J70 : ∀ (x2_70 : Int) (x4_70 : Int), (0 ≤ x4_70 ∧ x4_70 ≤ 30 * x5_8 + x7_27 + 1 ∧ -9223372036854775808 ≤ x2_70 ∧ x2_70 ≤ 9223372036854775807) → Zj κ δ ad rs Q 9 (121, 0, 0) 70 [some (.ref (ad 48)), some (iv p), some (jv x2_70), none, some (iv x4_70), some (iv x5_8), some (iv v21), some (iv x7_27), some (iv r40)] [] M := by
                intro x2_70 x4_70 h70
                refine Z_iinc7 hk rfl (by decide) dX9_meanOf_70 ?_
                refine Z_goto hk (tgt := 27) dX9_meanOf_73 (by decide) ?_
                refine Z_drop8 ?_
                exact ih27 _ _ _ (by omega) (by (omega))
              refine Z_icmp_ne hk (tgt := 54) dX9_meanOf_48 (by decide) (by omega) (by omega) (by decide) (by decide) (fun h48 => ?_) (fun h48 => ?_)
              · refine Z_lload2 hk dX9_meanOf_54 ?_
                refine Z_aload0 hk dX9_meanOf_55 ?_
                refine Z_iload8 hk dX9_meanOf_56 ?_
                refine Z_Vi hk (c_X9_scaled κ.2.1 δ ad _ hA r40 (by (omega)) (by (omega)) (by (exact q2)) (by (exact q4))) ov_X9_scaled ml_X9_595 dX9_meanOf_58 rfl ⟨by decide, by decide⟩ ob_48.1 (by decide) (by decide) rfl (Nat.le_of_ble_eq_true rfl) (fun r58 m58 p58 => ?_)
                obtain ⟨rfl, p58⟩ := p58
                refine Z_iload6 hk dX9_meanOf_61 ?_
                refine Z_isub hk dX9_meanOf_63 ?_
                refine Z_wI (fun w63 a63w b63w g63w => ?_)
                refine Z_i2l hk dX9_meanOf_64 (by omega) (by omega) ?_
                refine Z_ladd hk dX9_meanOf_65 ?_
                refine Z_wJ (fun w65 a65w b65w g65w => ?_)
                refine Z_lstore2 hk rfl (by decide) dX9_meanOf_66 ?_
                refine Z_iinc4 hk rfl (by decide) dX9_meanOf_67 ?_
                exact J70 _ _ (by omega)
              · refine Z_goto hk (tgt := 70) dX9_meanOf_51 (by decide) ?_
                exact J70 _ _ (by omega)
        refine Z_istore7 hk rfl (by decide) dX9_meanOf_25 ?_
        exact J27 (((30 - 0) : Int).toNat + 1) _ _ _ (by omega) (by omega)
  refine Z_istore5 hk rfl (by decide) dX9_meanOf_6 ?_
  exact J8 (((10 - 0) : Int).toNat + 1) _ _ _ (by omega) (by omega)
set_option maxHeartbeats 1000000 in
set_option maxRecDepth 10000 in
theorem c_X9_gathers (l : Launch) (δ : Dp) (ad : Nat → Nat) (M : Mem) (hA : okA δ ad) (q1 : 0 ≤ (M 48 84) ∧ (M 48 84) ≤ 250) (q2 : AC (M 48 84) (M 104) (M 105) (M 106) (M 107) (M 108)) (qr : -1 ≤ (M 48 76) ∧ (M 48 76) ≤ 5) : Mv l δ yX9_gathers cX9_gathers 4 none 3 74 ad rs [.ref (ad 48)] M (fun M' => (True) ∧ (∀ c : Nat, c ≠ 113 → c ≠ 114 → c ≠ 115 → c ≠ 116 → c ≠ 48 → M' c = M c) ∧ (∀ i : Nat, i ≠ 104 → M' 48 i = M 48 i) ∧ (SA (M 48 84) (M 104) (M' 113)) ∧ (LH 30 (M' 114) (M' 115))) := by
  refine Mg.of (rm := rmN 3 74) (by decide) (Nat.le_of_ble_eq_true rfl) fun κ _ hk _ => ?_
  generalize hQ : Qg κ δ 121 (rmN 3 74).cells (rmN 3 74).slots _ = Q
  show Zj κ δ ad rs Q 4 (121, 0, 0) 0 [some (.ref (ad 48)), none, none, none] [] M
  refine Z_iconst hk dX9_gathers_0 ?_
  have J2 : ∀ (n : Nat) (x1_2 : Int) (m2 : Mem), (((0 ≤ x1_2 ∧ x1_2 ≤ 1800) ∧ ∀ j : Nat, (j : Int) < x1_2 → m2 113 j = 0) ∧ (∀ c : Nat, c ≠ 113 → m2 c = M c)) → (1800 - x1_2) < (n : Int) → Zj κ δ ad rs Q 4 (121, 0, 0) 2 [some (.ref (ad 48)), some (iv x1_2), none, none] [] m2 := by
    intro n
    induction n with
    | zero => intro x1_2 m2 h2 hm2; exfalso; obtain ⟨h2, -⟩ := h2; omega
    | succ n ih2 =>
      intro x1_2 m2 h2 hm2
      obtain ⟨h2, f2_0⟩ := h2
      try simp only [f2_0, and_true, true_and, or_true, true_or, implies_true, upn, reduceIte, Nat.reduceEqDiff, ne_eq, not_false_eq_true, upc] at h2 hm2
      refine Z_iload1 hk dX9_gathers_2 ?_
      refine Z_sipush hk dX9_gathers_3 (by decide) ?_
      refine Z_icmp_ge hk (tgt := 22) dX9_gathers_6 (by decide) (by omega) (by omega) (by decide) (by decide) (fun h6 => ?_) (fun h6 => ?_)
      · refine Z_aload0 hk dX9_gathers_22 ?_
        refine Z_getI hk fl_9_445 dX9_gathers_23 ob_48.1 ob_48.2.1 ob_48.2.2.1 ob_48.2.2.2 ft_9_84 (fun v23 e23 a23 b23 => ?_)
        try simp only [f2_0, and_true, true_and, or_true, true_or, implies_true, upn, reduceIte, Nat.reduceEqDiff, ne_eq, not_false_eq_true, upc] at e23
        have J27 : ∀ (n : Nat) (x1_27 : Int) (m27 : Mem), (((0 ≤ x1_27 ∧ x1_27 ≤ (M 48 84)) ∧ SA (M 48 84) (M 104) (m27 113)) ∧ (∀ c : Nat, c ≠ 113 → m27 c = m2 c)) → (x1_27) < (n : Int) → Zj κ δ ad rs Q 4 (121, 0, 0) 27 [some (.ref (ad 48)), some (iv x1_27), none, none] [] m27 := by
          intro n
          induction n with
          | zero => intro x1_27 m27 h27 hm27; exfalso; obtain ⟨h27, -⟩ := h27; omega
          | succ n ih27 =>
            intro x1_27 m27 h27 hm27
            obtain ⟨h27, f27_0⟩ := h27
            try simp only [f27_0, f2_0, and_true, true_and, or_true, true_or, implies_true, upn, reduceIte, Nat.reduceEqDiff, ne_eq, not_false_eq_true, upc] at h27 hm27
            refine Z_iload1 hk dX9_gathers_27 ?_
            refine Z_if_le hk (tgt := 87) dX9_gathers_28 (by decide) (by omega) (by omega) (fun h28 => ?_) (fun h28 => ?_)
            · have h27x := h27
              refine Z_iconst hk dX9_gathers_87 ?_
              have J89 : ∀ (n : Nat) (x1_89 : Int) (m89 : Mem), (((0 ≤ x1_89 ∧ x1_89 ≤ 30) ∧ LH x1_89 (m89 114) (m89 115)) ∧ (∀ c : Nat, c ≠ 114 → c ≠ 115 → m89 c = m27 c)) → (30 - x1_89) < (n : Int) → Zj κ δ ad rs Q 4 (121, 0, 0) 89 [some (.ref (ad 48)), some (iv x1_89), none, none] [] m89 := by
                intro n
                induction n with
                | zero => intro x1_89 m89 h89 hm89; exfalso; obtain ⟨h89, -⟩ := h89; omega
                | succ n ih89 =>
                  intro x1_89 m89 h89 hm89
                  obtain ⟨h89, f89_0⟩ := h89
                  try simp only [f89_0, f27_0, f2_0, and_true, true_and, or_true, true_or, implies_true, upn, reduceIte, Nat.reduceEqDiff, ne_eq, not_false_eq_true, upc] at h89 hm89
                  refine Z_iload1 hk dX9_gathers_89 ?_
                  refine Z_bipush hk dX9_gathers_90 (by decide) ?_
                  refine Z_icmp_ge hk (tgt := 197) dX9_gathers_92 (by decide) (by omega) (by omega) (by decide) (by decide) (fun h92 => ?_) (fun h92 => ?_)
                  · have h89x : LH 30 (m89 114) (m89 115) := fun j hj => h89.2 j (by omega)
                    refine Z_iconst hk dX9_gathers_197 ?_
                    have J199 : ∀ (n : Nat) (x1_199 : Int) (m199 : Mem), ((0 ≤ x1_199 ∧ x1_199 ≤ 10) ∧ (∀ c : Nat, c ≠ 116 → c ≠ 48 → m199 c = m89 c) ∧ (∀ i : Nat, i ≠ 104 → m199 48 i = m89 48 i)) → (10 - x1_199) < (n : Int) → Zj κ δ ad rs Q 4 (121, 0, 0) 199 [some (.ref (ad 48)), some (iv x1_199), none, none] [] m199 := by
                      intro n
                      induction n with
                      | zero => intro x1_199 m199 h199 hm199; exfalso; obtain ⟨h199, -⟩ := h199; omega
                      | succ n ih199 =>
                        intro x1_199 m199 h199 hm199
                        obtain ⟨h199, f199_0, f199_1⟩ := h199
                        try simp only [f199_0, f199_1, f89_0, f27_0, f2_0, and_true, true_and, or_true, true_or, implies_true, upn, reduceIte, Nat.reduceEqDiff, ne_eq, not_false_eq_true, upc] at h199 hm199
                        refine Z_iload1 hk dX9_gathers_199 ?_
                        refine Z_bipush hk dX9_gathers_200 (by decide) ?_
                        refine Z_icmp_ge hk (tgt := 222) dX9_gathers_202 (by decide) (by omega) (by omega) (by decide) (by decide) (fun h202 => ?_) (fun h202 => ?_)
                        · exact Z_vret hk hA hQ dX9_gathers_222 ⟨rfl, rfl, rfl, (by exact ⟨(by (try simp only [f199_0, f199_1, f89_0, f27_0, f2_0, and_true, true_and, or_true, true_or, implies_true, upn, reduceIte, Nat.reduceEqDiff, ne_eq, not_false_eq_true, upc]) <;> (trivial)), (by intro c k0 k1 k2 k3 k4; simp only [f199_0, f199_1, f89_0, f27_0, f2_0, upc, upn, k0, k1, k2, k3, k4, reduceIte, Nat.reduceEqDiff, ne_eq, not_false_eq_true]), (by intro i k0; simp only [f199_0, f199_1, f89_0, f27_0, f2_0, upc, upn, k0, reduceIte, Nat.reduceEqDiff, ne_eq, not_false_eq_true]), (by simp only [f199_0, f199_1, f89_0, f27_0, f2_0, e23, and_true, true_and, or_true, true_or, implies_true, upn, reduceIte, Nat.reduceEqDiff, ne_eq, not_false_eq_true, upc, upc]; exact h27x.2), (by simp only [f199_0, f199_1, f89_0, f27_0, f2_0, e23, and_true, true_and, or_true, true_or, implies_true, upn, reduceIte, Nat.reduceEqDiff, ne_eq, not_false_eq_true, upc, upc]; exact h89x)⟩)⟩
                        · refine Z_aload0 hk dX9_gathers_205 ?_
                          refine Z_getR hk fl_9_227 dX9_gathers_206 ob_48.1 ob_48.2.1 ob_48.2.2.1 ob_48.2.2.2 ft_9_105 rs_48_105 ?_
                          refine Z_iload1 hk dX9_gathers_209 ?_
                          refine Z_aload0 hk dX9_gathers_210 ?_
                          refine Z_iload1 hk dX9_gathers_211 ?_
                          refine Z_Vi hk (c_X9_driftOf κ.2.1 δ ad _ hA x1_199 (by (try simp only [f199_0, f199_1, f89_0, f27_0, f2_0, and_true, true_and, or_true, true_or, implies_true, upn, reduceIte, Nat.reduceEqDiff, ne_eq, not_false_eq_true, upc]) <;> (omega)) (by (try simp only [f199_0, f199_1, f89_0, f27_0, f2_0, and_true, true_and, or_true, true_or, implies_true, upn, reduceIte, Nat.reduceEqDiff, ne_eq, not_false_eq_true, upc]) <;> (omega)) (by (try simp only [f199_0, f199_1, f89_0, f27_0, f2_0, and_true, true_and, or_true, true_or, implies_true, upn, reduceIte, Nat.reduceEqDiff, ne_eq, not_false_eq_true, upc]) <;> (omega)) (by (try simp only [f199_0, f199_1, f89_0, f27_0, f2_0, and_true, true_and, or_true, true_or, implies_true, upn, reduceIte, Nat.reduceEqDiff, ne_eq, not_false_eq_true, upc]) <;> (exact q2)) (by (try simp only [f199_0, f199_1, f89_0, f27_0, f2_0, and_true, true_and, or_true, true_or, implies_true, upn, reduceIte, Nat.reduceEqDiff, ne_eq, not_false_eq_true, upc]) <;> (exact h27x.2)) (by (try simp only [f199_0, f199_1, f89_0, f27_0, f2_0, and_true, true_and, or_true, true_or, implies_true, upn, reduceIte, Nat.reduceEqDiff, ne_eq, not_false_eq_true, upc]) <;> (exact h89x))) ov_X9_driftOf ml_X9_585 dX9_gathers_212 rfl ⟨by decide, by decide⟩ ob_48.1 (by decide) (by decide) rfl (Nat.le_of_ble_eq_true rfl) (fun r212 m212 p212 => ?_)
                          obtain ⟨p212, f212_0, f212_1⟩ := p212
                          try simp only [f212_0, f212_1, f199_0, f199_1, f89_0, f27_0, f2_0, e23, and_true, true_and, or_true, true_or, implies_true, upn, reduceIte, Nat.reduceEqDiff, ne_eq, not_false_eq_true, upc] at p212
                          refine Z_iast hk hA dX9_gathers_215 ar_116.1 ar_116.2.1 ar_116.2.2 (by omega) (by omega) (by omega) (by omega) ?_
                          refine Z_nm (fun m215 em215 => ?_)
                          refine Z_iinc1 hk rfl (by decide) dX9_gathers_216 ?_
                          refine Z_goto hk (tgt := 199) dX9_gathers_219 (by decide) ?_
                          exact ih199 _ _ (by exact ⟨(by (try simp only [em215, f212_0, f212_1, f199_0, f199_1, f89_0, f27_0, f2_0, and_true, true_and, or_true, true_or, implies_true, upn, reduceIte, Nat.reduceEqDiff, ne_eq, not_false_eq_true, upc]) <;> (omega)), (by intro c k0 k1; simp only [em215, f212_0, f212_1, f199_0, f199_1, f89_0, f27_0, f2_0, upc, upn, k0, k1, reduceIte, Nat.reduceEqDiff, ne_eq, not_false_eq_true]), (by intro i k0; simp only [em215, f212_0, f212_1, f199_0, f199_1, f89_0, f27_0, f2_0, upc, upn, k0, reduceIte, Nat.reduceEqDiff, ne_eq, not_false_eq_true])⟩) (by (try simp only [em215, f212_0, f212_1, f199_0, f199_1, f89_0, f27_0, f2_0, and_true, true_and, or_true, true_or, implies_true, upn, reduceIte, Nat.reduceEqDiff, ne_eq, not_false_eq_true, upc]) <;> (omega))
                    refine Z_istore1 hk rfl (by decide) dX9_gathers_198 ?_
                    exact J199 (((10 - 0) : Int).toNat + 1) _ _ (by exact ⟨(by (try simp only [f89_0, f27_0, f2_0, and_true, true_and, or_true, true_or, implies_true, upn, reduceIte, Nat.reduceEqDiff, ne_eq, not_false_eq_true, upc]) <;> (omega)), (by intro c k0 k1; simp only [f89_0, f27_0, f2_0, upc, upn, k0, k1, reduceIte, Nat.reduceEqDiff, ne_eq, not_false_eq_true]), (by intro i k0; simp only [f89_0, f27_0, f2_0, upc, upn, k0, reduceIte, Nat.reduceEqDiff, ne_eq, not_false_eq_true])⟩) (by omega)
                  · refine Z_aload0 hk dX9_gathers_95 ?_
                    refine Z_getR hk fl_9_221 dX9_gathers_96 ob_48.1 ob_48.2.1 ob_48.2.2.1 ob_48.2.2.2 ft_9_102 rs_48_102 ?_
                    refine Z_iload1 hk dX9_gathers_99 ?_
                    refine Z_sipush hk dX9_gathers_100 (by decide) ?_
                    refine Z_iast hk hA dX9_gathers_103 ar_114.1 ar_114.2.1 ar_114.2.2 (by omega) (by omega) (by decide) (by decide) ?_
                    refine Z_nm (fun m103 em103 => ?_)
                    refine Z_aload0 hk dX9_gathers_104 ?_
                    refine Z_getR hk fl_9_224 dX9_gathers_105 ob_48.1 ob_48.2.1 ob_48.2.2.1 ob_48.2.2.2 ft_9_103 rs_48_103 ?_
                    refine Z_iload1 hk dX9_gathers_108 ?_
                    refine Z_iconst hk dX9_gathers_109 ?_
                    refine Z_iast hk hA dX9_gathers_110 ar_115.1 ar_115.2.1 ar_115.2.2 (by omega) (by omega) (by decide) (by decide) ?_
                    refine Z_nm (fun m110 em110 => ?_)
                    refine Z_bipush hk dX9_gathers_111 (by decide) ?_
                    refine Z_iload1 hk dX9_gathers_113 ?_
                    refine Z_imul hk dX9_gathers_114 ?_
                    have J116 : ∀ (n : Nat) (x2_116 : Int) (m116 : Mem), (((60 * x1_89 ≤ x2_116 ∧ x2_116 ≤ 60 * x1_89 + 60) ∧ LH (x1_89 + 1) (m116 114) (m116 115)) ∧ (∀ c : Nat, c ≠ 114 → c ≠ 115 → m116 c = m110 c)) → (60 * x1_89 + 60 - x2_116) < (n : Int) → Zj κ δ ad rs Q 4 (121, 0, 0) 116 [some (.ref (ad 48)), some (iv x1_89), some (iv x2_116), none] [] m116 := by
                      intro n
                      induction n with
                      | zero => intro x2_116 m116 h116 hm116; exfalso; obtain ⟨h116, -⟩ := h116; omega
                      | succ n ih116 =>
                        intro x2_116 m116 h116 hm116
                        obtain ⟨h116, f116_0⟩ := h116
                        try simp only [f116_0, em110, em103, f89_0, f27_0, f2_0, and_true, true_and, or_true, true_or, implies_true, upn, reduceIte, Nat.reduceEqDiff, ne_eq, not_false_eq_true, upc] at h116 hm116
                        refine Z_iload2 hk dX9_gathers_116 ?_
                        refine Z_bipush hk dX9_gathers_117 (by decide) ?_
                        refine Z_iload1 hk dX9_gathers_119 ?_
                        refine Z_imul hk dX9_gathers_120 ?_
                        refine Z_bipush hk dX9_gathers_121 (by decide) ?_
                        refine Z_iadd hk dX9_gathers_123 ?_
                        refine Z_icmp_ge hk (tgt := 191) dX9_gathers_124 (by decide) (by omega) (by omega) (by omega) (by omega) (fun h124 => ?_) (fun h124 => ?_)
                        · refine Z_iinc1 hk rfl (by decide) dX9_gathers_191 ?_
                          refine Z_goto hk (tgt := 89) dX9_gathers_194 (by decide) ?_
                          refine Z_drop2 ?_
                          exact ih89 _ _ (by exact ⟨(by (exact ⟨by omega, h116.2⟩)), (by intro c k0 k1; simp only [f116_0, em110, em103, f89_0, f27_0, f2_0, upc, upn, k0, k1, reduceIte, Nat.reduceEqDiff, ne_eq, not_false_eq_true])⟩) (by (try simp only [f116_0, em110, em103, f89_0, f27_0, f2_0, and_true, true_and, or_true, true_or, implies_true, upn, reduceIte, Nat.reduceEqDiff, ne_eq, not_false_eq_true, upc]) <;> (omega))
                        · refine Z_aload0 hk dX9_gathers_127 ?_
                          refine Z_getR hk fl_9_218 dX9_gathers_128 ob_48.1 ob_48.2.1 ob_48.2.2.1 ob_48.2.2.2 ft_9_101 rs_48_101 ?_
                          refine Z_iload2 hk dX9_gathers_131 ?_
                          refine Z_iald hk dX9_gathers_132 ar_113.1 ar_113.2.1 ar_113.2.2 (by omega) (by omega) (fun v132 e132 a132 b132 => ?_)
                          try simp only [f116_0, em110, em103, f89_0, f27_0, f2_0, e23, and_true, true_and, or_true, true_or, implies_true, upn, reduceIte, Nat.reduceEqDiff, ne_eq, not_false_eq_true, upc] at e132
                          have J185 : ∀ (m185 : Mem), ((LH (x1_89 + 1) (m185 114) (m185 115)) ∧ (∀ c : Nat, c ≠ 114 → c ≠ 115 → m185 c = m116 c)) → Zj κ δ ad rs Q 4 (121, 0, 0) 185 [some (.ref (ad 48)), some (iv x1_89), some (iv x2_116), none] [] m185 := by
                            intro m185 h185
                            obtain ⟨h185, f185_0⟩ := h185
                            try simp only [f185_0, f116_0, em110, em103, f89_0, f27_0, f2_0, and_true, true_and, or_true, true_or, implies_true, upn, reduceIte, Nat.reduceEqDiff, ne_eq, not_false_eq_true, upc] at h185
                            refine Z_iinc2 hk rfl (by decide) dX9_gathers_185 ?_
                            refine Z_goto hk (tgt := 116) dX9_gathers_188 (by decide) ?_
                            exact ih116 _ _ (by exact ⟨(by (exact ⟨by omega, h185⟩)), (by intro c k0 k1; simp only [f185_0, f116_0, em110, em103, f89_0, f27_0, f2_0, upc, upn, k0, k1, reduceIte, Nat.reduceEqDiff, ne_eq, not_false_eq_true])⟩) (by (try simp only [f185_0, f116_0, em110, em103, f89_0, f27_0, f2_0, and_true, true_and, or_true, true_or, implies_true, upn, reduceIte, Nat.reduceEqDiff, ne_eq, not_false_eq_true, upc]) <;> (omega))
                          refine Z_if_ne hk (tgt := 139) dX9_gathers_133 (by decide) (by omega) (by omega) (fun h133 => ?_) (fun h133 => ?_)
                          · have g139 := h27x.2 x2_116.toNat (by omega)
                            have g140 : 1 ≤ v132 ∧ v132 ≤ M 48 84 ∧ M 104 v132.toNat = 2 := by
                              rcases g139 with z | z
                              · omega
                              · rw [← e132] at z; exact z
                            obtain ⟨-, g141, -⟩ := q2 v132.toNat (by omega) (by omega)
                            have g141 := g141 g140.2.2
                            refine Z_aload0 hk dX9_gathers_139 ?_
                            refine Z_getR hk fl_9_197 dX9_gathers_140 ob_48.1 ob_48.2.1 ob_48.2.2.1 ob_48.2.2.2 ft_9_88 rs_48_88 ?_
                            refine Z_aload0 hk dX9_gathers_143 ?_
                            refine Z_getR hk fl_9_218 dX9_gathers_144 ob_48.1 ob_48.2.1 ob_48.2.2.1 ob_48.2.2.2 ft_9_101 rs_48_101 ?_
                            refine Z_iload2 hk dX9_gathers_147 ?_
                            refine Z_iald hk dX9_gathers_148 ar_113.1 ar_113.2.1 ar_113.2.2 (by omega) (by omega) (fun v148 e148 a148 b148 => ?_)
                            try simp only [f116_0, em110, em103, f89_0, f27_0, f2_0, e23, e132, and_true, true_and, or_true, true_or, implies_true, upn, reduceIte, Nat.reduceEqDiff, ne_eq, not_false_eq_true, upc] at e148
                            refine Z_iald hk dX9_gathers_149 ar_107.1 ar_107.2.1 ar_107.2.2 (by omega) (by omega) (fun v149 e149 a149 b149 => ?_)
                            try simp only [f116_0, em110, em103, f89_0, f27_0, f2_0, e23, e132, e148, and_true, true_and, or_true, true_or, implies_true, upn, reduceIte, Nat.reduceEqDiff, ne_eq, not_false_eq_true, upc] at e149
                            refine Z_istore3 hk rfl (by decide) dX9_gathers_150 ?_
                            have g151 : 0 ≤ v149 ∧ v149 ≤ 100 := by
                              rw [e132] at g141
                              omega
                            refine Z_iload3 hk dX9_gathers_151 ?_
                            refine Z_aload0 hk dX9_gathers_152 ?_
                            refine Z_getR hk fl_9_221 dX9_gathers_153 ob_48.1 ob_48.2.1 ob_48.2.2.1 ob_48.2.2.2 ft_9_102 rs_48_102 ?_
                            refine Z_iload1 hk dX9_gathers_156 ?_
                            refine Z_iald hk dX9_gathers_157 ar_114.1 ar_114.2.1 ar_114.2.2 (by omega) (by omega) (fun v157 e157 a157 b157 => ?_)
                            try simp only [f116_0, em110, em103, f89_0, f27_0, f2_0, e23, e132, e148, e149, and_true, true_and, or_true, true_or, implies_true, upn, reduceIte, Nat.reduceEqDiff, ne_eq, not_false_eq_true, upc] at e157
                            have J168 : ∀ (m168 : Mem), ((LH (x1_89 + 1) (m168 114) (m168 115)) ∧ (∀ c : Nat, c ≠ 114 → m168 c = m116 c)) → Zj κ δ ad rs Q 4 (121, 0, 0) 168 [some (.ref (ad 48)), some (iv x1_89), some (iv x2_116), some (iv v149)] [] m168 := by
                              intro m168 h168
                              obtain ⟨h168, f168_0⟩ := h168
                              try simp only [f168_0, f116_0, em110, em103, f89_0, f27_0, f2_0, and_true, true_and, or_true, true_or, implies_true, upn, reduceIte, Nat.reduceEqDiff, ne_eq, not_false_eq_true, upc] at h168
                              refine Z_iload3 hk dX9_gathers_168 ?_
                              refine Z_aload0 hk dX9_gathers_169 ?_
                              refine Z_getR hk fl_9_224 dX9_gathers_170 ob_48.1 ob_48.2.1 ob_48.2.2.1 ob_48.2.2.2 ft_9_103 rs_48_103 ?_
                              refine Z_iload1 hk dX9_gathers_173 ?_
                              refine Z_iald hk dX9_gathers_174 ar_115.1 ar_115.2.1 ar_115.2.2 (by omega) (by omega) (fun v174 e174 a174 b174 => ?_)
                              try simp only [f168_0, f116_0, em110, em103, f89_0, f27_0, f2_0, e23, e132, e148, e149, e157, and_true, true_and, or_true, true_or, implies_true, upn, reduceIte, Nat.reduceEqDiff, ne_eq, not_false_eq_true, upc] at e174
                              refine Z_icmp_le hk (tgt := 185) dX9_gathers_175 (by decide) (by omega) (by omega) (by omega) (by omega) (fun h175 => ?_) (fun h175 => ?_)
                              · refine Z_drop3 ?_
                                exact J185 _ (by exact ⟨(by ((try simp only [f168_0, f116_0, em110, em103, f89_0, f27_0, f2_0, e23, e132, e148, e149, e157, e174, and_true, true_and, or_true, true_or, implies_true, upn, reduceIte, Nat.reduceEqDiff, ne_eq, not_false_eq_true, upc, upc]); exact h168)), (by intro c k0 k1; simp only [f168_0, f116_0, em110, em103, f89_0, f27_0, f2_0, upc, upn, k0, k1, reduceIte, Nat.reduceEqDiff, ne_eq, not_false_eq_true])⟩)
                              · refine Z_aload0 hk dX9_gathers_178 ?_
                                refine Z_getR hk fl_9_224 dX9_gathers_179 ob_48.1 ob_48.2.1 ob_48.2.2.1 ob_48.2.2.2 ft_9_103 rs_48_103 ?_
                                refine Z_iload1 hk dX9_gathers_182 ?_
                                refine Z_iload3 hk dX9_gathers_183 ?_
                                refine Z_iast hk hA dX9_gathers_184 ar_115.1 ar_115.2.1 ar_115.2.2 (by omega) (by omega) (by omega) (by omega) ?_
                                refine Z_nm (fun m184 em184 => ?_)
                                refine Z_drop3 ?_
                                exact J185 _ (by exact ⟨(by (intro j hj; have z := h168 j hj; simp only [em184, f168_0, f116_0, em110, em103, f89_0, f27_0, f2_0, e23, e132, e148, e149, e157, e174, and_true, true_and, or_true, true_or, implies_true, upn, reduceIte, Nat.reduceEqDiff, ne_eq, not_false_eq_true, upc, upc]; split; omega; exact z)), (by intro c k0 k1; simp only [em184, f168_0, f116_0, em110, em103, f89_0, f27_0, f2_0, upc, upn, k0, k1, reduceIte, Nat.reduceEqDiff, ne_eq, not_false_eq_true])⟩)
                            refine Z_icmp_ge hk (tgt := 168) dX9_gathers_158 (by decide) (by omega) (by omega) (by omega) (by omega) (fun h158 => ?_) (fun h158 => ?_)
                            · exact J168 _ (by exact ⟨(by (exact h116.2)), (by intro c k0; simp only [f116_0, em110, em103, f89_0, f27_0, f2_0, upc, upn, k0, reduceIte, Nat.reduceEqDiff, ne_eq, not_false_eq_true])⟩)
                            · refine Z_aload0 hk dX9_gathers_161 ?_
                              refine Z_getR hk fl_9_221 dX9_gathers_162 ob_48.1 ob_48.2.1 ob_48.2.2.1 ob_48.2.2.2 ft_9_102 rs_48_102 ?_
                              refine Z_iload1 hk dX9_gathers_165 ?_
                              refine Z_iload3 hk dX9_gathers_166 ?_
                              refine Z_iast hk hA dX9_gathers_167 ar_114.1 ar_114.2.1 ar_114.2.2 (by omega) (by omega) (by omega) (by omega) ?_
                              refine Z_nm (fun m167 em167 => ?_)
                              exact J168 _ (by exact ⟨(by (intro j hj; have z := h116.2 j hj; simp only [em167, f116_0, em110, em103, f89_0, f27_0, f2_0, e23, e132, e148, e149, e157, and_true, true_and, or_true, true_or, implies_true, upn, reduceIte, Nat.reduceEqDiff, ne_eq, not_false_eq_true, upc, upc]; split; omega; exact z)), (by intro c k0; simp only [em167, f116_0, em110, em103, f89_0, f27_0, f2_0, upc, upn, k0, reduceIte, Nat.reduceEqDiff, ne_eq, not_false_eq_true])⟩)
                          · refine Z_goto hk (tgt := 185) dX9_gathers_136 (by decide) ?_
                            exact J185 _ (by exact ⟨(by (exact h116.2)), (by intro c k0 k1; simp only [f116_0, em110, em103, f89_0, f27_0, f2_0, upc, upn, k0, k1, reduceIte, Nat.reduceEqDiff, ne_eq, not_false_eq_true])⟩)
                    refine Z_istore2 hk rfl (by decide) dX9_gathers_115 ?_
                    exact J116 (((60 * x1_89 + 60 - (60 * x1_89)) : Int).toNat + 1) _ _ (by exact ⟨(by (exact ⟨by omega, fun j hj => by have z := h89.2 j; simp only [em110, em103, f89_0, f27_0, f2_0, e23, and_true, true_and, or_true, true_or, implies_true, upn, reduceIte, Nat.reduceEqDiff, ne_eq, not_false_eq_true, upc, upc]; split; omega; exact z (by omega)⟩)), (by intro c k0 k1; simp only [em110, em103, f89_0, f27_0, f2_0, upc, upn, k0, k1, reduceIte, Nat.reduceEqDiff, ne_eq, not_false_eq_true])⟩) (by omega)
              refine Z_istore1 hk rfl (by decide) dX9_gathers_88 ?_
              exact J89 (((30 - 0) : Int).toNat + 1) _ _ (by exact ⟨(by (exact ⟨by omega, fun j hj => by omega⟩)), (by intro c k0 k1; simp only [f27_0, f2_0, upc, upn, k0, k1, reduceIte, Nat.reduceEqDiff, ne_eq, not_false_eq_true])⟩) (by omega)
            · refine Z_aload0 hk dX9_gathers_31 ?_
              refine Z_getR hk fl_9_188 dX9_gathers_32 ob_48.1 ob_48.2.1 ob_48.2.2.1 ob_48.2.2.2 ft_9_85 rs_48_85 ?_
              refine Z_iload1 hk dX9_gathers_35 ?_
              refine Z_iald hk dX9_gathers_36 ar_104.1 ar_104.2.1 ar_104.2.2 (by omega) (by omega) (fun v36 e36 a36 b36 => ?_)
              try simp only [f27_0, f2_0, e23, and_true, true_and, or_true, true_or, implies_true, upn, reduceIte, Nat.reduceEqDiff, ne_eq, not_false_eq_true, upc] at e36
              refine Z_iconst hk dX9_gathers_37 ?_
              have J81 : ∀ (m81 : Mem), ((SA (M 48 84) (M 104) (m81 113)) ∧ (∀ c : Nat, c ≠ 113 → m81 c = m27 c)) → Zj κ δ ad rs Q 4 (121, 0, 0) 81 [some (.ref (ad 48)), some (iv x1_27), none, none] [] m81 := by
                intro m81 h81
                obtain ⟨h81, f81_0⟩ := h81
                try simp only [f81_0, f27_0, f2_0, and_true, true_and, or_true, true_or, implies_true, upn, reduceIte, Nat.reduceEqDiff, ne_eq, not_false_eq_true, upc] at h81
                refine Z_iinc1 hk rfl (by decide) dX9_gathers_81 ?_
                refine Z_goto hk (tgt := 27) dX9_gathers_84 (by decide) ?_
                exact ih27 _ _ (by exact ⟨(by (exact ⟨by omega, h81⟩)), (by intro c k0; simp only [f81_0, f27_0, f2_0, upc, upn, k0, reduceIte, Nat.reduceEqDiff, ne_eq, not_false_eq_true])⟩) (by (try simp only [f81_0, f27_0, f2_0, and_true, true_and, or_true, true_or, implies_true, upn, reduceIte, Nat.reduceEqDiff, ne_eq, not_false_eq_true, upc]) <;> (omega))
              refine Z_icmp_ne hk (tgt := 81) dX9_gathers_38 (by decide) (by omega) (by omega) (by decide) (by decide) (fun h38 => ?_) (fun h38 => ?_)
              · exact J81 _ (by exact ⟨(by (exact h27.2)), (by intro c k0; simp only [f27_0, f2_0, upc, upn, k0, reduceIte, Nat.reduceEqDiff, ne_eq, not_false_eq_true])⟩)
              · refine Z_aload0 hk dX9_gathers_41 ?_
                refine Z_iload1 hk dX9_gathers_42 ?_
                refine Z_Vi hk (c_X9_isKnown κ.2.1 δ ad _ hA x1_27 (by (try simp only [f27_0, f2_0, and_true, true_and, or_true, true_or, implies_true, upn, reduceIte, Nat.reduceEqDiff, ne_eq, not_false_eq_true, upc]) <;> (omega))) ov_X9_isKnown ml_X9_496 dX9_gathers_43 rfl ⟨by decide, by decide⟩ ob_48.1 (by decide) (by decide) rfl (Nat.le_of_ble_eq_true rfl) (fun r43 m43 p43 => ?_)
                obtain ⟨rfl, p43⟩ := p43
                try simp only [f27_0, f2_0, e23, e36, and_true, true_and, or_true, true_or, implies_true, upn, reduceIte, Nat.reduceEqDiff, ne_eq, not_false_eq_true, upc] at p43
                refine Z_if_eq hk (tgt := 81) dX9_gathers_46 (by decide) (by omega) (by omega) (fun h46 => ?_) (fun h46 => ?_)
                · exact J81 _ (by exact ⟨(by (exact h27.2)), (by intro c k0; simp only [f27_0, f2_0, upc, upn, k0, reduceIte, Nat.reduceEqDiff, ne_eq, not_false_eq_true])⟩)
                · obtain ⟨-, g49, -⟩ := q2 x1_27.toNat (by omega) (by omega)
                  have g49 := g49 (by omega)
                  refine Z_aload0 hk dX9_gathers_49 ?_
                  refine Z_getR hk fl_9_218 dX9_gathers_50 ob_48.1 ob_48.2.1 ob_48.2.2.1 ob_48.2.2.2 ft_9_101 rs_48_101 ?_
                  refine Z_bipush hk dX9_gathers_53 (by decide) ?_
                  refine Z_aload0 hk dX9_gathers_55 ?_
                  refine Z_getR hk fl_9_194 dX9_gathers_56 ob_48.1 ob_48.2.1 ob_48.2.2.1 ob_48.2.2.2 ft_9_87 rs_48_87 ?_
                  refine Z_iload1 hk dX9_gathers_59 ?_
                  refine Z_iald hk dX9_gathers_60 ar_106.1 ar_106.2.1 ar_106.2.2 (by omega) (by omega) (fun v60 e60 a60 b60 => ?_)
                  try simp only [f27_0, f2_0, e23, e36, and_true, true_and, or_true, true_or, implies_true, upn, reduceIte, Nat.reduceEqDiff, ne_eq, not_false_eq_true, upc] at e60
                  refine Z_imul hk dX9_gathers_61 ?_
                  refine Z_bipush hk dX9_gathers_62 (by decide) ?_
                  refine Z_aload0 hk dX9_gathers_64 ?_
                  refine Z_getR hk fl_9_191 dX9_gathers_65 ob_48.1 ob_48.2.1 ob_48.2.2.1 ob_48.2.2.2 ft_9_86 rs_48_86 ?_
                  refine Z_iload1 hk dX9_gathers_68 ?_
                  refine Z_iald hk dX9_gathers_69 ar_105.1 ar_105.2.1 ar_105.2.2 (by omega) (by omega) (fun v69 e69 a69 b69 => ?_)
                  try simp only [f27_0, f2_0, e23, e36, e60, and_true, true_and, or_true, true_or, implies_true, upn, reduceIte, Nat.reduceEqDiff, ne_eq, not_false_eq_true, upc] at e69
                  refine Z_imul hk dX9_gathers_70 ?_
                  refine Z_iadd hk dX9_gathers_71 ?_
                  refine Z_aload0 hk dX9_gathers_72 ?_
                  refine Z_getR hk fl_9_200 dX9_gathers_73 ob_48.1 ob_48.2.1 ob_48.2.2.1 ob_48.2.2.2 ft_9_89 rs_48_89 ?_
                  refine Z_iload1 hk dX9_gathers_76 ?_
                  refine Z_iald hk dX9_gathers_77 ar_108.1 ar_108.2.1 ar_108.2.2 (by omega) (by omega) (fun v77 e77 a77 b77 => ?_)
                  try simp only [f27_0, f2_0, e23, e36, e60, e69, and_true, true_and, or_true, true_or, implies_true, upn, reduceIte, Nat.reduceEqDiff, ne_eq, not_false_eq_true, upc] at e77
                  refine Z_iadd hk dX9_gathers_78 ?_
                  refine Z_iload1 hk dX9_gathers_79 ?_
                  refine Z_iast hk hA dX9_gathers_80 ar_113.1 ar_113.2.1 ar_113.2.2 (by omega) (by omega) (by omega) (by omega) ?_
                  refine Z_nm (fun m80 em80 => ?_)
                  exact J81 _ (by exact ⟨(by (intro j hj; have z := h27.2 j hj; simp only [em80, f27_0, f2_0, e23, e36, e60, e69, e77, and_true, true_and, or_true, true_or, implies_true, upn, reduceIte, Nat.reduceEqDiff, ne_eq, not_false_eq_true, upc, upc]; split; exact Or.inr ⟨by omega, by omega, by omega⟩; exact z)), (by intro c k0; simp only [em80, f27_0, f2_0, upc, upn, k0, reduceIte, Nat.reduceEqDiff, ne_eq, not_false_eq_true])⟩)
        refine Z_istore1 hk rfl (by decide) dX9_gathers_26 ?_
        exact J27 (((v23) : Int).toNat + 1) _ _ (by exact ⟨(by (exact ⟨by (try simp only [f2_0, e23, and_true, true_and, or_true, true_or, implies_true, upn, reduceIte, Nat.reduceEqDiff, ne_eq, not_false_eq_true, upc, upc]); omega, fun j hj => Or.inl (h2.2 j (by omega))⟩)), (by intro c k0; simp only [f2_0, upc, upn, k0, reduceIte, Nat.reduceEqDiff, ne_eq, not_false_eq_true])⟩) (by omega)
      · refine Z_aload0 hk dX9_gathers_9 ?_
        refine Z_getR hk fl_9_218 dX9_gathers_10 ob_48.1 ob_48.2.1 ob_48.2.2.1 ob_48.2.2.2 ft_9_101 rs_48_101 ?_
        refine Z_iload1 hk dX9_gathers_13 ?_
        refine Z_iconst hk dX9_gathers_14 ?_
        refine Z_iast hk hA dX9_gathers_15 ar_113.1 ar_113.2.1 ar_113.2.2 (by omega) (by omega) (by decide) (by decide) ?_
        refine Z_nm (fun m15 em15 => ?_)
        refine Z_iinc1 hk rfl (by decide) dX9_gathers_16 ?_
        refine Z_goto hk (tgt := 2) dX9_gathers_19 (by decide) ?_
        exact ih2 _ _ (by exact ⟨(by (exact ⟨by omega, fun j hj => by simp only [em15, f2_0, and_true, true_and, or_true, true_or, implies_true, upn, reduceIte, Nat.reduceEqDiff, ne_eq, not_false_eq_true, upc, upc]; split; rfl; exact h2.2 j (by omega)⟩)), (by intro c k0; simp only [em15, f2_0, upc, upn, k0, reduceIte, Nat.reduceEqDiff, ne_eq, not_false_eq_true])⟩) (by (try simp only [em15, f2_0, and_true, true_and, or_true, true_or, implies_true, upn, reduceIte, Nat.reduceEqDiff, ne_eq, not_false_eq_true, upc]) <;> (omega))
  refine Z_istore1 hk rfl (by decide) dX9_gathers_1 ?_
  exact J2 (((1800 - 0) : Int).toNat + 1) _ _ (by exact ⟨(by (exact ⟨by omega, fun j hj => by omega⟩)), (by intro c k0; rfl)⟩) (by omega)
