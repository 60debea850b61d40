set_option maxRecDepth 10000 in
theorem c_X9_feed (l : Launch) (δ : Dp) (ad : Nat → Nat) (M : Mem) (hA : okA δ ad) (a : Int) (b : Int) (c : Int) (d : Int) (e : Int) (q0 : 0 ≤ (M 48 1) ∧ (M 48 1) ≤ 700) (i_a : -2147483648 ≤ a ∧ a ≤ 2147483647) (i_b : -2147483648 ≤ b ∧ b ≤ 2147483647) (i_c : -2147483648 ≤ c ∧ c ≤ 2147483647) (i_d : -2147483648 ≤ d ∧ d ≤ 2147483647) (i_e : -2147483648 ≤ e ∧ e ≤ 2147483647) : Mi l δ yX9_feed cX9_feed 8 (some (.int)) 0 0 ad rs [.ref (ad 48), iv a, iv b, iv c, iv d, iv e] M (fun r M' => (0 ≤ (M' 48 1) ∧ (M' 48 1) ≤ 700) ∧ (∀ c : Nat, c ≠ 48 → c ≠ 49 → M' c = M c) ∧ (∀ i : Nat, i ≠ 1 → M' 48 i = M 48 i)) := by
  refine Mg.of (rm := rmN 0 0) (by decide) (Nat.le_of_ble_eq_true rfl) fun κ _ hk _ => ?_
  generalize hQ : Qg κ δ 121 (rmN 0 0).cells (rmN 0 0).slots _ = Q
  show Zj κ δ ad rs Q 8 (121, 0, 0) 0 [some (.ref (ad 48)), some (iv a), some (iv b), some (iv c), some (iv d), some (iv e), none, none] [] M
  refine Z_aload0 hk dX9_feed_0 ?_
  refine Z_getI hk fl_9_242 dX9_feed_1 ob_48.1 ob_48.2.1 ob_48.2.2.1 ob_48.2.2.2 ft_9_1 (fun v1 e1 a1 b1 => ?_)
  refine Z_bipush hk dX9_feed_4 (by decide) ?_
  refine Z_iadd hk dX9_feed_6 ?_
  refine Z_sipush hk dX9_feed_7 (by decide) ?_
  refine Z_icmp_le hk (tgt := 15) dX9_feed_10 (by decide) (by omega) (by omega) (by decide) (by decide) (fun h10 => ?_) (fun h10 => ?_)
  · refine Z_iconst hk dX9_feed_15 ?_
    have J18 : ∀ (n : Nat) (x6_18 : Int) (m18 : Mem), ((0 ≤ x6_18 ∧ x6_18 ≤ 20 ∧ (m18 48 1) = (M 48 1) + x6_18 ∧ (M 48 1) + 20 ≤ 700 ∧ 0 ≤ (M 48 1)) ∧ (∀ c : Nat, c ≠ 48 → c ≠ 49 → m18 c = M c) ∧ (∀ i : Nat, i ≠ 1 → m18 48 i = M 48 i)) → (20 - x6_18) < (n : Int) → Zj κ δ ad rs Q 8 (121, 0, 0) 18 [some (.ref (ad 48)), some (iv a), some (iv b), some (iv c), some (iv d), some (iv e), some (iv x6_18), none] [] m18 := by
      intro n
      induction n with
      | zero => intro x6_18 m18 h18 hm18; exfalso; obtain ⟨h18, -⟩ := h18; omega
      | succ n ih18 =>
        intro x6_18 m18 h18 hm18
        obtain ⟨h18, f18_0, f18_1⟩ := h18
        try simp only [f18_0, f18_1, and_true, true_and, or_true, true_or, implies_true, upn, reduceIte, Nat.reduceEqDiff, ne_eq, not_false_eq_true] at h18 hm18
        refine Z_iload6 hk dX9_feed_18 ?_
        refine Z_bipush hk dX9_feed_20 (by decide) ?_
        refine Z_icmp_ge hk (tgt := 114) dX9_feed_22 (by decide) (by omega) (by omega) (by decide) (by decide) (fun h22 => ?_) (fun h22 => ?_)
        · refine Z_aload0 hk dX9_feed_114 ?_
          refine Z_getI hk fl_9_242 dX9_feed_115 ob_48.1 ob_48.2.1 ob_48.2.2.1 ob_48.2.2.2 ft_9_1 (fun v115 e115 a115 b115 => ?_)
          try simp only [f18_0, f18_1, e1, and_true, true_and, or_true, true_or, implies_true, upn, reduceIte, Nat.reduceEqDiff, ne_eq, not_false_eq_true] at e115
          exact Z_iret hk hA hQ dX9_feed_118 ⟨rfl, rfl, _, rfl, (by exact ⟨(by (try simp only [f18_0, f18_1, and_true, true_and, or_true, true_or, implies_true, upn, reduceIte, Nat.reduceEqDiff, ne_eq, not_false_eq_true]) <;> (omega)), (by intro c k0 k1; simp only [f18_0, f18_1, upc, upn, k0, k1, reduceIte, Nat.reduceEqDiff, ne_eq, not_false_eq_true]), (by intro i k0; simp only [f18_0, f18_1, upc, upn, k0, reduceIte, Nat.reduceEqDiff, ne_eq, not_false_eq_true])⟩)⟩
        · refine Z_iload6 hk dX9_feed_25 ?_
          refine Z_iconst hk dX9_feed_27 ?_
          have J71 : ∀ (y0_71 : Int), (-2147483648 ≤ y0_71 ∧ y0_71 ≤ 2147483647) → Zj κ δ ad rs Q 8 (121, 0, 0) 71 [some (.ref (ad 48)), some (iv a), some (iv b), some (iv c), some (iv d), some (iv e), some (iv x6_18), none] [iv y0_71] m18 := by
            intro y0_71 h71
            try simp only [f18_0, f18_1, and_true, true_and, or_true, true_or, implies_true, upn, reduceIte, Nat.reduceEqDiff, ne_eq, not_false_eq_true] at h71
            refine Z_istore7 hk rfl (by decide) dX9_feed_71 ?_
            refine Z_aload0 hk dX9_feed_73 ?_
            refine Z_getR hk fl_9_7 dX9_feed_74 ob_48.1 ob_48.2.1 ob_48.2.2.1 ob_48.2.2.2 ft_9_0 rs_48_0 ?_
            refine Z_aload0 hk dX9_feed_77 ?_
            refine Z_getI hk fl_9_242 dX9_feed_78 ob_48.1 ob_48.2.1 ob_48.2.2.1 ob_48.2.2.2 ft_9_1 (fun v78 e78 a78 b78 => ?_)
            try simp only [f18_0, f18_1, e1, and_true, true_and, or_true, true_or, implies_true, upn, reduceIte, Nat.reduceEqDiff, ne_eq, not_false_eq_true] at e78
            refine Z_iload7 hk dX9_feed_81 ?_
            refine Z_bipush hk dX9_feed_83 (by decide) ?_
            refine Z_iconst hk dX9_feed_85 ?_
            refine Z_iload6 hk dX9_feed_86 ?_
            refine Z_iconst hk dX9_feed_88 ?_
            refine Z_irem hk dX9_feed_89 (by omega) (by omega) (by decide) (by decide) (by decide) ?_
            refine Z_isub hk dX9_feed_90 ?_
            refine Z_imul hk dX9_feed_91 ?_
            refine Z_ishr hk dX9_feed_92 (fun v92 e92 a92 b92 => ?_)
            refine Z_sipush hk dX9_feed_93 (by decide) ?_
            refine Z_iand hk dX9_feed_96 (fun v96 e96 a96 b96 => ?_)
            have g96 := and_mask (Int32.ofInt v92) 8 (m := 255) (by decide +kernel) (by decide)
            rw [← e96] at g96
            refine Z_iast hk hA dX9_feed_97 ar_49.1 ar_49.2.1 ar_49.2.2 (by omega) (by omega) (by omega) (by omega) ?_
            refine Z_nm (fun m97 em97 => ?_)
            refine Z_aload0 hk dX9_feed_98 ?_
            refine Z_dup1 hk rfl dX9_feed_99 ?_
            refine Z_getI hk fl_9_242 dX9_feed_100 ob_48.1 ob_48.2.1 ob_48.2.2.1 ob_48.2.2.2 ft_9_1 (fun v100 e100 a100 b100 => ?_)
            try simp only [em97, f18_0, f18_1, e1, e78, and_true, true_and, or_true, true_or, implies_true, upn, reduceIte, Nat.reduceEqDiff, ne_eq, not_false_eq_true] at e100
            refine Z_iconst hk dX9_feed_103 ?_
            refine Z_iadd hk dX9_feed_104 ?_
            refine Z_putI hk hA fl_9_242 dX9_feed_105 ob_48.1 ob_48.2.1 ob_48.2.2.1 ob_48.2.2.2 ft_9_1 (by omega) (by omega) ?_
            refine Z_nm (fun m105 em105 => ?_)
            refine Z_iinc6 hk rfl (by decide) dX9_feed_108 ?_
            refine Z_goto hk (tgt := 18) dX9_feed_111 (by decide) ?_
            refine Z_drop7 ?_
            exact ih18 _ _ (by exact ⟨(by (try simp only [em105, em97, f18_0, f18_1, and_true, true_and, or_true, true_or, implies_true, upn, reduceIte, Nat.reduceEqDiff, ne_eq, not_false_eq_true]) <;> (omega)), (by intro c k0 k1; simp only [em105, em97, f18_0, f18_1, upc, upn, k0, k1, reduceIte, Nat.reduceEqDiff, ne_eq, not_false_eq_true]), (by intro i k0; simp only [em105, em97, f18_0, f18_1, upc, upn, k0, reduceIte, Nat.reduceEqDiff, ne_eq, not_false_eq_true])⟩) (by (try simp only [em105, em97, f18_0, f18_1, and_true, true_and, or_true, true_or, implies_true, upn, reduceIte, Nat.reduceEqDiff, ne_eq, not_false_eq_true]) <;> (omega))
          refine Z_icmp_ge hk (tgt := 35) dX9_feed_28 (by decide) (by omega) (by omega) (by decide) (by decide) (fun h28 => ?_) (fun h28 => ?_)
          · refine Z_iload6 hk dX9_feed_35 ?_
            refine Z_bipush hk dX9_feed_37 (by decide) ?_
            refine Z_icmp_ge hk (tgt := 46) dX9_feed_39 (by decide) (by omega) (by omega) (by decide) (by decide) (fun h39 => ?_) (fun h39 => ?_)
            · refine Z_iload6 hk dX9_feed_46 ?_
              refine Z_bipush hk dX9_feed_48 (by decide) ?_
              refine Z_icmp_ge hk (tgt := 57) dX9_feed_50 (by decide) (by omega) (by omega) (by decide) (by decide) (fun h50 => ?_) (fun h50 => ?_)
              · refine Z_iload6 hk dX9_feed_57 ?_
                refine Z_bipush hk dX9_feed_59 (by decide) ?_
                refine Z_icmp_ge hk (tgt := 69) dX9_feed_61 (by decide) (by omega) (by omega) (by decide) (by decide) (fun h61 => ?_) (fun h61 => ?_)
                · refine Z_iload5 hk dX9_feed_69 ?_
                  exact J71 _ (by (try simp only [f18_0, f18_1, and_true, true_and, or_true, true_or, implies_true, upn, reduceIte, Nat.reduceEqDiff, ne_eq, not_false_eq_true]) <;> (omega))
                · refine Z_iload4 hk dX9_feed_64 ?_
                  refine Z_goto hk (tgt := 71) dX9_feed_66 (by decide) ?_
                  exact J71 _ (by (try simp only [f18_0, f18_1, and_true, true_and, or_true, true_or, implies_true, upn, reduceIte, Nat.reduceEqDiff, ne_eq, not_false_eq_true]) <;> (omega))
              · refine Z_iload3 hk dX9_feed_53 ?_
                refine Z_goto hk (tgt := 71) dX9_feed_54 (by decide) ?_
                exact J71 _ (by (try simp only [f18_0, f18_1, and_true, true_and, or_true, true_or, implies_true, upn, reduceIte, Nat.reduceEqDiff, ne_eq, not_false_eq_true]) <;> (omega))
            · refine Z_iload2 hk dX9_feed_42 ?_
              refine Z_goto hk (tgt := 71) dX9_feed_43 (by decide) ?_
              exact J71 _ (by (try simp only [f18_0, f18_1, and_true, true_and, or_true, true_or, implies_true, upn, reduceIte, Nat.reduceEqDiff, ne_eq, not_false_eq_true]) <;> (omega))
          · refine Z_iload1 hk dX9_feed_31 ?_
            refine Z_goto hk (tgt := 71) dX9_feed_32 (by decide) ?_
            exact J71 _ (by (try simp only [f18_0, f18_1, and_true, true_and, or_true, true_or, implies_true, upn, reduceIte, Nat.reduceEqDiff, ne_eq, not_false_eq_true]) <;> (omega))
    refine Z_istore6 hk rfl (by decide) dX9_feed_16 ?_
    exact J18 (((20 - 0) : Int).toNat + 1) _ _ (by exact ⟨(by (omega)), (by intro c k0 k1; rfl), (by intro i k0; rfl)⟩) (by omega)
  · refine Z_iconst hk dX9_feed_13 ?_
    exact Z_iret hk hA hQ dX9_feed_14 ⟨rfl, rfl, _, rfl, (by exact ⟨(by (omega)), (by intro c k0 k1; rfl), (by intro i k0; rfl)⟩)⟩
set_option maxRecDepth 10000 in
theorem c_X9_end (l : Launch) (δ : Dp) (ad : Nat → Nat) (M : Mem) (hA : okA δ ad) (n : Int) (q0 : 0 ≤ (M 48 1) ∧ (M 48 1) ≤ 700) (i_n : -2147483648 ≤ n ∧ n ≤ 2147483647) : Mi l δ yX9_end cX9_end 2 (some (.boolean)) 0 0 ad rs [.ref (ad 48), iv n] M (fun r M' => (0 ≤ (M' 48 1) ∧ (M' 48 1) ≤ 700 ∧ 0 ≤ r ∧ r ≤ 1) ∧ (∀ c : Nat, c ≠ 48 → M' c = M c) ∧ (∀ i : Nat, i ≠ 1 → M' 48 i = M 48 i)) := by
  refine Mg.of (rm := rmN 0 0) (by decide) (Nat.le_of_ble_eq_true rfl) fun κ _ hk _ => ?_
  generalize hQ : Qg κ δ 121 (rmN 0 0).cells (rmN 0 0).slots _ = Q
  show Zj κ δ ad rs Q 2 (121, 0, 0) 0 [some (.ref (ad 48)), some (iv n)] [] M
  refine Z_iload1 hk dX9_end_0 ?_
  refine Z_if_lt hk (tgt := 12) dX9_end_1 (by decide) (by omega) (by omega) (fun h1 => ?_) (fun h1 => ?_)
  · refine Z_iconst hk dX9_end_12 ?_
    exact Z_zret hk hA hQ dX9_end_13 (by decide) (by decide) ⟨rfl, rfl, _, rfl, (by exact ⟨(by (omega)), (by intro c k0; rfl), (by intro i k0; rfl)⟩)⟩
  · refine Z_iload1 hk dX9_end_4 ?_
    refine Z_aload0 hk dX9_end_5 ?_
    refine Z_getI hk fl_9_242 dX9_end_6 ob_48.1 ob_48.2.1 ob_48.2.2.1 ob_48.2.2.2 ft_9_1 (fun v6 e6 a6 b6 => ?_)
    refine Z_icmp_le hk (tgt := 14) dX9_end_9 (by decide) (by omega) (by omega) (by omega) (by omega) (fun h9 => ?_) (fun h9 => ?_)
    · refine Z_aload0 hk dX9_end_14 ?_
      refine Z_iload1 hk dX9_end_15 ?_
      refine Z_putI hk hA fl_9_242 dX9_end_16 ob_48.1 ob_48.2.1 ob_48.2.2.1 ob_48.2.2.2 ft_9_1 (by omega) (by omega) ?_
      refine Z_nm (fun m16 em16 => ?_)
      refine Z_iconst hk dX9_end_19 ?_
      exact Z_zret hk hA hQ dX9_end_20 (by decide) (by decide) ⟨rfl, rfl, _, rfl, (by exact ⟨(by (try simp only [em16, and_true, true_and, or_true, true_or, implies_true, upn, reduceIte, Nat.reduceEqDiff, ne_eq, not_false_eq_true]) <;> (omega)), (by intro c k0; simp only [em16, upc, upn, k0, reduceIte, Nat.reduceEqDiff, ne_eq, not_false_eq_true]), (by intro i k0; simp only [em16, upc, upn, k0, reduceIte, Nat.reduceEqDiff, ne_eq, not_false_eq_true])⟩)⟩
    · refine Z_iconst hk dX9_end_12 ?_
      exact Z_zret hk hA hQ dX9_end_13 (by decide) (by decide) ⟨rfl, rfl, _, rfl, (by exact ⟨(by (omega)), (by intro c k0; rfl), (by intro i k0; rfl)⟩)⟩
set_option maxRecDepth 10000 in
theorem c_X9_isHere (l : Launch) (δ : Dp) (ad : Nat → Nat) (M : Mem) (hA : okA δ ad) (w n_w : Nat) (h_w : lay w = (103, n_w) ∧ w < 121 ∧ n_w < 2147483648) (q0 : 0 ≤ (M 48 2) ∧ (M 48 2) ≤ (M 48 3) ∧ (M 48 3) ≤ 700) : Mi l δ yX9_isHere cX9_isHere 4 (some (.boolean)) 1 20 ad rs [.ref (ad 48), .ref (ad w)] M (fun r M' => (0 ≤ r ∧ r ≤ 1 ∧ (M 48 2) ≤ (M' 48 2) ∧ (M' 48 2) ≤ (M 48 3) ∧ (r = 1 → (M 48 5) = 0 ∧ (M' 48 2) + n_w ≤ (M 48 3))) ∧ (∀ c : Nat, c ≠ 48 → M' c = M c) ∧ (∀ i : Nat, i ≠ 2 → M' 48 i = M 48 i)) := by
  refine Mg.of (rm := rmN 1 20) (by decide) (Nat.le_of_ble_eq_true rfl) fun κ _ hk _ => ?_
  generalize hQ : Qg κ δ 121 (rmN 1 20).cells (rmN 1 20).slots _ = Q
  show Zj κ δ ad rs Q 4 (121, 0, 0) 0 [some (.ref (ad 48)), some (.ref (ad w)), none, none] [] M
  refine Z_aload0 hk dX9_isHere_0 ?_
  refine Z_getI hk fl_9_245 dX9_isHere_1 ob_48.1 ob_48.2.1 ob_48.2.2.1 ob_48.2.2.2 ft_9_5 (fun v1 e1 a1 b1 => ?_)
  refine Z_if_ne hk (tgt := 28) dX9_isHere_4 (by decide) (by omega) (by omega) (fun h4 => ?_) (fun h4 => ?_)
  · refine Z_iconst hk dX9_isHere_28 ?_
    exact Z_zret hk hA hQ dX9_isHere_29 (by decide) (by decide) ⟨rfl, rfl, _, rfl, (by exact ⟨(by (omega)), (by intro c k0; rfl), (by intro i k0; rfl)⟩)⟩
  · refine Z_aload0 hk dX9_isHere_7 ?_
    refine Z_Vi hk (c_X9_look κ.2.1 δ ad _ hA  (by (omega))) ov_X9_look ml_X9_257 dX9_isHere_8 rfl ⟨by decide, by decide⟩ ob_48.1 (by decide) (by decide) rfl (Nat.le_of_ble_eq_true rfl) (fun r8 m8 p8 => ?_)
    obtain ⟨p8, f8_0, f8_1⟩ := p8
    try simp only [f8_0, f8_1, e1, and_true, true_and, or_true, true_or, implies_true, upn, reduceIte, Nat.reduceEqDiff, ne_eq, not_false_eq_true] at p8
    refine Z_Si hk (c_X9_isLetter κ.2.1 δ ad _ hA r8 (by (try simp only [f8_0, f8_1, and_true, true_and, or_true, true_or, implies_true, upn, reduceIte, Nat.reduceEqDiff, ne_eq, not_false_eq_true]) <;> (omega))) os_X9_isLetter ml_X9_261 dX9_isHere_11 rfl ⟨by decide, by decide⟩ rfl (Nat.le_of_ble_eq_true rfl) (fun r11 m11 p11 => ?_)
    obtain ⟨rfl, p11⟩ := p11
    try simp only [f8_0, f8_1, e1, and_true, true_and, or_true, true_or, implies_true, upn, reduceIte, Nat.reduceEqDiff, ne_eq, not_false_eq_true] at p11
    refine Z_if_eq hk (tgt := 28) dX9_isHere_14 (by decide) (by omega) (by omega) (fun h14 => ?_) (fun h14 => ?_)
    · refine Z_iconst hk dX9_isHere_28 ?_
      exact Z_zret hk hA hQ dX9_isHere_29 (by decide) (by decide) ⟨rfl, rfl, _, rfl, (by exact ⟨(by (try simp only [f8_0, f8_1, and_true, true_and, or_true, true_or, implies_true, upn, reduceIte, Nat.reduceEqDiff, ne_eq, not_false_eq_true]) <;> (omega)), (by intro c k0; simp only [f8_0, f8_1, upc, upn, k0, reduceIte, Nat.reduceEqDiff, ne_eq, not_false_eq_true]), (by intro i k0; simp only [f8_0, f8_1, upc, upn, k0, reduceIte, Nat.reduceEqDiff, ne_eq, not_false_eq_true])⟩)⟩
    · refine Z_aload0 hk dX9_isHere_17 ?_
      refine Z_getI hk fl_9_251 dX9_isHere_18 ob_48.1 ob_48.2.1 ob_48.2.2.1 ob_48.2.2.2 ft_9_2 (fun v18 e18 a18 b18 => ?_)
      try simp only [f8_0, f8_1, e1, and_true, true_and, or_true, true_or, implies_true, upn, reduceIte, Nat.reduceEqDiff, ne_eq, not_false_eq_true] at e18
      refine Z_aload0 hk dX9_isHere_21 ?_
      refine Z_getI hk fl_9_265 dX9_isHere_22 ob_48.1 ob_48.2.1 ob_48.2.2.1 ob_48.2.2.2 ft_9_4 (fun v22 e22 a22 b22 => ?_)
      try simp only [f8_0, f8_1, e1, e18, and_true, true_and, or_true, true_or, implies_true, upn, reduceIte, Nat.reduceEqDiff, ne_eq, not_false_eq_true] at e22
      refine Z_icmp_ne hk (tgt := 30) dX9_isHere_25 (by decide) (by omega) (by omega) (by omega) (by omega) (fun h25 => ?_) (fun h25 => ?_)
      · refine Z_aload0 hk dX9_isHere_30 ?_
        refine Z_getI hk fl_9_251 dX9_isHere_31 ob_48.1 ob_48.2.1 ob_48.2.2.1 ob_48.2.2.2 ft_9_2 (fun v31 e31 a31 b31 => ?_)
        try simp only [f8_0, f8_1, e1, e18, e22, and_true, true_and, or_true, true_or, implies_true, upn, reduceIte, Nat.reduceEqDiff, ne_eq, not_false_eq_true] at e31
        have J35 : ∀ (n : Nat) (x2_35 : Int), ((m8 48 2) ≤ x2_35 ∧ x2_35 ≤ (m8 48 3)) → ((m8 48 3) - x2_35) < (n : Int) → Zj κ δ ad rs Q 4 (121, 0, 0) 35 [some (.ref (ad 48)), some (.ref (ad w)), some (iv x2_35), none] [] m8 := by
          intro n
          induction n with
          | zero => intro x2_35 h35 hm35; exfalso; (try simp only [f8_0, f8_1, and_true, true_and, or_true, true_or, implies_true, upn, reduceIte, Nat.reduceEqDiff, ne_eq, not_false_eq_true] at h35 hm35); omega
          | succ n ih35 =>
            intro x2_35 h35 hm35
            try simp only [f8_0, f8_1, and_true, true_and, or_true, true_or, implies_true, upn, reduceIte, Nat.reduceEqDiff, ne_eq, not_false_eq_true] at h35 hm35
            refine Z_iload2 hk dX9_isHere_35 ?_
            refine Z_aload0 hk dX9_isHere_36 ?_
            refine Z_getI hk fl_9_254 dX9_isHere_37 ob_48.1 ob_48.2.1 ob_48.2.2.1 ob_48.2.2.2 ft_9_3 (fun v37 e37 a37 b37 => ?_)
            try simp only [f8_0, f8_1, e1, e18, e22, e31, and_true, true_and, or_true, true_or, implies_true, upn, reduceIte, Nat.reduceEqDiff, ne_eq, not_false_eq_true] at e37
            have J61 : ∀ (_ : Unit), ((m8 48 2) ≤ x2_35 ∧ x2_35 ≤ (m8 48 3)) → Zj κ δ ad rs Q 4 (121, 0, 0) 61 [some (.ref (ad 48)), some (.ref (ad w)), some (iv x2_35), none] [] m8 := by
              intro _ h61
              try simp only [f8_0, f8_1, and_true, true_and, or_true, true_or, implies_true, upn, reduceIte, Nat.reduceEqDiff, ne_eq, not_false_eq_true] at h61
              refine Z_iload2 hk dX9_isHere_61 ?_
              refine Z_aload0 hk dX9_isHere_62 ?_
              refine Z_getI hk fl_9_251 dX9_isHere_63 ob_48.1 ob_48.2.1 ob_48.2.2.1 ob_48.2.2.2 ft_9_2 (fun v63 e63 a63 b63 => ?_)
              try simp only [f8_0, f8_1, e1, e18, e22, e31, e37, and_true, true_and, or_true, true_or, implies_true, upn, reduceIte, Nat.reduceEqDiff, ne_eq, not_false_eq_true] at e63
              refine Z_isub hk dX9_isHere_66 ?_
              refine Z_aload1 hk dX9_isHere_67 ?_
              refine Z_alen hk (i := 0) dX9_isHere_68 h_w.1 (by decide) h_w.2.1 ?_
              refine Z_icmp_eq hk (tgt := 74) dX9_isHere_69 (by decide) (by omega) (by omega) (by omega) (by omega) (fun h69 => ?_) (fun h69 => ?_)
              · refine Z_iconst hk dX9_isHere_74 ?_
                have J76 : ∀ (n : Nat) (x3_76 : Int), (0 ≤ x3_76 ∧ x3_76 ≤ n_w ∧ (m8 48 2) + n_w ≤ (M 48 3)) → ((n_w : Int) - x3_76) < (n : Int) → Zj κ δ ad rs Q 4 (121, 0, 0) 76 [some (.ref (ad 48)), some (.ref (ad w)), some (iv x2_35), some (iv x3_76)] [] m8 := by
                  intro n
                  induction n with
                  | zero => intro x3_76 h76 hm76; exfalso; (try simp only [f8_0, f8_1, and_true, true_and, or_true, true_or, implies_true, upn, reduceIte, Nat.reduceEqDiff, ne_eq, not_false_eq_true] at h76 hm76); omega
                  | succ n ih76 =>
                    intro x3_76 h76 hm76
                    try simp only [f8_0, f8_1, and_true, true_and, or_true, true_or, implies_true, upn, reduceIte, Nat.reduceEqDiff, ne_eq, not_false_eq_true] at h76 hm76
                    refine Z_iload3 hk dX9_isHere_76 ?_
                    refine Z_aload1 hk dX9_isHere_77 ?_
                    refine Z_alen hk (i := 0) dX9_isHere_78 h_w.1 (by decide) h_w.2.1 ?_
                    refine Z_icmp_ge hk (tgt := 107) dX9_isHere_79 (by decide) (by omega) (by omega) (by omega) (by omega) (fun h79 => ?_) (fun h79 => ?_)
                    · refine Z_iconst hk dX9_isHere_107 ?_
                      exact Z_zret hk hA hQ dX9_isHere_108 (by decide) (by decide) ⟨rfl, rfl, _, rfl, (by exact ⟨(by (try simp only [f8_0, f8_1, and_true, true_and, or_true, true_or, implies_true, upn, reduceIte, Nat.reduceEqDiff, ne_eq, not_false_eq_true]) <;> (omega)), (by intro c k0; simp only [f8_0, f8_1, upc, upn, k0, reduceIte, Nat.reduceEqDiff, ne_eq, not_false_eq_true]), (by intro i k0; simp only [f8_0, f8_1, upc, upn, k0, reduceIte, Nat.reduceEqDiff, ne_eq, not_false_eq_true])⟩)⟩
                    · refine Z_aload0 hk dX9_isHere_82 ?_
                      refine Z_getR hk fl_9_7 dX9_isHere_83 ob_48.1 ob_48.2.1 ob_48.2.2.1 ob_48.2.2.2 ft_9_0 rs_48_0 ?_
                      refine Z_aload0 hk dX9_isHere_86 ?_
                      refine Z_getI hk fl_9_251 dX9_isHere_87 ob_48.1 ob_48.2.1 ob_48.2.2.1 ob_48.2.2.2 ft_9_2 (fun v87 e87 a87 b87 => ?_)
                      try simp only [f8_0, f8_1, e1, e18, e22, e31, e37, e63, and_true, true_and, or_true, true_or, implies_true, upn, reduceIte, Nat.reduceEqDiff, ne_eq, not_false_eq_true] at e87
                      refine Z_iload3 hk dX9_isHere_90 ?_
                      refine Z_iadd hk dX9_isHere_91 ?_
                      refine Z_iald hk dX9_isHere_92 ar_49.1 ar_49.2.1 ar_49.2.2 (by omega) (by omega) (fun v92 e92 a92 b92 => ?_)
                      try simp only [f8_0, f8_1, e1, e18, e22, e31, e37, e63, e87, and_true, true_and, or_true, true_or, implies_true, upn, reduceIte, Nat.reduceEqDiff, ne_eq, not_false_eq_true] at e92
                      refine Z_aload1 hk dX9_isHere_93 ?_
                      refine Z_iload3 hk dX9_isHere_94 ?_
                      refine Z_cald hk dX9_isHere_95 h_w.1 h_w.2.1 h_w.2.2 (by omega) (by omega) (fun v95 e95 a95 b95 => ?_)
                      try simp only [f8_0, f8_1, e1, e18, e22, e31, e37, e63, e87, e92, and_true, true_and, or_true, true_or, implies_true, upn, reduceIte, Nat.reduceEqDiff, ne_eq, not_false_eq_true] at e95
                      refine Z_icmp_eq hk (tgt := 101) dX9_isHere_96 (by decide) (by omega) (by omega) (by omega) (by omega) (fun h96 => ?_) (fun h96 => ?_)
                      · refine Z_iinc3 hk rfl (by decide) dX9_isHere_101 ?_
                        refine Z_goto hk (tgt := 76) dX9_isHere_104 (by decide) ?_
                        exact ih76 _ (by (try simp only [f8_0, f8_1, and_true, true_and, or_true, true_or, implies_true, upn, reduceIte, Nat.reduceEqDiff, ne_eq, not_false_eq_true]) <;> (omega)) (by (try simp only [f8_0, f8_1, and_true, true_and, or_true, true_or, implies_true, upn, reduceIte, Nat.reduceEqDiff, ne_eq, not_false_eq_true]) <;> (omega))
                      · refine Z_iconst hk dX9_isHere_99 ?_
                        exact Z_zret hk hA hQ dX9_isHere_100 (by decide) (by decide) ⟨rfl, rfl, _, rfl, (by exact ⟨(by (try simp only [f8_0, f8_1, and_true, true_and, or_true, true_or, implies_true, upn, reduceIte, Nat.reduceEqDiff, ne_eq, not_false_eq_true]) <;> (omega)), (by intro c k0; simp only [f8_0, f8_1, upc, upn, k0, reduceIte, Nat.reduceEqDiff, ne_eq, not_false_eq_true]), (by intro i k0; simp only [f8_0, f8_1, upc, upn, k0, reduceIte, Nat.reduceEqDiff, ne_eq, not_false_eq_true])⟩)⟩
                refine Z_istore3 hk rfl (by decide) dX9_isHere_75 ?_
                exact J76 ((((n_w : Int) - 0) : Int).toNat + 1) _ (by (try simp only [f8_0, f8_1, and_true, true_and, or_true, true_or, implies_true, upn, reduceIte, Nat.reduceEqDiff, ne_eq, not_false_eq_true]) <;> (omega)) (by omega)
              · refine Z_iconst hk dX9_isHere_72 ?_
                exact Z_zret hk hA hQ dX9_isHere_73 (by decide) (by decide) ⟨rfl, rfl, _, rfl, (by exact ⟨(by (try simp only [f8_0, f8_1, and_true, true_and, or_true, true_or, implies_true, upn, reduceIte, Nat.reduceEqDiff, ne_eq, not_false_eq_true]) <;> (omega)), (by intro c k0; simp only [f8_0, f8_1, upc, upn, k0, reduceIte, Nat.reduceEqDiff, ne_eq, not_false_eq_true]), (by intro i k0; simp only [f8_0, f8_1, upc, upn, k0, reduceIte, Nat.reduceEqDiff, ne_eq, not_false_eq_true])⟩)⟩
            refine Z_icmp_ge hk (tgt := 61) dX9_isHere_40 (by decide) (by omega) (by omega) (by omega) (by omega) (fun h40 => ?_) (fun h40 => ?_)
            · exact J61 () (by (try simp only [f8_0, f8_1, and_true, true_and, or_true, true_or, implies_true, upn, reduceIte, Nat.reduceEqDiff, ne_eq, not_false_eq_true]) <;> (omega))
            · refine Z_aload0 hk dX9_isHere_43 ?_
              refine Z_getR hk fl_9_7 dX9_isHere_44 ob_48.1 ob_48.2.1 ob_48.2.2.1 ob_48.2.2.2 ft_9_0 rs_48_0 ?_
              refine Z_iload2 hk dX9_isHere_47 ?_
              refine Z_iald hk dX9_isHere_48 ar_49.1 ar_49.2.1 ar_49.2.2 (by omega) (by omega) (fun v48 e48 a48 b48 => ?_)
              try simp only [f8_0, f8_1, e1, e18, e22, e31, e37, and_true, true_and, or_true, true_or, implies_true, upn, reduceIte, Nat.reduceEqDiff, ne_eq, not_false_eq_true] at e48
              refine Z_Si hk (c_X9_isLetter κ.2.1 δ ad _ hA v48 (by (try simp only [f8_0, f8_1, and_true, true_and, or_true, true_or, implies_true, upn, reduceIte, Nat.reduceEqDiff, ne_eq, not_false_eq_true]) <;> (omega))) os_X9_isLetter ml_X9_261 dX9_isHere_49 rfl ⟨by decide, by decide⟩ rfl (Nat.le_of_ble_eq_true rfl) (fun r49 m49 p49 => ?_)
              obtain ⟨rfl, p49⟩ := p49
              try simp only [f8_0, f8_1, e1, e18, e22, e31, e37, e48, and_true, true_and, or_true, true_or, implies_true, upn, reduceIte, Nat.reduceEqDiff, ne_eq, not_false_eq_true] at p49
              refine Z_if_eq hk (tgt := 61) dX9_isHere_52 (by decide) (by omega) (by omega) (fun h52 => ?_) (fun h52 => ?_)
              · exact J61 () (by (try simp only [f8_0, f8_1, and_true, true_and, or_true, true_or, implies_true, upn, reduceIte, Nat.reduceEqDiff, ne_eq, not_false_eq_true]) <;> (omega))
              · refine Z_iinc2 hk rfl (by decide) dX9_isHere_55 ?_
                refine Z_goto hk (tgt := 35) dX9_isHere_58 (by decide) ?_
                exact ih35 _ (by (try simp only [f8_0, f8_1, and_true, true_and, or_true, true_or, implies_true, upn, reduceIte, Nat.reduceEqDiff, ne_eq, not_false_eq_true]) <;> (omega)) (by (try simp only [f8_0, f8_1, and_true, true_and, or_true, true_or, implies_true, upn, reduceIte, Nat.reduceEqDiff, ne_eq, not_false_eq_true]) <;> (omega))
        refine Z_istore2 hk rfl (by decide) dX9_isHere_34 ?_
        exact J35 ((((m8 48 3) - v31) : Int).toNat + 1) _ (by (try simp only [f8_0, f8_1, and_true, true_and, or_true, true_or, implies_true, upn, reduceIte, Nat.reduceEqDiff, ne_eq, not_false_eq_true]) <;> (omega)) (by omega)
      · refine Z_iconst hk dX9_isHere_28 ?_
        exact Z_zret hk hA hQ dX9_isHere_29 (by decide) (by decide) ⟨rfl, rfl, _, rfl, (by exact ⟨(by (try simp only [f8_0, f8_1, and_true, true_and, or_true, true_or, implies_true, upn, reduceIte, Nat.reduceEqDiff, ne_eq, not_false_eq_true]) <;> (omega)), (by intro c k0; simp only [f8_0, f8_1, upc, upn, k0, reduceIte, Nat.reduceEqDiff, ne_eq, not_false_eq_true]), (by intro i k0; simp only [f8_0, f8_1, upc, upn, k0, reduceIte, Nat.reduceEqDiff, ne_eq, not_false_eq_true])⟩)⟩
set_option maxRecDepth 10000 in
theorem c_X9_takes (l : Launch) (δ : Dp) (ad : Nat → Nat) (M : Mem) (hA : okA δ ad) (w n_w : Nat) (h_w : lay w = (103, n_w) ∧ w < 121 ∧ n_w < 2147483648) (q0 : 0 ≤ (M 48 2) ∧ (M 48 2) ≤ (M 48 3) ∧ (M 48 3) ≤ 700) : Mi l δ yX9_takes cX9_takes 2 (some (.boolean)) 2 43 ad rs [.ref (ad 48), .ref (ad w)] M (fun r M' => (0 ≤ r ∧ r ≤ 1 ∧ (M 48 2) ≤ (M' 48 2) ∧ (M' 48 2) ≤ (M 48 3) ∧ (r = 1 → (M 48 5) = 0 ∧ (M 48 2) + n_w ≤ (M' 48 2))) ∧ (∀ c : Nat, c ≠ 48 → M' c = M c) ∧ (∀ i : Nat, i ≠ 2 → i ≠ 4 → M' 48 i = M 48 i)) := by
  refine Mg.of (rm := rmN 2 43) (by decide) (Nat.le_of_ble_eq_true rfl) fun κ _ hk _ => ?_
  generalize hQ : Qg κ δ 121 (rmN 2 43).cells (rmN 2 43).slots _ = Q
  show Zj κ δ ad rs Q 2 (121, 0, 0) 0 [some (.ref (ad 48)), some (.ref (ad w))] [] M
  refine Z_aload0 hk dX9_takes_0 ?_
  refine Z_aload1 hk dX9_takes_1 ?_
  refine Z_Vi hk (c_X9_isHere κ.2.1 δ ad _ hA w n_w h_w (by (omega))) ov_X9_isHere ml_X9_268 dX9_takes_2 rfl ⟨by decide, by decide⟩ ob_48.1 (by decide) (by decide) rfl (Nat.le_of_ble_eq_true rfl) (fun r2 m2 p2 => ?_)
  obtain ⟨p2, f2_0, f2_1⟩ := p2
  try simp only [f2_0, f2_1, and_true, true_and, or_true, true_or, implies_true, upn, reduceIte, Nat.reduceEqDiff, ne_eq, not_false_eq_true] at p2
  refine Z_if_ne hk (tgt := 10) dX9_takes_5 (by decide) (by omega) (by omega) (fun h5 => ?_) (fun h5 => ?_)
  · refine Z_aload0 hk dX9_takes_10 ?_
    refine Z_dup1 hk rfl dX9_takes_11 ?_
    refine Z_getI hk fl_9_251 dX9_takes_12 ob_48.1 ob_48.2.1 ob_48.2.2.1 ob_48.2.2.2 ft_9_2 (fun v12 e12 a12 b12 => ?_)
    try simp only [f2_0, f2_1, and_true, true_and, or_true, true_or, implies_true, upn, reduceIte, Nat.reduceEqDiff, ne_eq, not_false_eq_true] at e12
    refine Z_aload1 hk dX9_takes_15 ?_
    refine Z_alen hk (i := 0) dX9_takes_16 h_w.1 (by decide) h_w.2.1 ?_
    refine Z_iadd hk dX9_takes_17 ?_
    refine Z_putI hk hA fl_9_251 dX9_takes_18 ob_48.1 ob_48.2.1 ob_48.2.2.1 ob_48.2.2.2 ft_9_2 (by omega) (by omega) ?_
    refine Z_nm (fun m18 em18 => ?_)
    refine Z_aload0 hk dX9_takes_21 ?_
    refine Z_aload0 hk dX9_takes_22 ?_
    refine Z_getI hk fl_9_251 dX9_takes_23 ob_48.1 ob_48.2.1 ob_48.2.2.1 ob_48.2.2.2 ft_9_2 (fun v23 e23 a23 b23 => ?_)
    try simp only [em18, f2_0, f2_1, e12, and_true, true_and, or_true, true_or, implies_true, upn, reduceIte, Nat.reduceEqDiff, ne_eq, not_false_eq_true] at e23
    refine Z_putI hk hA fl_9_265 dX9_takes_26 ob_48.1 ob_48.2.1 ob_48.2.2.1 ob_48.2.2.2 ft_9_4 (by omega) (by omega) ?_
    refine Z_nm (fun m26 em26 => ?_)
    refine Z_iconst hk dX9_takes_29 ?_
    exact Z_zret hk hA hQ dX9_takes_30 (by decide) (by decide) ⟨rfl, rfl, _, rfl, (by exact ⟨(by (try simp only [em26, em18, f2_0, f2_1, and_true, true_and, or_true, true_or, implies_true, upn, reduceIte, Nat.reduceEqDiff, ne_eq, not_false_eq_true]) <;> (omega)), (by intro c k0; simp only [em26, em18, f2_0, f2_1, upc, upn, k0, reduceIte, Nat.reduceEqDiff, ne_eq, not_false_eq_true]), (by intro i k0 k1; simp only [em26, em18, f2_0, f2_1, upc, upn, k0, k1, reduceIte, Nat.reduceEqDiff, ne_eq, not_false_eq_true])⟩)⟩
  · refine Z_iconst hk dX9_takes_8 ?_
    exact Z_zret hk hA hQ dX9_takes_9 (by decide) (by decide) ⟨rfl, rfl, _, rfl, (by exact ⟨(by (try simp only [f2_0, f2_1, and_true, true_and, or_true, true_or, implies_true, upn, reduceIte, Nat.reduceEqDiff, ne_eq, not_false_eq_true]) <;> (omega)), (by intro c k0; simp only [f2_0, f2_1, upc, upn, k0, reduceIte, Nat.reduceEqDiff, ne_eq, not_false_eq_true]), (by intro i k0 k1; simp only [f2_0, f2_1, upc, upn, k0, k1, reduceIte, Nat.reduceEqDiff, ne_eq, not_false_eq_true])⟩)⟩
set_option maxRecDepth 10000 in
theorem c_X9_asks (l : Launch) (δ : Dp) (ad : Nat → Nat) (M : Mem) (hA : okA δ ad) (w n_w : Nat) (h_w : lay w = (103, n_w) ∧ w < 121 ∧ n_w < 2147483648) (q0 : 0 ≤ (M 48 2) ∧ (M 48 2) ≤ (M 48 3) ∧ (M 48 3) ≤ 700) : Mv l δ yX9_asks cX9_asks 2 none 3 64 ad rs [.ref (ad 48), .ref (ad w)] M (fun M' => ((M 48 2) ≤ (M' 48 2) ∧ (M' 48 2) ≤ (M 48 3) ∧ ((M 48 5) ≠ 0 → (M' 48 5) = (M 48 5)) ∧ ((M' 48 5) = 0 → (M 48 5) = 0 ∧ (M 48 2) + n_w ≤ (M' 48 2))) ∧ (∀ c : Nat, c ≠ 48 → M' c = M c) ∧ (∀ i : Nat, i ≠ 2 → i ≠ 4 → i ≠ 5 → i ≠ 6 → M' 48 i = M 48 i)) := by
  refine Mg.of (rm := rmN 3 64) (by decide) (Nat.le_of_ble_eq_true rfl) fun κ _ hk _ => ?_
  generalize hQ : Qg κ δ 121 (rmN 3 64).cells (rmN 3 64).slots _ = Q
  show Zj κ δ ad rs Q 2 (121, 0, 0) 0 [some (.ref (ad 48)), some (.ref (ad w))] [] M
  refine Z_aload0 hk dX9_asks_0 ?_
  refine Z_getI hk fl_9_245 dX9_asks_1 ob_48.1 ob_48.2.1 ob_48.2.2.1 ob_48.2.2.2 ft_9_5 (fun v1 e1 a1 b1 => ?_)
  refine Z_if_ne hk (tgt := 24) dX9_asks_4 (by decide) (by omega) (by omega) (fun h4 => ?_) (fun h4 => ?_)
  · exact Z_vret hk hA hQ dX9_asks_24 ⟨rfl, rfl, rfl, (by exact ⟨(by (omega)), (by intro c k0; rfl), (by intro i k0 k1 k2 k3; rfl)⟩)⟩
  · refine Z_aload0 hk dX9_asks_7 ?_
    refine Z_aload1 hk dX9_asks_8 ?_
    refine Z_Vi hk (c_X9_takes κ.2.1 δ ad _ hA w n_w h_w (by (omega))) ov_X9_takes ml_X9_272 dX9_asks_9 rfl ⟨by decide, by decide⟩ ob_48.1 (by decide) (by decide) rfl (Nat.le_of_ble_eq_true rfl) (fun r9 m9 p9 => ?_)
    obtain ⟨p9, f9_0, f9_1⟩ := p9
    try simp only [f9_0, f9_1, e1, and_true, true_and, or_true, true_or, implies_true, upn, reduceIte, Nat.reduceEqDiff, ne_eq, not_false_eq_true] at p9
    refine Z_if_ne hk (tgt := 24) dX9_asks_12 (by decide) (by omega) (by omega) (fun h12 => ?_) (fun h12 => ?_)
    · exact Z_vret hk hA hQ dX9_asks_24 ⟨rfl, rfl, rfl, (by exact ⟨(by (try simp only [f9_0, f9_1, and_true, true_and, or_true, true_or, implies_true, upn, reduceIte, Nat.reduceEqDiff, ne_eq, not_false_eq_true]) <;> (omega)), (by intro c k0; simp only [f9_0, f9_1, upc, upn, k0, reduceIte, Nat.reduceEqDiff, ne_eq, not_false_eq_true]), (by intro i k0 k1 k2 k3; simp only [f9_0, f9_1, upc, upn, k0, k1, k2, k3, reduceIte, Nat.reduceEqDiff, ne_eq, not_false_eq_true])⟩)⟩
    · refine Z_aload0 hk dX9_asks_15 ?_
      refine Z_iconst hk dX9_asks_16 ?_
      refine Z_aload0 hk dX9_asks_17 ?_
      refine Z_getI hk fl_9_251 dX9_asks_18 ob_48.1 ob_48.2.1 ob_48.2.2.1 ob_48.2.2.2 ft_9_2 (fun v18 e18 a18 b18 => ?_)
      try simp only [f9_0, f9_1, e1, and_true, true_and, or_true, true_or, implies_true, upn, reduceIte, Nat.reduceEqDiff, ne_eq, not_false_eq_true] at e18
      refine Z_Vv hk (c_X9_fail κ.2.1 δ ad _ hA 1 v18 (by (try simp only [f9_0, f9_1, and_true, true_and, or_true, true_or, implies_true, upn, reduceIte, Nat.reduceEqDiff, ne_eq, not_false_eq_true]) <;> (omega)) (by (try simp only [f9_0, f9_1, and_true, true_and, or_true, true_or, implies_true, upn, reduceIte, Nat.reduceEqDiff, ne_eq, not_false_eq_true]) <;> (omega))) ov_X9_fail ml_X9_275 dX9_asks_21 rfl ⟨by decide, by decide⟩ ob_48.1 (by decide) (by decide) rfl (Nat.le_of_ble_eq_true rfl) (fun m21 p21 => ?_)
      obtain ⟨p21, f21_0, f21_1⟩ := p21
      try simp only [f21_0, f21_1, f9_0, f9_1, e1, e18, and_true, true_and, or_true, true_or, implies_true, upn, reduceIte, Nat.reduceEqDiff, ne_eq, not_false_eq_true] at p21
      exact Z_vret hk hA hQ dX9_asks_24 ⟨rfl, rfl, rfl, (by exact ⟨(by (try simp only [f21_0, f21_1, f9_0, f9_1, and_true, true_and, or_true, true_or, implies_true, upn, reduceIte, Nat.reduceEqDiff, ne_eq, not_false_eq_true]) <;> (omega)), (by intro c k0; simp only [f21_0, f21_1, f9_0, f9_1, upc, upn, k0, reduceIte, Nat.reduceEqDiff, ne_eq, not_false_eq_true]), (by intro i k0 k1 k2 k3; simp only [f21_0, f21_1, f9_0, f9_1, upc, upn, k0, k1, k2, k3, reduceIte, Nat.reduceEqDiff, ne_eq, not_false_eq_true])⟩)⟩
set_option maxRecDepth 10000 in
theorem c_X9_takesSign (l : Launch) (δ : Dp) (ad : Nat → Nat) (M : Mem) (hA : okA δ ad) (c : Int) (q0 : 0 ≤ (M 48 2) ∧ (M 48 2) ≤ (M 48 3) ∧ (M 48 3) ≤ 700) (c0 : 0 ≤ c) (i_c : -2147483648 ≤ c ∧ c ≤ 2147483647) : Mi l δ yX9_takesSign cX9_takesSign 2 (some (.boolean)) 1 20 ad rs [.ref (ad 48), iv c] M (fun r M' => (0 ≤ r ∧ r ≤ 1 ∧ (M 48 2) ≤ (M' 48 2) ∧ (M' 48 2) ≤ (M 48 3) ∧ (r = 1 → (M 48 5) = 0 ∧ (M 48 2) < (M' 48 2))) ∧ (∀ c : Nat, c ≠ 48 → M' c = M c) ∧ (∀ i : Nat, i ≠ 2 → M' 48 i = M 48 i)) := by
  refine Mg.of (rm := rmN 1 20) (by decide) (Nat.le_of_ble_eq_true rfl) fun κ _ hk _ => ?_
  generalize hQ : Qg κ δ 121 (rmN 1 20).cells (rmN 1 20).slots _ = Q
  show Zj κ δ ad rs Q 2 (121, 0, 0) 0 [some (.ref (ad 48)), some (iv c)] [] M
  refine Z_aload0 hk dX9_takesSign_0 ?_
  refine Z_getI hk fl_9_245 dX9_takesSign_1 ob_48.1 ob_48.2.1 ob_48.2.2.1 ob_48.2.2.2 ft_9_5 (fun v1 e1 a1 b1 => ?_)
  refine Z_if_ne hk (tgt := 15) dX9_takesSign_4 (by decide) (by omega) (by omega) (fun h4 => ?_) (fun h4 => ?_)
  · refine Z_iconst hk dX9_takesSign_15 ?_
    exact Z_zret hk hA hQ dX9_takesSign_16 (by decide) (by decide) ⟨rfl, rfl, _, rfl, (by exact ⟨(by (omega)), (by intro c k0; rfl), (by intro i k0; rfl)⟩)⟩
  · refine Z_aload0 hk dX9_takesSign_7 ?_
    refine Z_Vi hk (c_X9_look κ.2.1 δ ad _ hA  (by (omega))) ov_X9_look ml_X9_257 dX9_takesSign_8 rfl ⟨by decide, by decide⟩ ob_48.1 (by decide) (by decide) rfl (Nat.le_of_ble_eq_true rfl) (fun r8 m8 p8 => ?_)
    obtain ⟨p8, f8_0, f8_1⟩ := p8
    try simp only [f8_0, f8_1, e1, and_true, true_and, or_true, true_or, implies_true, upn, reduceIte, Nat.reduceEqDiff, ne_eq, not_false_eq_true] at p8
    refine Z_iload1 hk dX9_takesSign_11 ?_
    refine Z_icmp_eq hk (tgt := 17) dX9_takesSign_12 (by decide) (by omega) (by omega) (by omega) (by omega) (fun h12 => ?_) (fun h12 => ?_)
    · refine Z_aload0 hk dX9_takesSign_17 ?_
      refine Z_dup1 hk rfl dX9_takesSign_18 ?_
      refine Z_getI hk fl_9_251 dX9_takesSign_19 ob_48.1 ob_48.2.1 ob_48.2.2.1 ob_48.2.2.2 ft_9_2 (fun v19 e19 a19 b19 => ?_)
      try simp only [f8_0, f8_1, e1, and_true, true_and, or_true, true_or, implies_true, upn, reduceIte, Nat.reduceEqDiff, ne_eq, not_false_eq_true] at e19
      refine Z_iconst hk dX9_takesSign_22 ?_
      refine Z_iadd hk dX9_takesSign_23 ?_
      refine Z_putI hk hA fl_9_251 dX9_takesSign_24 ob_48.1 ob_48.2.1 ob_48.2.2.1 ob_48.2.2.2 ft_9_2 (by omega) (by omega) ?_
      refine Z_nm (fun m24 em24 => ?_)
      refine Z_iconst hk dX9_takesSign_27 ?_
      exact Z_zret hk hA hQ dX9_takesSign_28 (by decide) (by decide) ⟨rfl, rfl, _, rfl, (by exact ⟨(by (try simp only [em24, f8_0, f8_1, and_true, true_and, or_true, true_or, implies_true, upn, reduceIte, Nat.reduceEqDiff, ne_eq, not_false_eq_true]) <;> (omega)), (by intro c k0; simp only [em24, f8_0, f8_1, upc, upn, k0, reduceIte, Nat.reduceEqDiff, ne_eq, not_false_eq_true]), (by intro i k0; simp only [em24, f8_0, f8_1, upc, upn, k0, reduceIte, Nat.reduceEqDiff, ne_eq, not_false_eq_true])⟩)⟩
    · refine Z_iconst hk dX9_takesSign_15 ?_
      exact Z_zret hk hA hQ dX9_takesSign_16 (by decide) (by decide) ⟨rfl, rfl, _, rfl, (by exact ⟨(by (try simp only [f8_0, f8_1, and_true, true_and, or_true, true_or, implies_true, upn, reduceIte, Nat.reduceEqDiff, ne_eq, not_false_eq_true]) <;> (omega)), (by intro c k0; simp only [f8_0, f8_1, upc, upn, k0, reduceIte, Nat.reduceEqDiff, ne_eq, not_false_eq_true]), (by intro i k0; simp only [f8_0, f8_1, upc, upn, k0, reduceIte, Nat.reduceEqDiff, ne_eq, not_false_eq_true])⟩)⟩
set_option maxRecDepth 10000 in
theorem c_X9_asksSign (l : Launch) (δ : Dp) (ad : Nat → Nat) (M : Mem) (hA : okA δ ad) (c : Int) (q0 : 0 ≤ (M 48 2) ∧ (M 48 2) ≤ (M 48 3) ∧ (M 48 3) ≤ 700) (c0 : 0 ≤ c) (i_c : -2147483648 ≤ c ∧ c ≤ 2147483647) : Mv l δ yX9_asksSign cX9_asksSign 2 none 2 41 ad rs [.ref (ad 48), iv c] M (fun M' => ((M 48 2) ≤ (M' 48 2) ∧ (M' 48 2) ≤ (M 48 3) ∧ ((M 48 5) ≠ 0 → (M' 48 5) = (M 48 5)) ∧ ((M' 48 5) = 0 → (M 48 5) = 0 ∧ (M 48 2) < (M' 48 2))) ∧ (∀ c : Nat, c ≠ 48 → M' c = M c) ∧ (∀ i : Nat, i ≠ 2 → i ≠ 5 → i ≠ 6 → M' 48 i = M 48 i)) := by
  refine Mg.of (rm := rmN 2 41) (by decide) (Nat.le_of_ble_eq_true rfl) fun κ _ hk _ => ?_
  generalize hQ : Qg κ δ 121 (rmN 2 41).cells (rmN 2 41).slots _ = Q
  show Zj κ δ ad rs Q 2 (121, 0, 0) 0 [some (.ref (ad 48)), some (iv c)] [] M
  refine Z_aload0 hk dX9_asksSign_0 ?_
  refine Z_getI hk fl_9_245 dX9_asksSign_1 ob_48.1 ob_48.2.1 ob_48.2.2.1 ob_48.2.2.2 ft_9_5 (fun v1 e1 a1 b1 => ?_)
  refine Z_if_ne hk (tgt := 24) dX9_asksSign_4 (by decide) (by omega) (by omega) (fun h4 => ?_) (fun h4 => ?_)
  · exact Z_vret hk hA hQ dX9_asksSign_24 ⟨rfl, rfl, rfl, (by exact ⟨(by (omega)), (by intro c k0; rfl), (by intro i k0 k1 k2; rfl)⟩)⟩
  · refine Z_aload0 hk dX9_asksSign_7 ?_
    refine Z_iload1 hk dX9_asksSign_8 ?_
    refine Z_Vi hk (c_X9_takesSign κ.2.1 δ ad _ hA c (by (omega)) (by (omega)) (by (omega))) ov_X9_takesSign ml_X9_279 dX9_asksSign_9 rfl ⟨by decide, by decide⟩ ob_48.1 (by decide) (by decide) rfl (Nat.le_of_ble_eq_true rfl) (fun r9 m9 p9 => ?_)
    obtain ⟨p9, f9_0, f9_1⟩ := p9
    try simp only [f9_0, f9_1, e1, and_true, true_and, or_true, true_or, implies_true, upn, reduceIte, Nat.reduceEqDiff, ne_eq, not_false_eq_true] at p9
    refine Z_if_ne hk (tgt := 24) dX9_asksSign_12 (by decide) (by omega) (by omega) (fun h12 => ?_) (fun h12 => ?_)
    · exact Z_vret hk hA hQ dX9_asksSign_24 ⟨rfl, rfl, rfl, (by exact ⟨(by (try simp only [f9_0, f9_1, and_true, true_and, or_true, true_or, implies_true, upn, reduceIte, Nat.reduceEqDiff, ne_eq, not_false_eq_true]) <;> (omega)), (by intro c k0; simp only [f9_0, f9_1, upc, upn, k0, reduceIte, Nat.reduceEqDiff, ne_eq, not_false_eq_true]), (by intro i k0 k1 k2; simp only [f9_0, f9_1, upc, upn, k0, k1, k2, reduceIte, Nat.reduceEqDiff, ne_eq, not_false_eq_true])⟩)⟩
    · refine Z_aload0 hk dX9_asksSign_15 ?_
      refine Z_iconst hk dX9_asksSign_16 ?_
      refine Z_aload0 hk dX9_asksSign_17 ?_
      refine Z_getI hk fl_9_251 dX9_asksSign_18 ob_48.1 ob_48.2.1 ob_48.2.2.1 ob_48.2.2.2 ft_9_2 (fun v18 e18 a18 b18 => ?_)
      try simp only [f9_0, f9_1, e1, and_true, true_and, or_true, true_or, implies_true, upn, reduceIte, Nat.reduceEqDiff, ne_eq, not_false_eq_true] at e18
      refine Z_Vv hk (c_X9_fail κ.2.1 δ ad _ hA 1 v18 (by (try simp only [f9_0, f9_1, and_true, true_and, or_true, true_or, implies_true, upn, reduceIte, Nat.reduceEqDiff, ne_eq, not_false_eq_true]) <;> (omega)) (by (try simp only [f9_0, f9_1, and_true, true_and, or_true, true_or, implies_true, upn, reduceIte, Nat.reduceEqDiff, ne_eq, not_false_eq_true]) <;> (omega))) ov_X9_fail ml_X9_275 dX9_asksSign_21 rfl ⟨by decide, by decide⟩ ob_48.1 (by decide) (by decide) rfl (Nat.le_of_ble_eq_true rfl) (fun m21 p21 => ?_)
      obtain ⟨p21, f21_0, f21_1⟩ := p21
      try simp only [f21_0, f21_1, f9_0, f9_1, e1, e18, and_true, true_and, or_true, true_or, implies_true, upn, reduceIte, Nat.reduceEqDiff, ne_eq, not_false_eq_true] at p21
      exact Z_vret hk hA hQ dX9_asksSign_24 ⟨rfl, rfl, rfl, (by exact ⟨(by (try simp only [f21_0, f21_1, f9_0, f9_1, and_true, true_and, or_true, true_or, implies_true, upn, reduceIte, Nat.reduceEqDiff, ne_eq, not_false_eq_true]) <;> (omega)), (by intro c k0; simp only [f21_0, f21_1, f9_0, f9_1, upc, upn, k0, reduceIte, Nat.reduceEqDiff, ne_eq, not_false_eq_true]), (by intro i k0 k1 k2; simp only [f21_0, f21_1, f9_0, f9_1, upc, upn, k0, k1, k2, reduceIte, Nat.reduceEqDiff, ne_eq, not_false_eq_true])⟩)⟩
set_option maxRecDepth 10000 in
theorem c_X9_isHere_n (l : Launch) (δ : Dp) (ad : Nat → Nat) (M : Mem) (hA : okA δ ad) (w n_w : Nat) (h_w : lay w = (103, n_w) ∧ w < 121 ∧ n_w < 2147483648) (q0 : 0 ≤ (M 48 2) ∧ (M 48 2) ≤ (M 48 3) ∧ (M 48 3) ≤ 700) (q1 : (M 48 2) < (M 48 3) ∧ M 49 ((M 48 2)).toNat ≠ 10 ∧ M 49 ((M 48 2)).toNat ≠ 32) : Mi l δ yX9_isHere cX9_isHere 4 (some (.boolean)) 1 20 ad rs [.ref (ad 48), .ref (ad w)] M (fun r M' => M = M' ∧ (0 ≤ r ∧ r ≤ 1)) := by
  refine Mg.of (rm := rmN 1 20) (by decide) (Nat.le_of_ble_eq_true rfl) fun κ _ hk _ => ?_
  generalize hQ : Qg κ δ 121 (rmN 1 20).cells (rmN 1 20).slots _ = Q
  show Zj κ δ ad rs Q 4 (121, 0, 0) 0 [some (.ref (ad 48)), some (.ref (ad w)), none, none] [] M
  refine Z_aload0 hk dX9_isHere_0 ?_
  refine Z_getI hk fl_9_245 dX9_isHere_1 ob_48.1 ob_48.2.1 ob_48.2.2.1 ob_48.2.2.2 ft_9_5 (fun v1 e1 a1 b1 => ?_)
  refine Z_if_ne hk (tgt := 28) dX9_isHere_4 (by decide) (by omega) (by omega) (fun h4 => ?_) (fun h4 => ?_)
  · refine Z_iconst hk dX9_isHere_28 ?_
    exact Z_zret hk hA hQ dX9_isHere_29 (by decide) (by decide) ⟨rfl, rfl, _, rfl, (by exact ⟨rfl, (by omega)⟩)⟩
  · refine Z_aload0 hk dX9_isHere_7 ?_
    refine Z_Vi hk (c_X9_look_n κ.2.1 δ ad _ hA  (by (omega)) (by (omega))) ov_X9_look ml_X9_257 dX9_isHere_8 rfl ⟨by decide, by decide⟩ ob_48.1 (by decide) (by decide) rfl (Nat.le_of_ble_eq_true rfl) (fun r8 m8 p8 => ?_)
    obtain ⟨rfl, p8⟩ := p8
    refine Z_Si hk (c_X9_isLetter κ.2.1 δ ad _ hA r8 (by (omega))) os_X9_isLetter ml_X9_261 dX9_isHere_11 rfl ⟨by decide, by decide⟩ rfl (Nat.le_of_ble_eq_true rfl) (fun r11 m11 p11 => ?_)
    obtain ⟨rfl, p11⟩ := p11
    refine Z_if_eq hk (tgt := 28) dX9_isHere_14 (by decide) (by omega) (by omega) (fun h14 => ?_) (fun h14 => ?_)
    · refine Z_iconst hk dX9_isHere_28 ?_
      exact Z_zret hk hA hQ dX9_isHere_29 (by decide) (by decide) ⟨rfl, rfl, _, rfl, (by exact ⟨rfl, (by omega)⟩)⟩
    · refine Z_aload0 hk dX9_isHere_17 ?_
      refine Z_getI hk fl_9_251 dX9_isHere_18 ob_48.1 ob_48.2.1 ob_48.2.2.1 ob_48.2.2.2 ft_9_2 (fun v18 e18 a18 b18 => ?_)
      try simp only [e1, and_true, true_and, or_true, true_or, implies_true, upn, reduceIte, Nat.reduceEqDiff, ne_eq, not_false_eq_true] at e18
      refine Z_aload0 hk dX9_isHere_21 ?_
      refine Z_getI hk fl_9_265 dX9_isHere_22 ob_48.1 ob_48.2.1 ob_48.2.2.1 ob_48.2.2.2 ft_9_4 (fun v22 e22 a22 b22 => ?_)
      try simp only [e1, e18, and_true, true_and, or_true, true_or, implies_true, upn, reduceIte, Nat.reduceEqDiff, ne_eq, not_false_eq_true] at e22
      refine Z_icmp_ne hk (tgt := 30) dX9_isHere_25 (by decide) (by omega) (by omega) (by omega) (by omega) (fun h25 => ?_) (fun h25 => ?_)
      · refine Z_aload0 hk dX9_isHere_30 ?_
        refine Z_getI hk fl_9_251 dX9_isHere_31 ob_48.1 ob_48.2.1 ob_48.2.2.1 ob_48.2.2.2 ft_9_2 (fun v31 e31 a31 b31 => ?_)
        try simp only [e1, e18, e22, and_true, true_and, or_true, true_or, implies_true, upn, reduceIte, Nat.reduceEqDiff, ne_eq, not_false_eq_true] at e31
        have J35 : ∀ (n : Nat) (x2_35 : Int), ((M 48 2) ≤ x2_35 ∧ x2_35 ≤ (M 48 3)) → ((M 48 3) - x2_35) < (n : Int) → Zj κ δ ad rs Q 4 (121, 0, 0) 35 [some (.ref (ad 48)), some (.ref (ad w)), some (iv x2_35), none] [] M := by
          intro n
          induction n with
          | zero => intro x2_35 h35 hm35; exfalso; omega
          | succ n ih35 =>
            intro x2_35 h35 hm35
            refine Z_iload2 hk dX9_isHere_35 ?_
            refine Z_aload0 hk dX9_isHere_36 ?_
            refine Z_getI hk fl_9_254 dX9_isHere_37 ob_48.1 ob_48.2.1 ob_48.2.2.1 ob_48.2.2.2 ft_9_3 (fun v37 e37 a37 b37 => ?_)
            try simp only [e1, e18, e22, e31, and_true, true_and, or_true, true_or, implies_true, upn, reduceIte, Nat.reduceEqDiff, ne_eq, not_false_eq_true] at e37
            have J61 : ∀ (_ : Unit), ((M 48 2) ≤ x2_35 ∧ x2_35 ≤ (M 48 3)) → Zj κ δ ad rs Q 4 (121, 0, 0) 61 [some (.ref (ad 48)), some (.ref (ad w)), some (iv x2_35), none] [] M := by
              intro _ h61
              refine Z_iload2 hk dX9_isHere_61 ?_
              refine Z_aload0 hk dX9_isHere_62 ?_
              refine Z_getI hk fl_9_251 dX9_isHere_63 ob_48.1 ob_48.2.1 ob_48.2.2.1 ob_48.2.2.2 ft_9_2 (fun v63 e63 a63 b63 => ?_)
              try simp only [e1, e18, e22, e31, e37, and_true, true_and, or_true, true_or, implies_true, upn, reduceIte, Nat.reduceEqDiff, ne_eq, not_false_eq_true] at e63
              refine Z_isub hk dX9_isHere_66 ?_
              refine Z_aload1 hk dX9_isHere_67 ?_
              refine Z_alen hk (i := 0) dX9_isHere_68 h_w.1 (by decide) h_w.2.1 ?_
              refine Z_icmp_eq hk (tgt := 74) dX9_isHere_69 (by decide) (by omega) (by omega) (by omega) (by omega) (fun h69 => ?_) (fun h69 => ?_)
              · refine Z_iconst hk dX9_isHere_74 ?_
                have J76 : ∀ (n : Nat) (x3_76 : Int), (0 ≤ x3_76 ∧ x3_76 ≤ n_w ∧ (M 48 2) + n_w ≤ (M 48 3)) → ((n_w : Int) - x3_76) < (n : Int) → Zj κ δ ad rs Q 4 (121, 0, 0) 76 [some (.ref (ad 48)), some (.ref (ad w)), some (iv x2_35), some (iv x3_76)] [] M := by
                  intro n
                  induction n with
                  | zero => intro x3_76 h76 hm76; exfalso; omega
                  | succ n ih76 =>
                    intro x3_76 h76 hm76
                    refine Z_iload3 hk dX9_isHere_76 ?_
                    refine Z_aload1 hk dX9_isHere_77 ?_
                    refine Z_alen hk (i := 0) dX9_isHere_78 h_w.1 (by decide) h_w.2.1 ?_
                    refine Z_icmp_ge hk (tgt := 107) dX9_isHere_79 (by decide) (by omega) (by omega) (by omega) (by omega) (fun h79 => ?_) (fun h79 => ?_)
                    · refine Z_iconst hk dX9_isHere_107 ?_
                      exact Z_zret hk hA hQ dX9_isHere_108 (by decide) (by decide) ⟨rfl, rfl, _, rfl, (by exact ⟨rfl, (by omega)⟩)⟩
                    · refine Z_aload0 hk dX9_isHere_82 ?_
                      refine Z_getR hk fl_9_7 dX9_isHere_83 ob_48.1 ob_48.2.1 ob_48.2.2.1 ob_48.2.2.2 ft_9_0 rs_48_0 ?_
                      refine Z_aload0 hk dX9_isHere_86 ?_
                      refine Z_getI hk fl_9_251 dX9_isHere_87 ob_48.1 ob_48.2.1 ob_48.2.2.1 ob_48.2.2.2 ft_9_2 (fun v87 e87 a87 b87 => ?_)
                      try simp only [e1, e18, e22, e31, e37, e63, and_true, true_and, or_true, true_or, implies_true, upn, reduceIte, Nat.reduceEqDiff, ne_eq, not_false_eq_true] at e87
                      refine Z_iload3 hk dX9_isHere_90 ?_
                      refine Z_iadd hk dX9_isHere_91 ?_
                      refine Z_iald hk dX9_isHere_92 ar_49.1 ar_49.2.1 ar_49.2.2 (by omega) (by omega) (fun v92 e92 a92 b92 => ?_)
                      try simp only [e1, e18, e22, e31, e37, e63, e87, and_true, true_and, or_true, true_or, implies_true, upn, reduceIte, Nat.reduceEqDiff, ne_eq, not_false_eq_true] at e92
                      refine Z_aload1 hk dX9_isHere_93 ?_
                      refine Z_iload3 hk dX9_isHere_94 ?_
                      refine Z_cald hk dX9_isHere_95 h_w.1 h_w.2.1 h_w.2.2 (by omega) (by omega) (fun v95 e95 a95 b95 => ?_)
                      try simp only [e1, e18, e22, e31, e37, e63, e87, e92, and_true, true_and, or_true, true_or, implies_true, upn, reduceIte, Nat.reduceEqDiff, ne_eq, not_false_eq_true] at e95
                      refine Z_icmp_eq hk (tgt := 101) dX9_isHere_96 (by decide) (by omega) (by omega) (by omega) (by omega) (fun h96 => ?_) (fun h96 => ?_)
                      · refine Z_iinc3 hk rfl (by decide) dX9_isHere_101 ?_
                        refine Z_goto hk (tgt := 76) dX9_isHere_104 (by decide) ?_
                        exact ih76 _ (by omega) (by (omega))
                      · refine Z_iconst hk dX9_isHere_99 ?_
                        exact Z_zret hk hA hQ dX9_isHere_100 (by decide) (by decide) ⟨rfl, rfl, _, rfl, (by exact ⟨rfl, (by omega)⟩)⟩
                refine Z_istore3 hk rfl (by decide) dX9_isHere_75 ?_
                exact J76 ((((n_w : Int) - 0) : Int).toNat + 1) _ (by omega) (by omega)
              · refine Z_iconst hk dX9_isHere_72 ?_
                exact Z_zret hk hA hQ dX9_isHere_73 (by decide) (by decide) ⟨rfl, rfl, _, rfl, (by exact ⟨rfl, (by omega)⟩)⟩
            refine Z_icmp_ge hk (tgt := 61) dX9_isHere_40 (by decide) (by omega) (by omega) (by omega) (by omega) (fun h40 => ?_) (fun h40 => ?_)
            · exact J61 () (by omega)
            · refine Z_aload0 hk dX9_isHere_43 ?_
              refine Z_getR hk fl_9_7 dX9_isHere_44 ob_48.1 ob_48.2.1 ob_48.2.2.1 ob_48.2.2.2 ft_9_0 rs_48_0 ?_
              refine Z_iload2 hk dX9_isHere_47 ?_
              refine Z_iald hk dX9_isHere_48 ar_49.1 ar_49.2.1 ar_49.2.2 (by omega) (by omega) (fun v48 e48 a48 b48 => ?_)
              try simp only [e1, e18, e22, e31, e37, and_true, true_and, or_true, true_or, implies_true, upn, reduceIte, Nat.reduceEqDiff, ne_eq, not_false_eq_true] at e48
              refine Z_Si hk (c_X9_isLetter κ.2.1 δ ad _ hA v48 (by (omega))) os_X9_isLetter ml_X9_261 dX9_isHere_49 rfl ⟨by decide, by decide⟩ rfl (Nat.le_of_ble_eq_true rfl) (fun r49 m49 p49 => ?_)
              obtain ⟨rfl, p49⟩ := p49
              refine Z_if_eq hk (tgt := 61) dX9_isHere_52 (by decide) (by omega) (by omega) (fun h52 => ?_) (fun h52 => ?_)
              · exact J61 () (by omega)
              · refine Z_iinc2 hk rfl (by decide) dX9_isHere_55 ?_
                refine Z_goto hk (tgt := 35) dX9_isHere_58 (by decide) ?_
                exact ih35 _ (by omega) (by (omega))
        refine Z_istore2 hk rfl (by decide) dX9_isHere_34 ?_
        exact J35 ((((M 48 3) - v31) : Int).toNat + 1) _ (by omega) (by omega)
      · refine Z_iconst hk dX9_isHere_28 ?_
        exact Z_zret hk hA hQ dX9_isHere_29 (by decide) (by decide) ⟨rfl, rfl, _, rfl, (by exact ⟨rfl, (by omega)⟩)⟩
