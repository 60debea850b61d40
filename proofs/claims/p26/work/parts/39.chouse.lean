set_option maxRecDepth 10000 in
theorem c_X8_feed (l : Launch) (δ : Dp) (ad : Nat → Nat) (M : Mem) (hA : okA δ ad) (a : Int) (b : Int) (c : Int) (d : Int) (e : Int) (q0 : 0 ≤ M 20 2 ∧ M 20 2 ≤ 700) (i_a : -2147483648 ≤ a ∧ a ≤ 2147483647) (i_b : -2147483648 ≤ b ∧ b ≤ 2147483647) (i_c : -2147483648 ≤ c ∧ c ≤ 2147483647) (i_d : -2147483648 ≤ d ∧ d ≤ 2147483647) (i_e : -2147483648 ≤ e ∧ e ≤ 2147483647) : Mi l δ yX8_feed cX8_feed 6 (some (.int)) 1 22 ad rs [.ref (ad 0), iv a, iv b, iv c, iv d, iv e] M (fun r M' => (0 ≤ M' 20 2 ∧ M' 20 2 ≤ 700) ∧ (∀ c : Nat, c ≠ 20 → c ≠ 31 → M' c = M c) ∧ (∀ i : Nat, i ≠ 2 → M' 20 i = M 20 i)) := by
  refine Mg.of (rm := rmN 1 22) (by decide) (Nat.le_of_ble_eq_true rfl) fun κ _ hk _ => ?_
  generalize hQ : Qg κ δ 121 (rmN 1 22).cells (rmN 1 22).slots _ = Q
  show Zj κ δ ad rs Q 6 (121, 0, 0) 0 [some (.ref (ad 0)), some (iv a), some (iv b), some (iv c), some (iv d), some (iv e)] [] M
  refine Z_aload0 hk dX8_feed_0 ?_
  refine Z_getR hk fl_8_58 dX8_feed_1 ob_0.1 ob_0.2.1 ob_0.2.2.1 ob_0.2.2.2 ft_8_0 rs_0_0 ?_
  refine Z_getI hk fl_8_84 dX8_feed_4 ob_20.1 ob_20.2.1 ob_20.2.2.1 ob_20.2.2.2 ft_4_2 (fun v4 e4 a4 b4 => ?_)
  refine Z_bipush hk dX8_feed_7 (by decide) ?_
  refine Z_iadd hk dX8_feed_9 ?_
  refine Z_sipush hk dX8_feed_10 (by decide) ?_
  refine Z_icmp_le hk (tgt := 18) dX8_feed_13 (by decide) (by omega) (by omega) (by decide) (by decide) (fun h13 => ?_) (fun h13 => ?_)
  · refine Z_aload0 hk dX8_feed_18 ?_
    refine Z_getR hk fl_8_58 dX8_feed_19 ob_0.1 ob_0.2.1 ob_0.2.2.1 ob_0.2.2.2 ft_8_0 rs_0_0 ?_
    refine Z_iload1 hk dX8_feed_22 ?_
    refine Z_Vv hk (c_X4_append κ.2.1 δ ad _ hA a (by (omega)) (by (omega))) ov_X4_append ml_X8_87 dX8_feed_23 rfl ⟨by decide, by decide⟩ ob_20.1 (by decide) (by decide) rfl (Nat.le_of_ble_eq_true rfl) (fun m23 p23 => ?_)
    obtain ⟨p23, f23_0, f23_1⟩ := p23
    try simp only [f23_0, f23_1, e4, and_true, true_and, or_true, true_or, implies_true, upn, reduceIte, Nat.reduceEqDiff, ne_eq, not_false_eq_true, upc] at p23
    refine Z_aload0 hk dX8_feed_26 ?_
    refine Z_getR hk fl_8_58 dX8_feed_27 ob_0.1 ob_0.2.1 ob_0.2.2.1 ob_0.2.2.2 ft_8_0 rs_0_0 ?_
    refine Z_iload2 hk dX8_feed_30 ?_
    refine Z_Vv hk (c_X4_append κ.2.1 δ ad _ hA b (by (try simp only [f23_0, f23_1, and_true, true_and, or_true, true_or, implies_true, upn, reduceIte, Nat.reduceEqDiff, ne_eq, not_false_eq_true, upc]) <;> (omega)) (by (try simp only [f23_0, f23_1, and_true, true_and, or_true, true_or, implies_true, upn, reduceIte, Nat.reduceEqDiff, ne_eq, not_false_eq_true, upc]) <;> (omega))) ov_X4_append ml_X8_87 dX8_feed_31 rfl ⟨by decide, by decide⟩ ob_20.1 (by decide) (by decide) rfl (Nat.le_of_ble_eq_true rfl) (fun m31 p31 => ?_)
    obtain ⟨p31, f31_0, f31_1⟩ := p31
    try simp only [f31_0, f31_1, f23_0, f23_1, e4, and_true, true_and, or_true, true_or, implies_true, upn, reduceIte, Nat.reduceEqDiff, ne_eq, not_false_eq_true, upc] at p31
    refine Z_aload0 hk dX8_feed_34 ?_
    refine Z_getR hk fl_8_58 dX8_feed_35 ob_0.1 ob_0.2.1 ob_0.2.2.1 ob_0.2.2.2 ft_8_0 rs_0_0 ?_
    refine Z_iload3 hk dX8_feed_38 ?_
    refine Z_Vv hk (c_X4_append κ.2.1 δ ad _ hA c (by (try simp only [f31_0, f31_1, f23_0, f23_1, and_true, true_and, or_true, true_or, implies_true, upn, reduceIte, Nat.reduceEqDiff, ne_eq, not_false_eq_true, upc]) <;> (omega)) (by (try simp only [f31_0, f31_1, f23_0, f23_1, and_true, true_and, or_true, true_or, implies_true, upn, reduceIte, Nat.reduceEqDiff, ne_eq, not_false_eq_true, upc]) <;> (omega))) ov_X4_append ml_X8_87 dX8_feed_39 rfl ⟨by decide, by decide⟩ ob_20.1 (by decide) (by decide) rfl (Nat.le_of_ble_eq_true rfl) (fun m39 p39 => ?_)
    obtain ⟨p39, f39_0, f39_1⟩ := p39
    try simp only [f39_0, f39_1, f31_0, f31_1, f23_0, f23_1, e4, and_true, true_and, or_true, true_or, implies_true, upn, reduceIte, Nat.reduceEqDiff, ne_eq, not_false_eq_true, upc] at p39
    refine Z_aload0 hk dX8_feed_42 ?_
    refine Z_getR hk fl_8_58 dX8_feed_43 ob_0.1 ob_0.2.1 ob_0.2.2.1 ob_0.2.2.2 ft_8_0 rs_0_0 ?_
    refine Z_iload4 hk dX8_feed_46 ?_
    refine Z_Vv hk (c_X4_append κ.2.1 δ ad _ hA d (by (try simp only [f39_0, f39_1, f31_0, f31_1, f23_0, f23_1, and_true, true_and, or_true, true_or, implies_true, upn, reduceIte, Nat.reduceEqDiff, ne_eq, not_false_eq_true, upc]) <;> (omega)) (by (try simp only [f39_0, f39_1, f31_0, f31_1, f23_0, f23_1, and_true, true_and, or_true, true_or, implies_true, upn, reduceIte, Nat.reduceEqDiff, ne_eq, not_false_eq_true, upc]) <;> (omega))) ov_X4_append ml_X8_87 dX8_feed_48 rfl ⟨by decide, by decide⟩ ob_20.1 (by decide) (by decide) rfl (Nat.le_of_ble_eq_true rfl) (fun m48 p48 => ?_)
    obtain ⟨p48, f48_0, f48_1⟩ := p48
    try simp only [f48_0, f48_1, f39_0, f39_1, f31_0, f31_1, f23_0, f23_1, e4, and_true, true_and, or_true, true_or, implies_true, upn, reduceIte, Nat.reduceEqDiff, ne_eq, not_false_eq_true, upc] at p48
    refine Z_aload0 hk dX8_feed_51 ?_
    refine Z_getR hk fl_8_58 dX8_feed_52 ob_0.1 ob_0.2.1 ob_0.2.2.1 ob_0.2.2.2 ft_8_0 rs_0_0 ?_
    refine Z_iload5 hk dX8_feed_55 ?_
    refine Z_Vv hk (c_X4_append κ.2.1 δ ad _ hA e (by (try simp only [f48_0, f48_1, f39_0, f39_1, f31_0, f31_1, f23_0, f23_1, and_true, true_and, or_true, true_or, implies_true, upn, reduceIte, Nat.reduceEqDiff, ne_eq, not_false_eq_true, upc]) <;> (omega)) (by (try simp only [f48_0, f48_1, f39_0, f39_1, f31_0, f31_1, f23_0, f23_1, and_true, true_and, or_true, true_or, implies_true, upn, reduceIte, Nat.reduceEqDiff, ne_eq, not_false_eq_true, upc]) <;> (omega))) ov_X4_append ml_X8_87 dX8_feed_57 rfl ⟨by decide, by decide⟩ ob_20.1 (by decide) (by decide) rfl (Nat.le_of_ble_eq_true rfl) (fun m57 p57 => ?_)
    obtain ⟨p57, f57_0, f57_1⟩ := p57
    try simp only [f57_0, f57_1, f48_0, f48_1, f39_0, f39_1, f31_0, f31_1, f23_0, f23_1, e4, and_true, true_and, or_true, true_or, implies_true, upn, reduceIte, Nat.reduceEqDiff, ne_eq, not_false_eq_true, upc] at p57
    refine Z_aload0 hk dX8_feed_60 ?_
    refine Z_getR hk fl_8_58 dX8_feed_61 ob_0.1 ob_0.2.1 ob_0.2.2.1 ob_0.2.2.2 ft_8_0 rs_0_0 ?_
    refine Z_getI hk fl_8_84 dX8_feed_64 ob_20.1 ob_20.2.1 ob_20.2.2.1 ob_20.2.2.2 ft_4_2 (fun v64 e64 a64 b64 => ?_)
    try simp only [f57_0, f57_1, f48_0, f48_1, f39_0, f39_1, f31_0, f31_1, f23_0, f23_1, e4, and_true, true_and, or_true, true_or, implies_true, upn, reduceIte, Nat.reduceEqDiff, ne_eq, not_false_eq_true, upc] at e64
    exact Z_iret hk hA hQ dX8_feed_67 ⟨rfl, rfl, _, rfl, (by exact ⟨(by (try simp only [f57_0, f57_1, f48_0, f48_1, f39_0, f39_1, f31_0, f31_1, f23_0, f23_1, and_true, true_and, or_true, true_or, implies_true, upn, reduceIte, Nat.reduceEqDiff, ne_eq, not_false_eq_true, upc]) <;> (omega)), (by intro c k0 k1; simp only [f57_0, f57_1, f48_0, f48_1, f39_0, f39_1, f31_0, f31_1, f23_0, f23_1, upc, upn, k0, k1, reduceIte, Nat.reduceEqDiff, ne_eq, not_false_eq_true]), (by intro i k0; simp only [f57_0, f57_1, f48_0, f48_1, f39_0, f39_1, f31_0, f31_1, f23_0, f23_1, upc, upn, k0, reduceIte, Nat.reduceEqDiff, ne_eq, not_false_eq_true])⟩)⟩
  · refine Z_iconst hk dX8_feed_16 ?_
    exact Z_iret hk hA hQ dX8_feed_17 ⟨rfl, rfl, _, rfl, (by exact ⟨(by (omega)), (by intro c k0 k1; rfl), (by intro i k0; rfl)⟩)⟩
set_option maxRecDepth 10000 in
theorem c_X8_end (l : Launch) (δ : Dp) (ad : Nat → Nat) (M : Mem) (hA : okA δ ad) (k : Int) (q0 : 0 ≤ M 20 2 ∧ M 20 2 ≤ 700) (i_k : -2147483648 ≤ k ∧ k ≤ 2147483647) : Mi l δ yX8_end cX8_end 2 (some (.boolean)) 0 0 ad rs [.ref (ad 0), iv k] M (fun r M' => (0 ≤ M' 20 2 ∧ M' 20 2 ≤ 700 ∧ 0 ≤ r ∧ r ≤ 1) ∧ (∀ c : Nat, c ≠ 20 → M' c = M c) ∧ (∀ i : Nat, i ≠ 2 → M' 20 i = M 20 i)) := by
  refine Mg.of (rm := rmN 0 0) (by decide) (Nat.le_of_ble_eq_true rfl) fun κ _ hk _ => ?_
  generalize hQ : Qg κ δ 121 (rmN 0 0).cells (rmN 0 0).slots _ = Q
  show Zj κ δ ad rs Q 2 (121, 0, 0) 0 [some (.ref (ad 0)), some (iv k)] [] M
  refine Z_iload1 hk dX8_end_0 ?_
  refine Z_if_lt hk (tgt := 15) dX8_end_1 (by decide) (by omega) (by omega) (fun h1 => ?_) (fun h1 => ?_)
  · refine Z_iconst hk dX8_end_15 ?_
    exact Z_zret hk hA hQ dX8_end_16 (by decide) (by decide) ⟨rfl, rfl, _, rfl, (by exact ⟨(by (omega)), (by intro c k0; rfl), (by intro i k0; rfl)⟩)⟩
  · refine Z_iload1 hk dX8_end_4 ?_
    refine Z_aload0 hk dX8_end_5 ?_
    refine Z_getR hk fl_8_58 dX8_end_6 ob_0.1 ob_0.2.1 ob_0.2.2.1 ob_0.2.2.2 ft_8_0 rs_0_0 ?_
    refine Z_getI hk fl_8_84 dX8_end_9 ob_20.1 ob_20.2.1 ob_20.2.2.1 ob_20.2.2.2 ft_4_2 (fun v9 e9 a9 b9 => ?_)
    refine Z_icmp_le hk (tgt := 17) dX8_end_12 (by decide) (by omega) (by omega) (by omega) (by omega) (fun h12 => ?_) (fun h12 => ?_)
    · refine Z_aload0 hk dX8_end_17 ?_
      refine Z_getR hk fl_8_58 dX8_end_18 ob_0.1 ob_0.2.1 ob_0.2.2.1 ob_0.2.2.2 ft_8_0 rs_0_0 ?_
      refine Z_iload1 hk dX8_end_21 ?_
      refine Z_putI hk hA fl_8_84 dX8_end_22 ob_20.1 ob_20.2.1 ob_20.2.2.1 ob_20.2.2.2 ft_4_2 (by omega) (by omega) ?_
      refine Z_nm (fun m22 em22 => ?_)
      refine Z_iconst hk dX8_end_25 ?_
      exact Z_zret hk hA hQ dX8_end_26 (by decide) (by decide) ⟨rfl, rfl, _, rfl, (by exact ⟨(by (try simp only [em22, and_true, true_and, or_true, true_or, implies_true, upn, reduceIte, Nat.reduceEqDiff, ne_eq, not_false_eq_true, upc]) <;> (omega)), (by intro c k0; simp only [em22, upc, upn, k0, reduceIte, Nat.reduceEqDiff, ne_eq, not_false_eq_true]), (by intro i k0; simp only [em22, upc, upn, k0, reduceIte, Nat.reduceEqDiff, ne_eq, not_false_eq_true])⟩)⟩
    · refine Z_iconst hk dX8_end_15 ?_
      exact Z_zret hk hA hQ dX8_end_16 (by decide) (by decide) ⟨rfl, rfl, _, rfl, (by exact ⟨(by (omega)), (by intro c k0; rfl), (by intro i k0; rfl)⟩)⟩
set_option maxRecDepth 10000 in
theorem c_X8_fault (l : Launch) (δ : Dp) (ad : Nat → Nat) (M : Mem) (hA : okA δ ad) (w : Int) (i_w : -2147483648 ≤ w ∧ w ≤ 2147483647) : Mi l δ yX8_fault cX8_fault 2 (some (.int)) 0 0 ad rs [.ref (ad 0), iv w] M (fun r M' => M = M' ∧ (True)) := by
  refine Mg.of (rm := rmN 0 0) (by decide) (Nat.le_of_ble_eq_true rfl) fun κ _ hk _ => ?_
  generalize hQ : Qg κ δ 121 (rmN 0 0).cells (rmN 0 0).slots _ = Q
  show Zj κ δ ad rs Q 2 (121, 0, 0) 0 [some (.ref (ad 0)), some (iv w)] [] M
  refine Z_iload1 hk dX8_fault_0 ?_
  refine Z_if_ne hk (tgt := 12) dX8_fault_1 (by decide) (by omega) (by omega) (fun h1 => ?_) (fun h1 => ?_)
  · refine Z_iload1 hk dX8_fault_12 ?_
    refine Z_iconst hk dX8_fault_13 ?_
    refine Z_icmp_ne hk (tgt := 27) dX8_fault_14 (by decide) (by omega) (by omega) (by decide) (by decide) (fun h14 => ?_) (fun h14 => ?_)
    · refine Z_iconst hk dX8_fault_27 ?_
      exact Z_iret hk hA hQ dX8_fault_28 ⟨rfl, rfl, _, rfl, (by exact ⟨rfl, (by trivial)⟩)⟩
    · refine Z_aload0 hk dX8_fault_17 ?_
      refine Z_getR hk fl_8_58 dX8_fault_18 ob_0.1 ob_0.2.1 ob_0.2.2.1 ob_0.2.2.2 ft_8_0 rs_0_0 ?_
      refine Z_getI hk fl_8_108 dX8_fault_21 ob_20.1 ob_20.2.1 ob_20.2.2.1 ob_20.2.2.2 ft_4_4 (fun v21 e21 a21 b21 => ?_)
      refine Z_goto hk (tgt := 28) dX8_fault_24 (by decide) ?_
      exact Z_iret hk hA hQ dX8_fault_28 ⟨rfl, rfl, _, rfl, (by exact ⟨rfl, (by trivial)⟩)⟩
  · refine Z_aload0 hk dX8_fault_4 ?_
    refine Z_getR hk fl_8_58 dX8_fault_5 ob_0.1 ob_0.2.1 ob_0.2.2.1 ob_0.2.2.2 ft_8_0 rs_0_0 ?_
    refine Z_getI hk fl_8_105 dX8_fault_8 ob_20.1 ob_20.2.1 ob_20.2.2.1 ob_20.2.2.2 ft_4_3 (fun v8 e8 a8 b8 => ?_)
    exact Z_iret hk hA hQ dX8_fault_11 ⟨rfl, rfl, _, rfl, (by exact ⟨rfl, (by trivial)⟩)⟩
set_option maxRecDepth 10000 in
theorem c_X8_isTrial (l : Launch) (δ : Dp) (ad : Nat → Nat) (M : Mem) (hA : okA δ ad) (t : Int) (i_t : -2147483648 ≤ t ∧ t ≤ 2147483647) : Mi l δ yX8_isTrial cX8_isTrial 2 (some (.boolean)) 0 0 ad rs [.ref (ad 0), iv t] M (fun r M' => M = M' ∧ (0 ≤ r ∧ r ≤ 1 ∧ (r = 1 ↔ 0 ≤ t ∧ t < M 38 1))) := by
  refine Mg.of (rm := rmN 0 0) (by decide) (Nat.le_of_ble_eq_true rfl) fun κ _ hk _ => ?_
  generalize hQ : Qg κ δ 121 (rmN 0 0).cells (rmN 0 0).slots _ = Q
  show Zj κ δ ad rs Q 2 (121, 0, 0) 0 [some (.ref (ad 0)), some (iv t)] [] M
  refine Z_iload1 hk dX8_isTrial_0 ?_
  refine Z_if_lt hk (tgt := 19) dX8_isTrial_1 (by decide) (by omega) (by omega) (fun h1 => ?_) (fun h1 => ?_)
  · refine Z_iconst hk dX8_isTrial_19 ?_
    exact Z_zret hk hA hQ dX8_isTrial_20 (by decide) (by decide) ⟨rfl, rfl, _, rfl, (by exact ⟨rfl, (by omega)⟩)⟩
  · refine Z_iload1 hk dX8_isTrial_4 ?_
    refine Z_aload0 hk dX8_isTrial_5 ?_
    refine Z_getR hk fl_8_69 dX8_isTrial_6 ob_0.1 ob_0.2.1 ob_0.2.2.1 ob_0.2.2.2 ft_8_7 rs_0_7 ?_
    refine Z_getI hk fl_8_242 dX8_isTrial_9 ob_38.1 ob_38.2.1 ob_38.2.2.1 ob_38.2.2.2 ft_3_1 (fun v9 e9 a9 b9 => ?_)
    refine Z_icmp_ge hk (tgt := 19) dX8_isTrial_12 (by decide) (by omega) (by omega) (by omega) (by omega) (fun h12 => ?_) (fun h12 => ?_)
    · refine Z_iconst hk dX8_isTrial_19 ?_
      exact Z_zret hk hA hQ dX8_isTrial_20 (by decide) (by decide) ⟨rfl, rfl, _, rfl, (by exact ⟨rfl, (by omega)⟩)⟩
    · refine Z_iconst hk dX8_isTrial_15 ?_
      refine Z_goto hk (tgt := 20) dX8_isTrial_16 (by decide) ?_
      exact Z_zret hk hA hQ dX8_isTrial_20 (by decide) (by decide) ⟨rfl, rfl, _, rfl, (by exact ⟨rfl, (by omega)⟩)⟩
set_option maxRecDepth 10000 in
theorem c_X8_isProduct (l : Launch) (δ : Dp) (ad : Nat → Nat) (M : Mem) (hA : okA δ ad) (t : Int) (i_t : -2147483648 ≤ t ∧ t ≤ 2147483647) : Mi l δ yX8_isProduct cX8_isProduct 2 (some (.boolean)) 0 0 ad rs [.ref (ad 0), iv t] M (fun r M' => M = M' ∧ (0 ≤ r ∧ r ≤ 1 ∧ (r = 1 ↔ 0 ≤ t ∧ t < M 38 0))) := by
  refine Mg.of (rm := rmN 0 0) (by decide) (Nat.le_of_ble_eq_true rfl) fun κ _ hk _ => ?_
  generalize hQ : Qg κ δ 121 (rmN 0 0).cells (rmN 0 0).slots _ = Q
  show Zj κ δ ad rs Q 2 (121, 0, 0) 0 [some (.ref (ad 0)), some (iv t)] [] M
  refine Z_iload1 hk dX8_isProduct_0 ?_
  refine Z_if_lt hk (tgt := 19) dX8_isProduct_1 (by decide) (by omega) (by omega) (fun h1 => ?_) (fun h1 => ?_)
  · refine Z_iconst hk dX8_isProduct_19 ?_
    exact Z_zret hk hA hQ dX8_isProduct_20 (by decide) (by decide) ⟨rfl, rfl, _, rfl, (by exact ⟨rfl, (by omega)⟩)⟩
  · refine Z_iload1 hk dX8_isProduct_4 ?_
    refine Z_aload0 hk dX8_isProduct_5 ?_
    refine Z_getR hk fl_8_69 dX8_isProduct_6 ob_0.1 ob_0.2.1 ob_0.2.2.1 ob_0.2.2.2 ft_8_7 rs_0_7 ?_
    refine Z_getI hk fl_8_239 dX8_isProduct_9 ob_38.1 ob_38.2.1 ob_38.2.2.1 ob_38.2.2.2 ft_3_0 (fun v9 e9 a9 b9 => ?_)
    refine Z_icmp_ge hk (tgt := 19) dX8_isProduct_12 (by decide) (by omega) (by omega) (by omega) (by omega) (fun h12 => ?_) (fun h12 => ?_)
    · refine Z_iconst hk dX8_isProduct_19 ?_
      exact Z_zret hk hA hQ dX8_isProduct_20 (by decide) (by decide) ⟨rfl, rfl, _, rfl, (by exact ⟨rfl, (by omega)⟩)⟩
    · refine Z_iconst hk dX8_isProduct_15 ?_
      refine Z_goto hk (tgt := 20) dX8_isProduct_16 (by decide) ?_
      exact Z_zret hk hA hQ dX8_isProduct_20 (by decide) (by decide) ⟨rfl, rfl, _, rfl, (by exact ⟨rfl, (by omega)⟩)⟩
set_option maxRecDepth 10000 in
theorem c_X8_isTaster (l : Launch) (δ : Dp) (ad : Nat → Nat) (M : Mem) (hA : okA δ ad) (t : Int) (i_t : -2147483648 ≤ t ∧ t ≤ 2147483647) : Mi l δ yX8_isTaster cX8_isTaster 1 (some (.boolean)) 0 0 ad rs [iv t] M (fun r M' => M = M' ∧ (0 ≤ r ∧ r ≤ 1 ∧ (r = 1 ↔ 0 ≤ t ∧ t ≤ 29))) := by
  refine Mg.of (rm := rmN 0 0) (by decide) (Nat.le_of_ble_eq_true rfl) fun κ _ hk _ => ?_
  generalize hQ : Qg κ δ 121 (rmN 0 0).cells (rmN 0 0).slots _ = Q
  show Zj κ δ ad rs Q 1 (121, 0, 0) 0 [some (iv t)] [] M
  refine Z_iload0 hk dX8_isTaster_0 ?_
  refine Z_if_lt hk (tgt := 14) dX8_isTaster_1 (by decide) (by omega) (by omega) (fun h1 => ?_) (fun h1 => ?_)
  · refine Z_iconst hk dX8_isTaster_14 ?_
    exact Z_zret hk hA hQ dX8_isTaster_15 (by decide) (by decide) ⟨rfl, rfl, _, rfl, (by exact ⟨rfl, (by omega)⟩)⟩
  · refine Z_iload0 hk dX8_isTaster_4 ?_
    refine Z_bipush hk dX8_isTaster_5 (by decide) ?_
    refine Z_icmp_ge hk (tgt := 14) dX8_isTaster_7 (by decide) (by omega) (by omega) (by decide) (by decide) (fun h7 => ?_) (fun h7 => ?_)
    · refine Z_iconst hk dX8_isTaster_14 ?_
      exact Z_zret hk hA hQ dX8_isTaster_15 (by decide) (by decide) ⟨rfl, rfl, _, rfl, (by exact ⟨rfl, (by omega)⟩)⟩
    · refine Z_iconst hk dX8_isTaster_10 ?_
      refine Z_goto hk (tgt := 15) dX8_isTaster_11 (by decide) ?_
      exact Z_zret hk hA hQ dX8_isTaster_15 (by decide) (by decide) ⟨rfl, rfl, _, rfl, (by exact ⟨rfl, (by omega)⟩)⟩
set_option maxRecDepth 10000 in
theorem c_X8_isSession (l : Launch) (δ : Dp) (ad : Nat → Nat) (M : Mem) (hA : okA δ ad) (t : Int) (i_t : -2147483648 ≤ t ∧ t ≤ 2147483647) : Mi l δ yX8_isSession cX8_isSession 1 (some (.boolean)) 0 0 ad rs [iv t] M (fun r M' => M = M' ∧ (0 ≤ r ∧ r ≤ 1 ∧ (r = 1 ↔ 0 ≤ t ∧ t ≤ 9))) := by
  refine Mg.of (rm := rmN 0 0) (by decide) (Nat.le_of_ble_eq_true rfl) fun κ _ hk _ => ?_
  generalize hQ : Qg κ δ 121 (rmN 0 0).cells (rmN 0 0).slots _ = Q
  show Zj κ δ ad rs Q 1 (121, 0, 0) 0 [some (iv t)] [] M
  refine Z_iload0 hk dX8_isSession_0 ?_
  refine Z_if_lt hk (tgt := 14) dX8_isSession_1 (by decide) (by omega) (by omega) (fun h1 => ?_) (fun h1 => ?_)
  · refine Z_iconst hk dX8_isSession_14 ?_
    exact Z_zret hk hA hQ dX8_isSession_15 (by decide) (by decide) ⟨rfl, rfl, _, rfl, (by exact ⟨rfl, (by omega)⟩)⟩
  · refine Z_iload0 hk dX8_isSession_4 ?_
    refine Z_bipush hk dX8_isSession_5 (by decide) ?_
    refine Z_icmp_ge hk (tgt := 14) dX8_isSession_7 (by decide) (by omega) (by omega) (by decide) (by decide) (fun h7 => ?_) (fun h7 => ?_)
    · refine Z_iconst hk dX8_isSession_14 ?_
      exact Z_zret hk hA hQ dX8_isSession_15 (by decide) (by decide) ⟨rfl, rfl, _, rfl, (by exact ⟨rfl, (by omega)⟩)⟩
    · refine Z_iconst hk dX8_isSession_10 ?_
      refine Z_goto hk (tgt := 15) dX8_isSession_11 (by decide) ?_
      exact Z_zret hk hA hQ dX8_isSession_15 (by decide) (by decide) ⟨rfl, rfl, _, rfl, (by exact ⟨rfl, (by omega)⟩)⟩
set_option maxRecDepth 10000 in
theorem c_X8_isInThousand (l : Launch) (δ : Dp) (ad : Nat → Nat) (M : Mem) (hA : okA δ ad) (t : Int) (i_t : -2147483648 ≤ t ∧ t ≤ 2147483647) : Mi l δ yX8_isInThousand cX8_isInThousand 1 (some (.boolean)) 0 0 ad rs [iv t] M (fun r M' => M = M' ∧ (0 ≤ r ∧ r ≤ 1 ∧ (r = 1 ↔ 0 ≤ t ∧ t ≤ 1000))) := by
  refine Mg.of (rm := rmN 0 0) (by decide) (Nat.le_of_ble_eq_true rfl) fun κ _ hk _ => ?_
  generalize hQ : Qg κ δ 121 (rmN 0 0).cells (rmN 0 0).slots _ = Q
  show Zj κ δ ad rs Q 1 (121, 0, 0) 0 [some (iv t)] [] M
  refine Z_iload0 hk dX8_isInThousand_0 ?_
  refine Z_if_lt hk (tgt := 15) dX8_isInThousand_1 (by decide) (by omega) (by omega) (fun h1 => ?_) (fun h1 => ?_)
  · refine Z_iconst hk dX8_isInThousand_15 ?_
    exact Z_zret hk hA hQ dX8_isInThousand_16 (by decide) (by decide) ⟨rfl, rfl, _, rfl, (by exact ⟨rfl, (by omega)⟩)⟩
  · refine Z_iload0 hk dX8_isInThousand_4 ?_
    refine Z_sipush hk dX8_isInThousand_5 (by decide) ?_
    refine Z_icmp_gt hk (tgt := 15) dX8_isInThousand_8 (by decide) (by omega) (by omega) (by decide) (by decide) (fun h8 => ?_) (fun h8 => ?_)
    · refine Z_iconst hk dX8_isInThousand_15 ?_
      exact Z_zret hk hA hQ dX8_isInThousand_16 (by decide) (by decide) ⟨rfl, rfl, _, rfl, (by exact ⟨rfl, (by omega)⟩)⟩
    · refine Z_iconst hk dX8_isInThousand_11 ?_
      refine Z_goto hk (tgt := 16) dX8_isInThousand_12 (by decide) ?_
      exact Z_zret hk hA hQ dX8_isInThousand_16 (by decide) (by decide) ⟨rfl, rfl, _, rfl, (by exact ⟨rfl, (by omega)⟩)⟩
set_option maxRecDepth 10000 in
theorem c_X8_known (l : Launch) (δ : Dp) (ad : Nat → Nat) (M : Mem) (hA : okA δ ad) (q1 : 0 ≤ M 1 0 ∧ M 1 0 ≤ 250) (qt : -1 ≤ M 0 10 ∧ M 0 10 ≤ M 1 0) : Mi l δ yX8_known cX8_known 1 (some (.int)) 0 0 ad rs [.ref (ad 0)] M (fun r M' => M = M' ∧ (0 ≤ r ∧ r ≤ M 1 0)) := by
  refine Mg.of (rm := rmN 0 0) (by decide) (Nat.le_of_ble_eq_true rfl) fun κ _ hk _ => ?_
  generalize hQ : Qg κ δ 121 (rmN 0 0).cells (rmN 0 0).slots _ = Q
  show Zj κ δ ad rs Q 1 (121, 0, 0) 0 [some (.ref (ad 0))] [] M
  refine Z_aload0 hk dX8_known_0 ?_
  refine Z_getI hk fl_8_80 dX8_known_1 ob_0.1 ob_0.2.1 ob_0.2.2.1 ob_0.2.2.2 ft_8_10 (fun v1 e1 a1 b1 => ?_)
  refine Z_iconst hk dX8_known_4 ?_
  refine Z_icmp_ne hk (tgt := 18) dX8_known_5 (by decide) (by omega) (by omega) (by decide) (by decide) (fun h5 => ?_) (fun h5 => ?_)
  · refine Z_aload0 hk dX8_known_18 ?_
    refine Z_getI hk fl_8_80 dX8_known_19 ob_0.1 ob_0.2.1 ob_0.2.2.1 ob_0.2.2.2 ft_8_10 (fun v19 e19 a19 b19 => ?_)
    try simp only [e1, and_true, true_and, or_true, true_or, implies_true, upn, reduceIte, Nat.reduceEqDiff, ne_eq, not_false_eq_true, upc] at e19
    exact Z_iret hk hA hQ dX8_known_22 ⟨rfl, rfl, _, rfl, (by exact ⟨rfl, (by omega)⟩)⟩
  · refine Z_aload0 hk dX8_known_8 ?_
    refine Z_getR hk fl_8_25 dX8_known_9 ob_0.1 ob_0.2.1 ob_0.2.2.1 ob_0.2.2.2 ft_8_1 rs_0_1 ?_
    refine Z_getI hk fl_8_154 dX8_known_12 ob_1.1 ob_1.2.1 ob_1.2.2.1 ob_1.2.2.2 ft_2_0 (fun v12 e12 a12 b12 => ?_)
    try simp only [e1, and_true, true_and, or_true, true_or, implies_true, upn, reduceIte, Nat.reduceEqDiff, ne_eq, not_false_eq_true, upc] at e12
    refine Z_goto hk (tgt := 22) dX8_known_15 (by decide) ?_
    exact Z_iret hk hA hQ dX8_known_22 ⟨rfl, rfl, _, rfl, (by exact ⟨rfl, (by omega)⟩)⟩
set_option maxRecDepth 10000 in
theorem c_X8_code (l : Launch) (δ : Dp) (ad : Nat → Nat) (M : Mem) (hA : okA δ ad) (t : Int) (k : Int) (p : Int) (qp : 0 ≤ M 38 0 ∧ M 38 0 ≤ 6 ∧ 0 ≤ M 38 1 ∧ M 38 1 ≤ 4 ∧ 0 ≤ M 38 2 ∧ M 38 2 ≤ 8 ∧ -1 ≤ M 38 5 ∧ M 38 5 ≤ 5 ∧ 0 ≤ M 38 6 ∧ M 38 6 ≤ 700) (i_t : -2147483648 ≤ t ∧ t ≤ 2147483647) (i_k : -2147483648 ≤ k ∧ k ≤ 2147483647) (i_p : -2147483648 ≤ p ∧ p ≤ 2147483647) : Mi l δ yX8_code cX8_code 4 (some (.int)) 1 21 ad rs [.ref (ad 0), iv t, iv k, iv p] M (fun r M' => M = M' ∧ (True)) := by
  refine Mg.of (rm := rmN 1 21) (by decide) (Nat.le_of_ble_eq_true rfl) fun κ _ hk _ => ?_
  generalize hQ : Qg κ δ 121 (rmN 1 21).cells (rmN 1 21).slots _ = Q
  show Zj κ δ ad rs Q 4 (121, 0, 0) 0 [some (.ref (ad 0)), some (iv t), some (iv k), some (iv p)] [] M
  refine Z_aload0 hk dX8_code_0 ?_
  refine Z_iload1 hk dX8_code_1 ?_
  refine Z_Vi hk (c_X8_isTrial κ.2.1 δ ad _ hA t (by (omega))) ov_X8_isTrial ml_X8_111 dX8_code_2 rfl ⟨by decide, by decide⟩ ob_0.1 (by decide) (by decide) rfl (Nat.le_of_ble_eq_true rfl) (fun r2 m2 p2 => ?_)
  obtain ⟨rfl, p2⟩ := p2
  refine Z_if_eq hk (tgt := 31) dX8_code_5 (by decide) (by omega) (by omega) (fun h5 => ?_) (fun h5 => ?_)
  · refine Z_iconst hk dX8_code_31 ?_
    exact Z_iret hk hA hQ dX8_code_32 ⟨rfl, rfl, _, rfl, (by exact ⟨rfl, (by trivial)⟩)⟩
  · refine Z_iload2 hk dX8_code_8 ?_
    refine Z_Si hk (c_X8_isTaster κ.2.1 δ ad _ hA k (by (omega))) os_X8_isTaster ml_X8_115 dX8_code_9 rfl ⟨by decide, by decide⟩ rfl (Nat.le_of_ble_eq_true rfl) (fun r9 m9 p9 => ?_)
    obtain ⟨rfl, p9⟩ := p9
    refine Z_if_eq hk (tgt := 31) dX8_code_12 (by decide) (by omega) (by omega) (fun h12 => ?_) (fun h12 => ?_)
    · refine Z_iconst hk dX8_code_31 ?_
      exact Z_iret hk hA hQ dX8_code_32 ⟨rfl, rfl, _, rfl, (by exact ⟨rfl, (by trivial)⟩)⟩
    · refine Z_iload3 hk dX8_code_15 ?_
      refine Z_if_lt hk (tgt := 31) dX8_code_16 (by decide) (by omega) (by omega) (fun h16 => ?_) (fun h16 => ?_)
      · refine Z_iconst hk dX8_code_31 ?_
        exact Z_iret hk hA hQ dX8_code_32 ⟨rfl, rfl, _, rfl, (by exact ⟨rfl, (by trivial)⟩)⟩
      · refine Z_iload3 hk dX8_code_19 ?_
        refine Z_aload0 hk dX8_code_20 ?_
        refine Z_getR hk fl_8_69 dX8_code_21 ob_0.1 ob_0.2.1 ob_0.2.2.1 ob_0.2.2.2 ft_8_7 rs_0_7 ?_
        refine Z_iload1 hk dX8_code_24 ?_
        refine Z_Vi hk (c_X3_places_p38 κ.2.1 δ ad _ hA t (by (omega))) ov_X3_places ml_X8_118 dX8_code_25 rfl ⟨by decide, by decide⟩ ob_38.1 (by decide) (by decide) rfl (Nat.le_of_ble_eq_true rfl) (fun r25 m25 p25 => ?_)
        obtain ⟨rfl, p25⟩ := p25
        refine Z_icmp_lt hk (tgt := 33) dX8_code_28 (by decide) (by omega) (by omega) (by omega) (by omega) (fun h28 => ?_) (fun h28 => ?_)
        · refine Z_aload0 hk dX8_code_33 ?_
          refine Z_getR hk fl_8_69 dX8_code_34 ob_0.1 ob_0.2.1 ob_0.2.2.1 ob_0.2.2.2 ft_8_7 rs_0_7 ?_
          refine Z_getR hk fl_8_122 dX8_code_37 ob_38.1 ob_38.2.1 ob_38.2.2.1 ob_38.2.2.2 ft_3_13 rs_38_13 ?_
          refine Z_iload1 hk dX8_code_40 ?_
          refine Z_bipush hk dX8_code_41 (by decide) ?_
          refine Z_imul hk dX8_code_43 ?_
          refine Z_iload2 hk dX8_code_44 ?_
          refine Z_aload0 hk dX8_code_45 ?_
          refine Z_getR hk fl_8_69 dX8_code_46 ob_0.1 ob_0.2.1 ob_0.2.2.1 ob_0.2.2.2 ft_8_7 rs_0_7 ?_
          refine Z_iload1 hk dX8_code_49 ?_
          refine Z_Vi hk (c_X3_places_p38 κ.2.1 δ ad _ hA t (by (omega))) ov_X3_places ml_X8_118 dX8_code_50 rfl ⟨by decide, by decide⟩ ob_38.1 (by decide) (by decide) rfl (Nat.le_of_ble_eq_true rfl) (fun r50 m50 p50 => ?_)
          obtain ⟨rfl, p50⟩ := p50
          have g50 : 0 ≤ k * r50 ∧ k * r50 + r25 ≤ 90 := by
            have e : r25 = r50 := by omega
            rw [e]
            rcases p50.1 with e | e <;> (rw [e]; omega)
          refine Z_imul hk dX8_code_53 ?_
          refine Z_iadd hk dX8_code_54 ?_
          refine Z_iload3 hk dX8_code_55 ?_
          refine Z_iadd hk dX8_code_56 ?_
          refine Z_iald hk dX8_code_57 ar_45.1 ar_45.2.1 ar_45.2.2 (by omega) (by omega) (fun v57 e57 a57 b57 => ?_)
          exact Z_iret hk hA hQ dX8_code_58 ⟨rfl, rfl, _, rfl, (by exact ⟨rfl, (by trivial)⟩)⟩
        · refine Z_iconst hk dX8_code_31 ?_
          exact Z_iret hk hA hQ dX8_code_32 ⟨rfl, rfl, _, rfl, (by exact ⟨rfl, (by trivial)⟩)⟩
set_option maxRecDepth 10000 in
theorem c_X8_answer (l : Launch) (δ : Dp) (ad : Nat → Nat) (M : Mem) (hA : okA δ ad) (t : Int) (k : Int) (c : Int) (qp : 0 ≤ M 38 0 ∧ M 38 0 ≤ 6 ∧ 0 ≤ M 38 1 ∧ M 38 1 ≤ 4 ∧ 0 ≤ M 38 2 ∧ M 38 2 ≤ 8 ∧ -1 ≤ M 38 5 ∧ M 38 5 ≤ 5 ∧ 0 ≤ M 38 6 ∧ M 38 6 ≤ 700) (q1 : 0 ≤ M 1 0 ∧ M 1 0 ≤ 250) (q2 : AD (M 1 0) (M 2) (M 3) (M 4) (M 5) (M 6)) (i_t : -2147483648 ≤ t ∧ t ≤ 2147483647) (i_k : -2147483648 ≤ k ∧ k ≤ 2147483647) (i_c : -2147483648 ≤ c ∧ c ≤ 2147483647) : Mi l δ yX8_answer cX8_answer 5 (some (.int)) 3 65 ad rs [.ref (ad 0), iv t, iv k, iv c] M (fun r M' => (M 1 0 ≤ M' 1 0 ∧ M' 1 0 ≤ 250) ∧ (∀ c : Nat, c ≠ 1 → c ≠ 2 → c ≠ 3 → c ≠ 4 → c ≠ 5 → c ≠ 6 → c ≠ 7 → M' c = M c) ∧ (∀ i : Nat, i ≠ 0 → M' 1 i = M 1 i) ∧ (AD (M' 1 0) (M' 2) (M' 3) (M' 4) (M' 5) (M' 6))) := by
  refine Mg.of (rm := rmN 3 65) (by decide) (Nat.le_of_ble_eq_true rfl) fun κ _ hk _ => ?_
  generalize hQ : Qg κ δ 121 (rmN 3 65).cells (rmN 3 65).slots _ = Q
  show Zj κ δ ad rs Q 5 (121, 0, 0) 0 [some (.ref (ad 0)), some (iv t), some (iv k), some (iv c), none] [] M
  refine Z_aload0 hk dX8_answer_0 ?_
  refine Z_getZ hk fl_8_77 dX8_answer_1 ob_0.1 ob_0.2.1 ob_0.2.2.1 ob_0.2.2.2 ft_8_9 (fun v1 e1 a1 b1 => ?_)
  refine Z_if_ne hk (tgt := 32) dX8_answer_4 (by decide) (by omega) (by omega) (fun h4 => ?_) (fun h4 => ?_)
  · refine Z_iconst hk dX8_answer_32 ?_
    exact Z_iret hk hA hQ dX8_answer_33 ⟨rfl, rfl, _, rfl, (by exact ⟨(by (omega)), (by intro c k0 k1 k2 k3 k4 k5 k6; rfl), (by intro i k0; rfl), (by (try simp only [e1, and_true, true_and, or_true, true_or, implies_true, upn, reduceIte, Nat.reduceEqDiff, ne_eq, not_false_eq_true, upc, upc]) <;> (first | assumption | exact q2))⟩)⟩
  · refine Z_aload0 hk dX8_answer_7 ?_
    refine Z_getR hk fl_8_25 dX8_answer_8 ob_0.1 ob_0.2.1 ob_0.2.2.1 ob_0.2.2.2 ft_8_1 rs_0_1 ?_
    refine Z_Vi hk (c_X2_isFull κ.2.1 δ ad _ hA  ) ov_X2_isFull ml_X8_126 dX8_answer_11 rfl ⟨by decide, by decide⟩ ob_1.1 (by decide) (by decide) rfl (Nat.le_of_ble_eq_true rfl) (fun r11 m11 p11 => ?_)
    obtain ⟨rfl, p11⟩ := p11
    refine Z_if_ne hk (tgt := 32) dX8_answer_14 (by decide) (by omega) (by omega) (fun h14 => ?_) (fun h14 => ?_)
    · refine Z_iconst hk dX8_answer_32 ?_
      exact Z_iret hk hA hQ dX8_answer_33 ⟨rfl, rfl, _, rfl, (by exact ⟨(by (omega)), (by intro c k0 k1 k2 k3 k4 k5 k6; rfl), (by intro i k0; rfl), (by (try simp only [e1, and_true, true_and, or_true, true_or, implies_true, upn, reduceIte, Nat.reduceEqDiff, ne_eq, not_false_eq_true, upc, upc]) <;> (first | assumption | exact q2))⟩)⟩
    · refine Z_aload0 hk dX8_answer_17 ?_
      refine Z_iload1 hk dX8_answer_18 ?_
      refine Z_Vi hk (c_X8_isTrial κ.2.1 δ ad _ hA t (by (omega))) ov_X8_isTrial ml_X8_111 dX8_answer_19 rfl ⟨by decide, by decide⟩ ob_0.1 (by decide) (by decide) rfl (Nat.le_of_ble_eq_true rfl) (fun r19 m19 p19 => ?_)
      obtain ⟨rfl, p19⟩ := p19
      refine Z_if_eq hk (tgt := 32) dX8_answer_22 (by decide) (by omega) (by omega) (fun h22 => ?_) (fun h22 => ?_)
      · refine Z_iconst hk dX8_answer_32 ?_
        exact Z_iret hk hA hQ dX8_answer_33 ⟨rfl, rfl, _, rfl, (by exact ⟨(by (omega)), (by intro c k0 k1 k2 k3 k4 k5 k6; rfl), (by intro i k0; rfl), (by (try simp only [e1, and_true, true_and, or_true, true_or, implies_true, upn, reduceIte, Nat.reduceEqDiff, ne_eq, not_false_eq_true, upc, upc]) <;> (first | assumption | exact q2))⟩)⟩
      · refine Z_iload2 hk dX8_answer_25 ?_
        refine Z_Si hk (c_X8_isTaster κ.2.1 δ ad _ hA k (by (omega))) os_X8_isTaster ml_X8_115 dX8_answer_26 rfl ⟨by decide, by decide⟩ rfl (Nat.le_of_ble_eq_true rfl) (fun r26 m26 p26 => ?_)
        obtain ⟨rfl, p26⟩ := p26
        refine Z_if_ne hk (tgt := 34) dX8_answer_29 (by decide) (by omega) (by omega) (fun h29 => ?_) (fun h29 => ?_)
        · refine Z_iload3 hk dX8_answer_34 ?_
          refine Z_if_ne hk (tgt := 67) dX8_answer_35 (by decide) (by omega) (by omega) (fun h35 => ?_) (fun h35 => ?_)
          · refine Z_aload0 hk dX8_answer_67 ?_
            refine Z_getR hk fl_8_69 dX8_answer_68 ob_0.1 ob_0.2.1 ob_0.2.2.1 ob_0.2.2.2 ft_8_7 rs_0_7 ?_
            refine Z_iload1 hk dX8_answer_71 ?_
            refine Z_iload3 hk dX8_answer_72 ?_
            refine Z_Vi hk (c_X3_cupOf_p38 κ.2.1 δ ad _ hA t c (by (omega)) (by (omega))) ov_X3_cupOf ml_X8_138 dX8_answer_73 rfl ⟨by decide, by decide⟩ ob_38.1 (by decide) (by decide) rfl (Nat.le_of_ble_eq_true rfl) (fun r73 m73 p73 => ?_)
            obtain ⟨rfl, p73⟩ := p73
            refine Z_istore4 hk rfl (by decide) dX8_answer_76 ?_
            refine Z_iload4 hk dX8_answer_78 ?_
            refine Z_iconst hk dX8_answer_80 ?_
            refine Z_icmp_eq hk (tgt := 99) dX8_answer_81 (by decide) (by omega) (by omega) (by decide) (by decide) (fun h81 => ?_) (fun h81 => ?_)
            · refine Z_iconst hk dX8_answer_99 ?_
              exact Z_iret hk hA hQ dX8_answer_100 ⟨rfl, rfl, _, rfl, (by exact ⟨(by (omega)), (by intro c k0 k1 k2 k3 k4 k5 k6; rfl), (by intro i k0; rfl), (by (try simp only [e1, and_true, true_and, or_true, true_or, implies_true, upn, reduceIte, Nat.reduceEqDiff, ne_eq, not_false_eq_true, upc, upc]) <;> (first | assumption | exact q2))⟩)⟩
            · refine Z_iload4 hk dX8_answer_84 ?_
              refine Z_aload0 hk dX8_answer_86 ?_
              refine Z_getR hk fl_8_69 dX8_answer_87 ob_0.1 ob_0.2.1 ob_0.2.2.1 ob_0.2.2.2 ft_8_7 rs_0_7 ?_
              refine Z_iload1 hk dX8_answer_90 ?_
              refine Z_Vi hk (c_X3_places_p38 κ.2.1 δ ad _ hA t (by (omega))) ov_X3_places ml_X8_118 dX8_answer_91 rfl ⟨by decide, by decide⟩ ob_38.1 (by decide) (by decide) rfl (Nat.le_of_ble_eq_true rfl) (fun r91 m91 p91 => ?_)
              obtain ⟨rfl, p91⟩ := p91
              refine Z_idiv hk dX8_answer_94 (by omega) (by omega) (by omega) (by omega) (by omega) ?_
              refine Z_wI (fun w94 a94w b94w g94w => ?_)
              refine Z_iload2 hk dX8_answer_95 ?_
              refine Z_icmp_eq hk (tgt := 101) dX8_answer_96 (by decide) (by omega) (by omega) (by omega) (by omega) (fun h96 => ?_) (fun h96 => ?_)
              · refine Z_aload0 hk dX8_answer_101 ?_
                refine Z_getR hk fl_8_25 dX8_answer_102 ob_0.1 ob_0.2.1 ob_0.2.2.1 ob_0.2.2.2 ft_8_1 rs_0_1 ?_
                refine Z_iconst hk dX8_answer_105 ?_
                refine Z_iload1 hk dX8_answer_106 ?_
                refine Z_iload2 hk dX8_answer_107 ?_
                refine Z_iload4 hk dX8_answer_108 ?_
                refine Z_iconst hk dX8_answer_110 ?_
                refine Z_Vi hk (c_X2_note κ.2.1 δ ad _ hA 1 t k r73 0 (by (omega)) (by (exact q2)) (by (exact ⟨fun h => by omega, fun h => by omega, fun h => by omega⟩)) (by (omega)) (by (omega)) (by (omega)) (by (omega)) (by (omega))) ov_X2_note ml_X8_134 dX8_answer_111 rfl ⟨by decide, by decide⟩ ob_1.1 (by decide) (by decide) rfl (Nat.le_of_ble_eq_true rfl) (fun r111 m111 p111 => ?_)
                obtain ⟨p111, f111_0, f111_1, f111_2⟩ := p111
                try simp only [f111_0, f111_1, f111_2, e1, and_true, true_and, or_true, true_or, implies_true, upn, reduceIte, Nat.reduceEqDiff, ne_eq, not_false_eq_true, upc] at p111
                try simp only [f111_0, f111_1, and_true, true_and, or_true, true_or, implies_true, upn, reduceIte, Nat.reduceEqDiff, ne_eq, not_false_eq_true, upc] at f111_2
                exact Z_iret hk hA hQ dX8_answer_114 ⟨rfl, rfl, _, rfl, (by exact ⟨(by (try simp only [f111_0, f111_1, f111_2, and_true, true_and, or_true, true_or, implies_true, upn, reduceIte, Nat.reduceEqDiff, ne_eq, not_false_eq_true, upc]) <;> (omega)), (by intro c k0 k1 k2 k3 k4 k5 k6; simp only [f111_0, f111_1, f111_2, upc, upn, k0, k1, k2, k3, k4, k5, k6, reduceIte, Nat.reduceEqDiff, ne_eq, not_false_eq_true]), (by intro i k0; simp only [f111_0, f111_1, f111_2, upc, upn, k0, reduceIte, Nat.reduceEqDiff, ne_eq, not_false_eq_true]), (by (try simp only [f111_0, f111_1, f111_2, e1, and_true, true_and, or_true, true_or, implies_true, upn, reduceIte, Nat.reduceEqDiff, ne_eq, not_false_eq_true, upc, upc]) <;> (first | assumption | exact q2))⟩)⟩
              · refine Z_iconst hk dX8_answer_99 ?_
                exact Z_iret hk hA hQ dX8_answer_100 ⟨rfl, rfl, _, rfl, (by exact ⟨(by (omega)), (by intro c k0 k1 k2 k3 k4 k5 k6; rfl), (by intro i k0; rfl), (by (try simp only [e1, and_true, true_and, or_true, true_or, implies_true, upn, reduceIte, Nat.reduceEqDiff, ne_eq, not_false_eq_true, upc, upc]) <;> (first | assumption | exact q2))⟩)⟩
          · refine Z_aload0 hk dX8_answer_38 ?_
            refine Z_getR hk fl_8_69 dX8_answer_39 ob_0.1 ob_0.2.1 ob_0.2.2.1 ob_0.2.2.2 ft_8_7 rs_0_7 ?_
            refine Z_getR hk fl_8_130 dX8_answer_42 ob_38.1 ob_38.2.1 ob_38.2.2.1 ob_38.2.2.2 ft_3_8 rs_38_8 ?_
            refine Z_iload1 hk dX8_answer_45 ?_
            refine Z_zald hk dX8_answer_46 ar_40.1 ar_40.2.1 ar_40.2.2 (by omega) (by omega) (fun v46 e46 a46 b46 => ?_)
            try simp only [e1, and_true, true_and, or_true, true_or, implies_true, upn, reduceIte, Nat.reduceEqDiff, ne_eq, not_false_eq_true, upc] at e46
            refine Z_if_eq hk (tgt := 54) dX8_answer_47 (by decide) (by omega) (by omega) (fun h47 => ?_) (fun h47 => ?_)
            · refine Z_aload0 hk dX8_answer_54 ?_
              refine Z_getR hk fl_8_25 dX8_answer_55 ob_0.1 ob_0.2.1 ob_0.2.2.1 ob_0.2.2.2 ft_8_1 rs_0_1 ?_
              refine Z_iconst hk dX8_answer_58 ?_
              refine Z_iload1 hk dX8_answer_59 ?_
              refine Z_iload2 hk dX8_answer_60 ?_
              refine Z_iconst hk dX8_answer_61 ?_
              refine Z_iconst hk dX8_answer_62 ?_
              refine Z_Vi hk (c_X2_note κ.2.1 δ ad _ hA 1 t k (-1) 0 (by (omega)) (by (exact q2)) (by (exact ⟨fun h => by omega, fun h => by omega, fun h => by omega⟩)) (by (omega)) (by (omega)) (by (omega)) (by (omega)) (by (omega))) ov_X2_note ml_X8_134 dX8_answer_63 rfl ⟨by decide, by decide⟩ ob_1.1 (by decide) (by decide) rfl (Nat.le_of_ble_eq_true rfl) (fun r63 m63 p63 => ?_)
              obtain ⟨p63, f63_0, f63_1, f63_2⟩ := p63
              try simp only [f63_0, f63_1, f63_2, e1, e46, and_true, true_and, or_true, true_or, implies_true, upn, reduceIte, Nat.reduceEqDiff, ne_eq, not_false_eq_true, upc] at p63
              try simp only [f63_0, f63_1, and_true, true_and, or_true, true_or, implies_true, upn, reduceIte, Nat.reduceEqDiff, ne_eq, not_false_eq_true, upc] at f63_2
              exact Z_iret hk hA hQ dX8_answer_66 ⟨rfl, rfl, _, rfl, (by exact ⟨(by (try simp only [f63_0, f63_1, f63_2, and_true, true_and, or_true, true_or, implies_true, upn, reduceIte, Nat.reduceEqDiff, ne_eq, not_false_eq_true, upc]) <;> (omega)), (by intro c k0 k1 k2 k3 k4 k5 k6; simp only [f63_0, f63_1, f63_2, upc, upn, k0, k1, k2, k3, k4, k5, k6, reduceIte, Nat.reduceEqDiff, ne_eq, not_false_eq_true]), (by intro i k0; simp only [f63_0, f63_1, f63_2, upc, upn, k0, reduceIte, Nat.reduceEqDiff, ne_eq, not_false_eq_true]), (by (try simp only [f63_0, f63_1, f63_2, e1, e46, and_true, true_and, or_true, true_or, implies_true, upn, reduceIte, Nat.reduceEqDiff, ne_eq, not_false_eq_true, upc, upc]) <;> (first | assumption | exact q2))⟩)⟩
            · refine Z_iconst hk dX8_answer_50 ?_
              refine Z_goto hk (tgt := 66) dX8_answer_51 (by decide) ?_
              exact Z_iret hk hA hQ dX8_answer_66 ⟨rfl, rfl, _, rfl, (by exact ⟨(by (omega)), (by intro c k0 k1 k2 k3 k4 k5 k6; rfl), (by intro i k0; rfl), (by (try simp only [e1, e46, and_true, true_and, or_true, true_or, implies_true, upn, reduceIte, Nat.reduceEqDiff, ne_eq, not_false_eq_true, upc, upc]) <;> (first | assumption | exact q2))⟩)⟩
        · refine Z_iconst hk dX8_answer_32 ?_
          exact Z_iret hk hA hQ dX8_answer_33 ⟨rfl, rfl, _, rfl, (by exact ⟨(by (omega)), (by intro c k0 k1 k2 k3 k4 k5 k6; rfl), (by intro i k0; rfl), (by (try simp only [e1, and_true, true_and, or_true, true_or, implies_true, upn, reduceIte, Nat.reduceEqDiff, ne_eq, not_false_eq_true, upc, upc]) <;> (first | assumption | exact q2))⟩)⟩
set_option maxRecDepth 10000 in
theorem c_X8_score (l : Launch) (δ : Dp) (ad : Nat → Nat) (M : Mem) (hA : okA δ ad) (k : Int) (s : Int) (p : Int) (v : Int) (qp : 0 ≤ M 38 0 ∧ M 38 0 ≤ 6 ∧ 0 ≤ M 38 1 ∧ M 38 1 ≤ 4 ∧ 0 ≤ M 38 2 ∧ M 38 2 ≤ 8 ∧ -1 ≤ M 38 5 ∧ M 38 5 ≤ 5 ∧ 0 ≤ M 38 6 ∧ M 38 6 ≤ 700) (q1 : 0 ≤ M 1 0 ∧ M 1 0 ≤ 250) (q2 : AD (M 1 0) (M 2) (M 3) (M 4) (M 5) (M 6)) (i_k : -2147483648 ≤ k ∧ k ≤ 2147483647) (i_s : -2147483648 ≤ s ∧ s ≤ 2147483647) (i_p : -2147483648 ≤ p ∧ p ≤ 2147483647) (i_v : -2147483648 ≤ v ∧ v ≤ 2147483647) : Mi l δ yX8_score cX8_score 5 (some (.int)) 2 45 ad rs [.ref (ad 0), iv k, iv s, iv p, iv v] M (fun r M' => (M 1 0 ≤ M' 1 0 ∧ M' 1 0 ≤ 250) ∧ (∀ c : Nat, c ≠ 1 → c ≠ 2 → c ≠ 3 → c ≠ 4 → c ≠ 5 → c ≠ 6 → c ≠ 7 → M' c = M c) ∧ (∀ i : Nat, i ≠ 0 → M' 1 i = M 1 i) ∧ (AD (M' 1 0) (M' 2) (M' 3) (M' 4) (M' 5) (M' 6))) := by
  refine Mg.of (rm := rmN 2 45) (by decide) (Nat.le_of_ble_eq_true rfl) fun κ _ hk _ => ?_
  generalize hQ : Qg κ δ 121 (rmN 2 45).cells (rmN 2 45).slots _ = Q
  show Zj κ δ ad rs Q 5 (121, 0, 0) 0 [some (.ref (ad 0)), some (iv k), some (iv s), some (iv p), some (iv v)] [] M
  refine Z_aload0 hk dX8_score_0 ?_
  refine Z_getZ hk fl_8_77 dX8_score_1 ob_0.1 ob_0.2.1 ob_0.2.2.1 ob_0.2.2.2 ft_8_9 (fun v1 e1 a1 b1 => ?_)
  refine Z_if_ne hk (tgt := 39) dX8_score_4 (by decide) (by omega) (by omega) (fun h4 => ?_) (fun h4 => ?_)
  · refine Z_iconst hk dX8_score_39 ?_
    exact Z_iret hk hA hQ dX8_score_40 ⟨rfl, rfl, _, rfl, (by exact ⟨(by (omega)), (by intro c k0 k1 k2 k3 k4 k5 k6; rfl), (by intro i k0; rfl), (by (try simp only [e1, and_true, true_and, or_true, true_or, implies_true, upn, reduceIte, Nat.reduceEqDiff, ne_eq, not_false_eq_true, upc, upc]) <;> (first | assumption | exact q2))⟩)⟩
  · refine Z_aload0 hk dX8_score_7 ?_
    refine Z_getR hk fl_8_25 dX8_score_8 ob_0.1 ob_0.2.1 ob_0.2.2.1 ob_0.2.2.2 ft_8_1 rs_0_1 ?_
    refine Z_Vi hk (c_X2_isFull κ.2.1 δ ad _ hA  ) ov_X2_isFull ml_X8_126 dX8_score_11 rfl ⟨by decide, by decide⟩ ob_1.1 (by decide) (by decide) rfl (Nat.le_of_ble_eq_true rfl) (fun r11 m11 p11 => ?_)
    obtain ⟨rfl, p11⟩ := p11
    refine Z_if_ne hk (tgt := 39) dX8_score_14 (by decide) (by omega) (by omega) (fun h14 => ?_) (fun h14 => ?_)
    · refine Z_iconst hk dX8_score_39 ?_
      exact Z_iret hk hA hQ dX8_score_40 ⟨rfl, rfl, _, rfl, (by exact ⟨(by (omega)), (by intro c k0 k1 k2 k3 k4 k5 k6; rfl), (by intro i k0; rfl), (by (try simp only [e1, and_true, true_and, or_true, true_or, implies_true, upn, reduceIte, Nat.reduceEqDiff, ne_eq, not_false_eq_true, upc, upc]) <;> (first | assumption | exact q2))⟩)⟩
    · refine Z_iload1 hk dX8_score_17 ?_
      refine Z_Si hk (c_X8_isTaster κ.2.1 δ ad _ hA k (by (omega))) os_X8_isTaster ml_X8_115 dX8_score_18 rfl ⟨by decide, by decide⟩ rfl (Nat.le_of_ble_eq_true rfl) (fun r18 m18 p18 => ?_)
      obtain ⟨rfl, p18⟩ := p18
      refine Z_if_eq hk (tgt := 39) dX8_score_21 (by decide) (by omega) (by omega) (fun h21 => ?_) (fun h21 => ?_)
      · refine Z_iconst hk dX8_score_39 ?_
        exact Z_iret hk hA hQ dX8_score_40 ⟨rfl, rfl, _, rfl, (by exact ⟨(by (omega)), (by intro c k0 k1 k2 k3 k4 k5 k6; rfl), (by intro i k0; rfl), (by (try simp only [e1, and_true, true_and, or_true, true_or, implies_true, upn, reduceIte, Nat.reduceEqDiff, ne_eq, not_false_eq_true, upc, upc]) <;> (first | assumption | exact q2))⟩)⟩
      · refine Z_iload2 hk dX8_score_24 ?_
        refine Z_Si hk (c_X8_isSession κ.2.1 δ ad _ hA s (by (omega))) os_X8_isSession ml_X8_142 dX8_score_25 rfl ⟨by decide, by decide⟩ rfl (Nat.le_of_ble_eq_true rfl) (fun r25 m25 p25 => ?_)
        obtain ⟨rfl, p25⟩ := p25
        refine Z_if_eq hk (tgt := 39) dX8_score_28 (by decide) (by omega) (by omega) (fun h28 => ?_) (fun h28 => ?_)
        · refine Z_iconst hk dX8_score_39 ?_
          exact Z_iret hk hA hQ dX8_score_40 ⟨rfl, rfl, _, rfl, (by exact ⟨(by (omega)), (by intro c k0 k1 k2 k3 k4 k5 k6; rfl), (by intro i k0; rfl), (by (try simp only [e1, and_true, true_and, or_true, true_or, implies_true, upn, reduceIte, Nat.reduceEqDiff, ne_eq, not_false_eq_true, upc, upc]) <;> (first | assumption | exact q2))⟩)⟩
        · refine Z_aload0 hk dX8_score_31 ?_
          refine Z_iload3 hk dX8_score_32 ?_
          refine Z_Vi hk (c_X8_isProduct κ.2.1 δ ad _ hA p (by (omega))) ov_X8_isProduct ml_X8_145 dX8_score_33 rfl ⟨by decide, by decide⟩ ob_0.1 (by decide) (by decide) rfl (Nat.le_of_ble_eq_true rfl) (fun r33 m33 p33 => ?_)
          obtain ⟨rfl, p33⟩ := p33
          refine Z_if_ne hk (tgt := 41) dX8_score_36 (by decide) (by omega) (by omega) (fun h36 => ?_) (fun h36 => ?_)
          · refine Z_iload4 hk dX8_score_41 ?_
            refine Z_if_lt hk (tgt := 53) dX8_score_43 (by decide) (by omega) (by omega) (fun h43 => ?_) (fun h43 => ?_)
            · refine Z_iconst hk dX8_score_53 ?_
              exact Z_iret hk hA hQ dX8_score_54 ⟨rfl, rfl, _, rfl, (by exact ⟨(by (omega)), (by intro c k0 k1 k2 k3 k4 k5 k6; rfl), (by intro i k0; rfl), (by (try simp only [e1, and_true, true_and, or_true, true_or, implies_true, upn, reduceIte, Nat.reduceEqDiff, ne_eq, not_false_eq_true, upc, upc]) <;> (first | assumption | exact q2))⟩)⟩
            · refine Z_iload4 hk dX8_score_46 ?_
              refine Z_bipush hk dX8_score_48 (by decide) ?_
              refine Z_icmp_le hk (tgt := 55) dX8_score_50 (by decide) (by omega) (by omega) (by decide) (by decide) (fun h50 => ?_) (fun h50 => ?_)
              · refine Z_aload0 hk dX8_score_55 ?_
                refine Z_getR hk fl_8_25 dX8_score_56 ob_0.1 ob_0.2.1 ob_0.2.2.1 ob_0.2.2.2 ft_8_1 rs_0_1 ?_
                refine Z_iconst hk dX8_score_59 ?_
                refine Z_iload1 hk dX8_score_60 ?_
                refine Z_iload2 hk dX8_score_61 ?_
                refine Z_iload3 hk dX8_score_62 ?_
                refine Z_iload4 hk dX8_score_63 ?_
                refine Z_Vi hk (c_X2_note κ.2.1 δ ad _ hA 2 k s p v (by (omega)) (by (exact q2)) (by (exact ⟨fun h => by omega, fun h => by omega, fun h => by omega⟩)) (by (omega)) (by (omega)) (by (omega)) (by (omega)) (by (omega))) ov_X2_note ml_X8_134 dX8_score_65 rfl ⟨by decide, by decide⟩ ob_1.1 (by decide) (by decide) rfl (Nat.le_of_ble_eq_true rfl) (fun r65 m65 p65 => ?_)
                obtain ⟨p65, f65_0, f65_1, f65_2⟩ := p65
                try simp only [f65_0, f65_1, f65_2, e1, and_true, true_and, or_true, true_or, implies_true, upn, reduceIte, Nat.reduceEqDiff, ne_eq, not_false_eq_true, upc] at p65
                try simp only [f65_0, f65_1, and_true, true_and, or_true, true_or, implies_true, upn, reduceIte, Nat.reduceEqDiff, ne_eq, not_false_eq_true, upc] at f65_2
                exact Z_iret hk hA hQ dX8_score_68 ⟨rfl, rfl, _, rfl, (by exact ⟨(by (try simp only [f65_0, f65_1, f65_2, and_true, true_and, or_true, true_or, implies_true, upn, reduceIte, Nat.reduceEqDiff, ne_eq, not_false_eq_true, upc]) <;> (omega)), (by intro c k0 k1 k2 k3 k4 k5 k6; simp only [f65_0, f65_1, f65_2, upc, upn, k0, k1, k2, k3, k4, k5, k6, reduceIte, Nat.reduceEqDiff, ne_eq, not_false_eq_true]), (by intro i k0; simp only [f65_0, f65_1, f65_2, upc, upn, k0, reduceIte, Nat.reduceEqDiff, ne_eq, not_false_eq_true]), (by (try simp only [f65_0, f65_1, f65_2, e1, and_true, true_and, or_true, true_or, implies_true, upn, reduceIte, Nat.reduceEqDiff, ne_eq, not_false_eq_true, upc, upc]) <;> (first | assumption | exact q2))⟩)⟩
              · refine Z_iconst hk dX8_score_53 ?_
                exact Z_iret hk hA hQ dX8_score_54 ⟨rfl, rfl, _, rfl, (by exact ⟨(by (omega)), (by intro c k0 k1 k2 k3 k4 k5 k6; rfl), (by intro i k0; rfl), (by (try simp only [e1, and_true, true_and, or_true, true_or, implies_true, upn, reduceIte, Nat.reduceEqDiff, ne_eq, not_false_eq_true, upc, upc]) <;> (first | assumption | exact q2))⟩)⟩
          · refine Z_iconst hk dX8_score_39 ?_
            exact Z_iret hk hA hQ dX8_score_40 ⟨rfl, rfl, _, rfl, (by exact ⟨(by (omega)), (by intro c k0 k1 k2 k3 k4 k5 k6; rfl), (by intro i k0; rfl), (by (try simp only [e1, and_true, true_and, or_true, true_or, implies_true, upn, reduceIte, Nat.reduceEqDiff, ne_eq, not_false_eq_true, upc, upc]) <;> (first | assumption | exact q2))⟩)⟩
set_option maxRecDepth 10000 in
theorem c_X8_swap (l : Launch) (δ : Dp) (ad : Nat → Nat) (M : Mem) (hA : okA δ ad) (t : Int) (c : Int) (o : Int) (qp : 0 ≤ M 38 0 ∧ M 38 0 ≤ 6 ∧ 0 ≤ M 38 1 ∧ M 38 1 ≤ 4 ∧ 0 ≤ M 38 2 ∧ M 38 2 ≤ 8 ∧ -1 ≤ M 38 5 ∧ M 38 5 ≤ 5 ∧ 0 ≤ M 38 6 ∧ M 38 6 ≤ 700) (q1 : 0 ≤ M 1 0 ∧ M 1 0 ≤ 250) (q2 : AD (M 1 0) (M 2) (M 3) (M 4) (M 5) (M 6)) (i_t : -2147483648 ≤ t ∧ t ≤ 2147483647) (i_c : -2147483648 ≤ c ∧ c ≤ 2147483647) (i_o : -2147483648 ≤ o ∧ o ≤ 2147483647) : Mi l δ yX8_swap cX8_swap 6 (some (.int)) 3 65 ad rs [.ref (ad 0), iv t, iv c, iv o] M (fun r M' => (M 1 0 ≤ M' 1 0 ∧ M' 1 0 ≤ 250) ∧ (∀ c : Nat, c ≠ 1 → c ≠ 2 → c ≠ 3 → c ≠ 4 → c ≠ 5 → c ≠ 6 → c ≠ 7 → M' c = M c) ∧ (∀ i : Nat, i ≠ 0 → M' 1 i = M 1 i) ∧ (AD (M' 1 0) (M' 2) (M' 3) (M' 4) (M' 5) (M' 6))) := by
  refine Mg.of (rm := rmN 3 65) (by decide) (Nat.le_of_ble_eq_true rfl) fun κ _ hk _ => ?_
  generalize hQ : Qg κ δ 121 (rmN 3 65).cells (rmN 3 65).slots _ = Q
  show Zj κ δ ad rs Q 6 (121, 0, 0) 0 [some (.ref (ad 0)), some (iv t), some (iv c), some (iv o), none, none] [] M
  refine Z_aload0 hk dX8_swap_0 ?_
  refine Z_getR hk fl_8_25 dX8_swap_1 ob_0.1 ob_0.2.1 ob_0.2.2.1 ob_0.2.2.2 ft_8_1 rs_0_1 ?_
  refine Z_Vi hk (c_X2_isFull κ.2.1 δ ad _ hA  ) ov_X2_isFull ml_X8_126 dX8_swap_4 rfl ⟨by decide, by decide⟩ ob_1.1 (by decide) (by decide) rfl (Nat.le_of_ble_eq_true rfl) (fun r4 m4 p4 => ?_)
  obtain ⟨rfl, p4⟩ := p4
  refine Z_if_ne hk (tgt := 23) dX8_swap_7 (by decide) (by omega) (by omega) (fun h7 => ?_) (fun h7 => ?_)
  · refine Z_iconst hk dX8_swap_23 ?_
    exact Z_iret hk hA hQ dX8_swap_24 ⟨rfl, rfl, _, rfl, (by exact ⟨(by (omega)), (by intro c k0 k1 k2 k3 k4 k5 k6; rfl), (by intro i k0; rfl), (by (try simp only [and_true, true_and, or_true, true_or, implies_true, upn, reduceIte, Nat.reduceEqDiff, ne_eq, not_false_eq_true, upc, upc]) <;> (first | assumption | exact q2))⟩)⟩
  · refine Z_aload0 hk dX8_swap_10 ?_
    refine Z_iload1 hk dX8_swap_11 ?_
    refine Z_Vi hk (c_X8_isTrial κ.2.1 δ ad _ hA t (by (omega))) ov_X8_isTrial ml_X8_111 dX8_swap_12 rfl ⟨by decide, by decide⟩ ob_0.1 (by decide) (by decide) rfl (Nat.le_of_ble_eq_true rfl) (fun r12 m12 p12 => ?_)
    obtain ⟨rfl, p12⟩ := p12
    refine Z_if_eq hk (tgt := 23) dX8_swap_15 (by decide) (by omega) (by omega) (fun h15 => ?_) (fun h15 => ?_)
    · refine Z_iconst hk dX8_swap_23 ?_
      exact Z_iret hk hA hQ dX8_swap_24 ⟨rfl, rfl, _, rfl, (by exact ⟨(by (omega)), (by intro c k0 k1 k2 k3 k4 k5 k6; rfl), (by intro i k0; rfl), (by (try simp only [and_true, true_and, or_true, true_or, implies_true, upn, reduceIte, Nat.reduceEqDiff, ne_eq, not_false_eq_true, upc, upc]) <;> (first | assumption | exact q2))⟩)⟩
    · refine Z_iload2 hk dX8_swap_18 ?_
      refine Z_iload3 hk dX8_swap_19 ?_
      refine Z_icmp_ne hk (tgt := 25) dX8_swap_20 (by decide) (by omega) (by omega) (by omega) (by omega) (fun h20 => ?_) (fun h20 => ?_)
      · refine Z_aload0 hk dX8_swap_25 ?_
        refine Z_getR hk fl_8_69 dX8_swap_26 ob_0.1 ob_0.2.1 ob_0.2.2.1 ob_0.2.2.2 ft_8_7 rs_0_7 ?_
        refine Z_iload1 hk dX8_swap_29 ?_
        refine Z_iload2 hk dX8_swap_30 ?_
        refine Z_Vi hk (c_X3_cupOf_p38 κ.2.1 δ ad _ hA t c (by (omega)) (by (omega))) ov_X3_cupOf ml_X8_138 dX8_swap_31 rfl ⟨by decide, by decide⟩ ob_38.1 (by decide) (by decide) rfl (Nat.le_of_ble_eq_true rfl) (fun r31 m31 p31 => ?_)
        obtain ⟨rfl, p31⟩ := p31
        refine Z_istore4 hk rfl (by decide) dX8_swap_34 ?_
        refine Z_aload0 hk dX8_swap_36 ?_
        refine Z_getR hk fl_8_69 dX8_swap_37 ob_0.1 ob_0.2.1 ob_0.2.2.1 ob_0.2.2.2 ft_8_7 rs_0_7 ?_
        refine Z_iload1 hk dX8_swap_40 ?_
        refine Z_iload3 hk dX8_swap_41 ?_
        refine Z_Vi hk (c_X3_cupOf_p38 κ.2.1 δ ad _ hA t o (by (omega)) (by (omega))) ov_X3_cupOf ml_X8_138 dX8_swap_42 rfl ⟨by decide, by decide⟩ ob_38.1 (by decide) (by decide) rfl (Nat.le_of_ble_eq_true rfl) (fun r42 m42 p42 => ?_)
        obtain ⟨rfl, p42⟩ := p42
        refine Z_istore5 hk rfl (by decide) dX8_swap_45 ?_
        refine Z_iload4 hk dX8_swap_47 ?_
        refine Z_iconst hk dX8_swap_49 ?_
        refine Z_icmp_eq hk (tgt := 59) dX8_swap_50 (by decide) (by omega) (by omega) (by decide) (by decide) (fun h50 => ?_) (fun h50 => ?_)
        · refine Z_iconst hk dX8_swap_59 ?_
          exact Z_iret hk hA hQ dX8_swap_60 ⟨rfl, rfl, _, rfl, (by exact ⟨(by (omega)), (by intro c k0 k1 k2 k3 k4 k5 k6; rfl), (by intro i k0; rfl), (by (try simp only [and_true, true_and, or_true, true_or, implies_true, upn, reduceIte, Nat.reduceEqDiff, ne_eq, not_false_eq_true, upc, upc]) <;> (first | assumption | exact q2))⟩)⟩
        · refine Z_iload5 hk dX8_swap_53 ?_
          refine Z_iconst hk dX8_swap_55 ?_
          refine Z_icmp_ne hk (tgt := 61) dX8_swap_56 (by decide) (by omega) (by omega) (by decide) (by decide) (fun h56 => ?_) (fun h56 => ?_)
          · refine Z_aload0 hk dX8_swap_61 ?_
            refine Z_getR hk fl_8_25 dX8_swap_62 ob_0.1 ob_0.2.1 ob_0.2.2.1 ob_0.2.2.2 ft_8_1 rs_0_1 ?_
            refine Z_iconst hk dX8_swap_65 ?_
            refine Z_iload1 hk dX8_swap_66 ?_
            refine Z_iload4 hk dX8_swap_67 ?_
            refine Z_iload5 hk dX8_swap_69 ?_
            refine Z_iconst hk dX8_swap_71 ?_
            refine Z_Vi hk (c_X2_note κ.2.1 δ ad _ hA 3 t r31 r42 0 (by (omega)) (by (exact q2)) (by (exact ⟨fun h => by omega, fun h => by omega, fun h => by omega⟩)) (by (omega)) (by (omega)) (by (omega)) (by (omega)) (by (omega))) ov_X2_note ml_X8_134 dX8_swap_72 rfl ⟨by decide, by decide⟩ ob_1.1 (by decide) (by decide) rfl (Nat.le_of_ble_eq_true rfl) (fun r72 m72 p72 => ?_)
            obtain ⟨p72, f72_0, f72_1, f72_2⟩ := p72
            try simp only [f72_0, f72_1, f72_2, and_true, true_and, or_true, true_or, implies_true, upn, reduceIte, Nat.reduceEqDiff, ne_eq, not_false_eq_true, upc] at p72
            try simp only [f72_0, f72_1, and_true, true_and, or_true, true_or, implies_true, upn, reduceIte, Nat.reduceEqDiff, ne_eq, not_false_eq_true, upc] at f72_2
            exact Z_iret hk hA hQ dX8_swap_75 ⟨rfl, rfl, _, rfl, (by exact ⟨(by (try simp only [f72_0, f72_1, f72_2, and_true, true_and, or_true, true_or, implies_true, upn, reduceIte, Nat.reduceEqDiff, ne_eq, not_false_eq_true, upc]) <;> (omega)), (by intro c k0 k1 k2 k3 k4 k5 k6; simp only [f72_0, f72_1, f72_2, upc, upn, k0, k1, k2, k3, k4, k5, k6, reduceIte, Nat.reduceEqDiff, ne_eq, not_false_eq_true]), (by intro i k0; simp only [f72_0, f72_1, f72_2, upc, upn, k0, reduceIte, Nat.reduceEqDiff, ne_eq, not_false_eq_true]), (by (try simp only [f72_0, f72_1, f72_2, and_true, true_and, or_true, true_or, implies_true, upn, reduceIte, Nat.reduceEqDiff, ne_eq, not_false_eq_true, upc, upc]) <;> (first | assumption | exact q2))⟩)⟩
          · refine Z_iconst hk dX8_swap_59 ?_
            exact Z_iret hk hA hQ dX8_swap_60 ⟨rfl, rfl, _, rfl, (by exact ⟨(by (omega)), (by intro c k0 k1 k2 k3 k4 k5 k6; rfl), (by intro i k0; rfl), (by (try simp only [and_true, true_and, or_true, true_or, implies_true, upn, reduceIte, Nat.reduceEqDiff, ne_eq, not_false_eq_true, upc, upc]) <;> (first | assumption | exact q2))⟩)⟩
      · refine Z_iconst hk dX8_swap_23 ?_
        exact Z_iret hk hA hQ dX8_swap_24 ⟨rfl, rfl, _, rfl, (by exact ⟨(by (omega)), (by intro c k0 k1 k2 k3 k4 k5 k6; rfl), (by intro i k0; rfl), (by (try simp only [and_true, true_and, or_true, true_or, implies_true, upn, reduceIte, Nat.reduceEqDiff, ne_eq, not_false_eq_true, upc, upc]) <;> (first | assumption | exact q2))⟩)⟩
set_option maxRecDepth 10000 in
theorem c_X8_annul (l : Launch) (δ : Dp) (ad : Nat → Nat) (M : Mem) (hA : okA δ ad) (k : Int) (q1 : 0 ≤ M 1 0 ∧ M 1 0 ≤ 250) (q2 : AD (M 1 0) (M 2) (M 3) (M 4) (M 5) (M 6)) (i_k : -2147483648 ≤ k ∧ k ≤ 2147483647) : Mi l δ yX8_annul cX8_annul 2 (some (.int)) 3 67 ad rs [.ref (ad 0), iv k] M (fun r M' => (M 1 0 ≤ M' 1 0 ∧ M' 1 0 ≤ 250) ∧ (∀ c : Nat, c ≠ 1 → c ≠ 2 → c ≠ 3 → c ≠ 4 → c ≠ 5 → c ≠ 6 → c ≠ 7 → M' c = M c) ∧ (∀ i : Nat, i ≠ 0 → M' 1 i = M 1 i) ∧ (AD (M' 1 0) (M' 2) (M' 3) (M' 4) (M' 5) (M' 6))) := by
  refine Mg.of (rm := rmN 3 67) (by decide) (Nat.le_of_ble_eq_true rfl) fun κ _ hk _ => ?_
  generalize hQ : Qg κ δ 121 (rmN 3 67).cells (rmN 3 67).slots _ = Q
  show Zj κ δ ad rs Q 2 (121, 0, 0) 0 [some (.ref (ad 0)), some (iv k)] [] M
  refine Z_aload0 hk dX8_annul_0 ?_
  refine Z_getR hk fl_8_25 dX8_annul_1 ob_0.1 ob_0.2.1 ob_0.2.2.1 ob_0.2.2.2 ft_8_1 rs_0_1 ?_
  refine Z_Vi hk (c_X2_isFull κ.2.1 δ ad _ hA  ) ov_X2_isFull ml_X8_126 dX8_annul_4 rfl ⟨by decide, by decide⟩ ob_1.1 (by decide) (by decide) rfl (Nat.le_of_ble_eq_true rfl) (fun r4 m4 p4 => ?_)
  obtain ⟨rfl, p4⟩ := p4
  refine Z_if_ne hk (tgt := 21) dX8_annul_7 (by decide) (by omega) (by omega) (fun h7 => ?_) (fun h7 => ?_)
  · refine Z_iconst hk dX8_annul_21 ?_
    refine Z_goto hk (tgt := 33) dX8_annul_22 (by decide) ?_
    exact Z_iret hk hA hQ dX8_annul_33 ⟨rfl, rfl, _, rfl, (by exact ⟨(by (omega)), (by intro c k0 k1 k2 k3 k4 k5 k6; rfl), (by intro i k0; rfl), (by (try simp only [and_true, true_and, or_true, true_or, implies_true, upn, reduceIte, Nat.reduceEqDiff, ne_eq, not_false_eq_true, upc, upc]) <;> (first | assumption | exact q2))⟩)⟩
  · refine Z_aload0 hk dX8_annul_10 ?_
    refine Z_getR hk fl_8_25 dX8_annul_11 ob_0.1 ob_0.2.1 ob_0.2.2.1 ob_0.2.2.2 ft_8_1 rs_0_1 ?_
    refine Z_iload1 hk dX8_annul_14 ?_
    refine Z_Vi hk (c_X2_canBeVoid κ.2.1 δ ad _ hA k (by (omega)) (by (omega))) ov_X2_canBeVoid ml_X8_148 dX8_annul_15 rfl ⟨by decide, by decide⟩ ob_1.1 (by decide) (by decide) rfl (Nat.le_of_ble_eq_true rfl) (fun r15 m15 p15 => ?_)
    obtain ⟨rfl, p15⟩ := p15
    refine Z_if_ne hk (tgt := 25) dX8_annul_18 (by decide) (by omega) (by omega) (fun h18 => ?_) (fun h18 => ?_)
    · refine Z_aload0 hk dX8_annul_25 ?_
      refine Z_getR hk fl_8_25 dX8_annul_26 ob_0.1 ob_0.2.1 ob_0.2.2.1 ob_0.2.2.2 ft_8_1 rs_0_1 ?_
      refine Z_iload1 hk dX8_annul_29 ?_
      refine Z_Vi hk (c_X2_noteVoid κ.2.1 δ ad _ hA k (by (omega)) (by (exact q2)) (by (omega))) ov_X2_noteVoid ml_X8_151 dX8_annul_30 rfl ⟨by decide, by decide⟩ ob_1.1 (by decide) (by decide) rfl (Nat.le_of_ble_eq_true rfl) (fun r30 m30 p30 => ?_)
      obtain ⟨p30, f30_0, f30_1, f30_2⟩ := p30
      try simp only [f30_0, f30_1, f30_2, and_true, true_and, or_true, true_or, implies_true, upn, reduceIte, Nat.reduceEqDiff, ne_eq, not_false_eq_true, upc] at p30
      try simp only [f30_0, f30_1, and_true, true_and, or_true, true_or, implies_true, upn, reduceIte, Nat.reduceEqDiff, ne_eq, not_false_eq_true, upc] at f30_2
      exact Z_iret hk hA hQ dX8_annul_33 ⟨rfl, rfl, _, rfl, (by exact ⟨(by (try simp only [f30_0, f30_1, f30_2, and_true, true_and, or_true, true_or, implies_true, upn, reduceIte, Nat.reduceEqDiff, ne_eq, not_false_eq_true, upc]) <;> (omega)), (by intro c k0 k1 k2 k3 k4 k5 k6; simp only [f30_0, f30_1, f30_2, upc, upn, k0, k1, k2, k3, k4, k5, k6, reduceIte, Nat.reduceEqDiff, ne_eq, not_false_eq_true]), (by intro i k0; simp only [f30_0, f30_1, f30_2, upc, upn, k0, reduceIte, Nat.reduceEqDiff, ne_eq, not_false_eq_true]), (by (try simp only [f30_0, f30_1, f30_2, and_true, true_and, or_true, true_or, implies_true, upn, reduceIte, Nat.reduceEqDiff, ne_eq, not_false_eq_true, upc, upc]) <;> (first | assumption | exact q2))⟩)⟩
    · refine Z_iconst hk dX8_annul_21 ?_
      refine Z_goto hk (tgt := 33) dX8_annul_22 (by decide) ?_
      exact Z_iret hk hA hQ dX8_annul_33 ⟨rfl, rfl, _, rfl, (by exact ⟨(by (omega)), (by intro c k0 k1 k2 k3 k4 k5 k6; rfl), (by intro i k0; rfl), (by (try simp only [and_true, true_and, or_true, true_or, implies_true, upn, reduceIte, Nat.reduceEqDiff, ne_eq, not_false_eq_true, upc, upc]) <;> (first | assumption | exact q2))⟩)⟩
set_option maxRecDepth 10000 in
theorem c_X8_as (l : Launch) (δ : Dp) (ad : Nat → Nat) (M : Mem) (hA : okA δ ad) (x : Int) (q1 : 0 ≤ M 1 0 ∧ M 1 0 ≤ 250) (qt : -1 ≤ M 0 10 ∧ M 0 10 ≤ M 1 0) (i_x : -2147483648 ≤ x ∧ x ≤ 2147483647) : Mi l δ yX8_as cX8_as 2 (some (.boolean)) 0 0 ad rs [.ref (ad 0), iv x] M (fun r M' => (-1 ≤ M' 0 10 ∧ M' 0 10 ≤ M 1 0 ∧ 0 ≤ r ∧ r ≤ 1) ∧ (∀ c : Nat, c ≠ 0 → M' c = M c) ∧ (∀ i : Nat, i ≠ 10 → M' 0 i = M 0 i)) := by
  refine Mg.of (rm := rmN 0 0) (by decide) (Nat.le_of_ble_eq_true rfl) fun κ _ hk _ => ?_
  generalize hQ : Qg κ δ 121 (rmN 0 0).cells (rmN 0 0).slots _ = Q
  show Zj κ δ ad rs Q 2 (121, 0, 0) 0 [some (.ref (ad 0)), some (iv x)] [] M
  refine Z_iload1 hk dX8_as_0 ?_
  refine Z_iconst hk dX8_as_1 ?_
  refine Z_icmp_lt hk (tgt := 16) dX8_as_2 (by decide) (by omega) (by omega) (by decide) (by decide) (fun h2 => ?_) (fun h2 => ?_)
  · refine Z_iconst hk dX8_as_16 ?_
    exact Z_zret hk hA hQ dX8_as_17 (by decide) (by decide) ⟨rfl, rfl, _, rfl, (by exact ⟨(by (omega)), (by intro c k0; rfl), (by intro i k0; rfl)⟩)⟩
  · refine Z_iload1 hk dX8_as_5 ?_
    refine Z_aload0 hk dX8_as_6 ?_
    refine Z_getR hk fl_8_25 dX8_as_7 ob_0.1 ob_0.2.1 ob_0.2.2.1 ob_0.2.2.2 ft_8_1 rs_0_1 ?_
    refine Z_getI hk fl_8_154 dX8_as_10 ob_1.1 ob_1.2.1 ob_1.2.2.1 ob_1.2.2.2 ft_2_0 (fun v10 e10 a10 b10 => ?_)
    refine Z_icmp_le hk (tgt := 18) dX8_as_13 (by decide) (by omega) (by omega) (by omega) (by omega) (fun h13 => ?_) (fun h13 => ?_)
    · refine Z_aload0 hk dX8_as_18 ?_
      refine Z_iload1 hk dX8_as_19 ?_
      refine Z_putI hk hA fl_8_80 dX8_as_20 ob_0.1 ob_0.2.1 ob_0.2.2.1 ob_0.2.2.2 ft_8_10 (by omega) (by omega) ?_
      refine Z_nm (fun m20 em20 => ?_)
      refine Z_iconst hk dX8_as_23 ?_
      exact Z_zret hk hA hQ dX8_as_24 (by decide) (by decide) ⟨rfl, rfl, _, rfl, (by exact ⟨(by (try simp only [em20, and_true, true_and, or_true, true_or, implies_true, upn, reduceIte, Nat.reduceEqDiff, ne_eq, not_false_eq_true, upc]) <;> (omega)), (by intro c k0; simp only [em20, upc, upn, k0, reduceIte, Nat.reduceEqDiff, ne_eq, not_false_eq_true]), (by intro i k0; simp only [em20, upc, upn, k0, reduceIte, Nat.reduceEqDiff, ne_eq, not_false_eq_true])⟩)⟩
    · refine Z_iconst hk dX8_as_16 ?_
      exact Z_zret hk hA hQ dX8_as_17 (by decide) (by decide) ⟨rfl, rfl, _, rfl, (by exact ⟨(by (omega)), (by intro c k0; rfl), (by intro i k0; rfl)⟩)⟩
set_option maxRecDepth 10000 in
theorem c_X8_open (l : Launch) (δ : Dp) (ad : Nat → Nat) (M : Mem) (hA : okA δ ad) : Mi l δ yX8_open cX8_open 1 (some (.boolean)) 0 0 ad rs [.ref (ad 0)] M (fun r M' => (0 ≤ r ∧ r ≤ 1) ∧ (∀ c : Nat, c ≠ 0 → M' c = M c) ∧ (∀ i : Nat, i ≠ 9 → M' 0 i = M 0 i)) := by
  refine Mg.of (rm := rmN 0 0) (by decide) (Nat.le_of_ble_eq_true rfl) fun κ _ hk _ => ?_
  generalize hQ : Qg κ δ 121 (rmN 0 0).cells (rmN 0 0).slots _ = Q
  show Zj κ δ ad rs Q 1 (121, 0, 0) 0 [some (.ref (ad 0))] [] M
  refine Z_aload0 hk dX8_open_0 ?_
  refine Z_getZ hk fl_8_77 dX8_open_1 ob_0.1 ob_0.2.1 ob_0.2.2.1 ob_0.2.2.2 ft_8_9 (fun v1 e1 a1 b1 => ?_)
  refine Z_if_ne hk (tgt := 14) dX8_open_4 (by decide) (by omega) (by omega) (fun h4 => ?_) (fun h4 => ?_)
  · refine Z_iconst hk dX8_open_14 ?_
    exact Z_zret hk hA hQ dX8_open_15 (by decide) (by decide) ⟨rfl, rfl, _, rfl, (by exact ⟨(by (omega)), (by intro c k0; rfl), (by intro i k0; rfl)⟩)⟩
  · refine Z_aload0 hk dX8_open_7 ?_
    refine Z_getZ hk fl_8_73 dX8_open_8 ob_0.1 ob_0.2.1 ob_0.2.2.1 ob_0.2.2.2 ft_8_8 (fun v8 e8 a8 b8 => ?_)
    try simp only [e1, and_true, true_and, or_true, true_or, implies_true, upn, reduceIte, Nat.reduceEqDiff, ne_eq, not_false_eq_true, upc] at e8
    refine Z_if_ne hk (tgt := 16) dX8_open_11 (by decide) (by omega) (by omega) (fun h11 => ?_) (fun h11 => ?_)
    · refine Z_aload0 hk dX8_open_16 ?_
      refine Z_iconst hk dX8_open_17 ?_
      refine Z_putZ hk hA fl_8_77 dX8_open_18 ob_0.1 ob_0.2.1 ob_0.2.2.1 ob_0.2.2.2 ft_8_9 (by decide) (by decide) ?_
      refine Z_nm (fun m18 em18 => ?_)
      refine Z_iconst hk dX8_open_21 ?_
      exact Z_zret hk hA hQ dX8_open_22 (by decide) (by decide) ⟨rfl, rfl, _, rfl, (by exact ⟨(by (try simp only [em18, and_true, true_and, or_true, true_or, implies_true, upn, reduceIte, Nat.reduceEqDiff, ne_eq, not_false_eq_true, upc]) <;> (omega)), (by intro c k0; simp only [em18, upc, upn, k0, reduceIte, Nat.reduceEqDiff, ne_eq, not_false_eq_true]), (by intro i k0; simp only [em18, upc, upn, k0, reduceIte, Nat.reduceEqDiff, ne_eq, not_false_eq_true])⟩)⟩
    · refine Z_iconst hk dX8_open_14 ?_
      exact Z_zret hk hA hQ dX8_open_15 (by decide) (by decide) ⟨rfl, rfl, _, rfl, (by exact ⟨(by (omega)), (by intro c k0; rfl), (by intro i k0; rfl)⟩)⟩
set_option maxRecDepth 10000 in
theorem c_X8_answers (l : Launch) (δ : Dp) (ad : Nat → Nat) (M : Mem) (hA : okA δ ad) (t : Int) (hz : NS δ) (qp : 0 ≤ M 38 0 ∧ M 38 0 ≤ 6 ∧ 0 ≤ M 38 1 ∧ M 38 1 ≤ 4 ∧ 0 ≤ M 38 2 ∧ M 38 2 ≤ 8 ∧ -1 ≤ M 38 5 ∧ M 38 5 ≤ 5 ∧ 0 ≤ M 38 6 ∧ M 38 6 ≤ 700) (q1 : 0 ≤ M 1 0 ∧ M 1 0 ≤ 250) (qt : -1 ≤ M 0 10 ∧ M 0 10 ≤ M 1 0) (q2 : AD (M 1 0) (M 2) (M 3) (M 4) (M 5) (M 6)) (q3 : LK (M 41)) (i_t : -2147483648 ≤ t ∧ t ≤ 2147483647) : Mi l δ yX8_answers cX8_answers 2 (some (.int)) 5 132 ad rs [.ref (ad 0), iv t] M (fun r M' => (True) ∧ (∀ c : Nat, c ≠ 10 → c ≠ 11 → c ≠ 12 → M' c = M c) ∧ (∀ i : Nat, i ≠ 4 → i ≠ 5 → i ≠ 6 → i ≠ 7 → i ≠ 8 → i ≠ 9 → i ≠ 10 → M' 10 i = M 10 i)) := by
  refine Mg.of (rm := rmN 5 132) (by decide) (Nat.le_of_ble_eq_true rfl) fun κ _ hk _ => ?_
  generalize hQ : Qg κ δ 121 (rmN 5 132).cells (rmN 5 132).slots _ = Q
  show Zj κ δ ad rs Q 2 (121, 0, 0) 0 [some (.ref (ad 0)), some (iv t)] [] M
  refine Z_aload0 hk dX8_answers_0 ?_
  refine Z_iload1 hk dX8_answers_1 ?_
  refine Z_Vi hk (c_X8_isTrial κ.2.1 δ ad _ hA t (by (first | omega | assumption))) ov_X8_isTrial ml_X8_111 dX8_answers_2 rfl ⟨by decide, by decide⟩ ob_0.1 (by decide) (by decide) rfl (Nat.le_of_ble_eq_true rfl) (fun r2 m2 p2 => ?_)
  obtain ⟨rfl, p2⟩ := p2
  refine Z_if_ne hk (tgt := 10) dX8_answers_5 (by decide) (by omega) (by omega) (fun h5 => ?_) (fun h5 => ?_)
  · refine Z_aload0 hk dX8_answers_10 ?_
    refine Z_getR hk fl_8_33 dX8_answers_11 ob_0.1 ob_0.2.1 ob_0.2.2.1 ob_0.2.2.2 ft_8_3 rs_0_3 ?_
    refine Z_aload0 hk dX8_answers_14 ?_
    refine Z_getR hk fl_8_69 dX8_answers_15 ob_0.1 ob_0.2.1 ob_0.2.2.1 ob_0.2.2.2 ft_8_7 rs_0_7 ?_
    refine Z_iload1 hk dX8_answers_18 ?_
    refine Z_aload0 hk dX8_answers_19 ?_
    refine Z_Vi hk (c_X8_known κ.2.1 δ ad _ hA  (by (first | omega | assumption)) (by (first | omega | assumption))) ov_X8_known ml_X8_157 dX8_answers_20 rfl ⟨by decide, by decide⟩ ob_0.1 (by decide) (by decide) rfl (Nat.le_of_ble_eq_true rfl) (fun r20 m20 p20 => ?_)
    obtain ⟨rfl, p20⟩ := p20
    refine Z_iconst hk dX8_answers_23 ?_
    refine Z_Vv hk (c_X7_tally κ.2.1 δ ad _ hA t r20 0 hz (by (first | omega | assumption)) (by (first | omega | assumption)) (by (first | omega | assumption)) (by (first | omega | assumption)) (by (first | omega | assumption)) (by (first | omega | assumption))) ov_X7_tally ml_X8_160 dX8_answers_24 rfl ⟨by decide, by decide⟩ ob_10.1 (by decide) (by decide) rfl (Nat.le_of_ble_eq_true rfl) (fun m24 p24 => ?_)
    obtain ⟨p24, f24_0, f24_1⟩ := p24
    try simp only [f24_0, f24_1, and_true, true_and, or_true, true_or, implies_true, upn, reduceIte, Nat.reduceEqDiff, ne_eq, not_false_eq_true, upc] at p24
    refine Z_aload0 hk dX8_answers_27 ?_
    refine Z_getR hk fl_8_33 dX8_answers_28 ob_0.1 ob_0.2.1 ob_0.2.2.1 ob_0.2.2.2 ft_8_3 rs_0_3 ?_
    refine Z_getI hk fl_8_164 dX8_answers_31 ob_10.1 ob_10.2.1 ob_10.2.2.1 ob_10.2.2.2 ft_7_9 (fun v31 e31 a31 b31 => ?_)
    try simp only [f24_0, f24_1, and_true, true_and, or_true, true_or, implies_true, upn, reduceIte, Nat.reduceEqDiff, ne_eq, not_false_eq_true, upc] at e31
    exact Z_iret hk hA hQ dX8_answers_34 ⟨rfl, rfl, _, rfl, (by exact ⟨(by (try simp only [f24_0, f24_1, and_true, true_and, or_true, true_or, implies_true, upn, reduceIte, Nat.reduceEqDiff, ne_eq, not_false_eq_true, upc]) <;> (trivial)), (by intro c k0 k1 k2; simp only [f24_0, f24_1, upc, upn, k0, k1, k2, reduceIte, Nat.reduceEqDiff, ne_eq, not_false_eq_true]), (by intro i k0 k1 k2 k3 k4 k5 k6; simp only [f24_0, f24_1, upc, upn, k0, k1, k2, k3, k4, k5, k6, reduceIte, Nat.reduceEqDiff, ne_eq, not_false_eq_true])⟩)⟩
  · refine Z_iconst hk dX8_answers_8 ?_
    exact Z_iret hk hA hQ dX8_answers_9 ⟨rfl, rfl, _, rfl, (by exact ⟨(by (trivial)), (by intro c k0 k1 k2; rfl), (by intro i k0 k1 k2 k3 k4 k5 k6; rfl)⟩)⟩
set_option maxRecDepth 10000 in
theorem c_X8_inside (l : Launch) (δ : Dp) (ad : Nat → Nat) (M : Mem) (hA : okA δ ad) (t : Int) (c : Int) (hz : NS δ) (qp : 0 ≤ M 38 0 ∧ M 38 0 ≤ 6 ∧ 0 ≤ M 38 1 ∧ M 38 1 ≤ 4 ∧ 0 ≤ M 38 2 ∧ M 38 2 ≤ 8 ∧ -1 ≤ M 38 5 ∧ M 38 5 ≤ 5 ∧ 0 ≤ M 38 6 ∧ M 38 6 ≤ 700) (q1 : 0 ≤ M 1 0 ∧ M 1 0 ≤ 250) (qt : -1 ≤ M 0 10 ∧ M 0 10 ≤ M 1 0) (q2 : AD (M 1 0) (M 2) (M 3) (M 4) (M 5) (M 6)) (q3 : LK (M 41)) (i_t : -2147483648 ≤ t ∧ t ≤ 2147483647) (i_c : -2147483648 ≤ c ∧ c ≤ 2147483647) : Mi l δ yX8_inside cX8_inside 4 (some (.int)) 5 129 ad rs [.ref (ad 0), iv t, iv c] M (fun r M' => (True) ∧ (∀ c : Nat, c ≠ 11 → M' c = M c)) := by
  refine Mg.of (rm := rmN 5 129) (by decide) (Nat.le_of_ble_eq_true rfl) fun κ _ hk _ => ?_
  generalize hQ : Qg κ δ 121 (rmN 5 129).cells (rmN 5 129).slots _ = Q
  show Zj κ δ ad rs Q 4 (121, 0, 0) 0 [some (.ref (ad 0)), some (iv t), some (iv c), none] [] M
  refine Z_aload0 hk dX8_inside_0 ?_
  refine Z_getZ hk fl_8_77 dX8_inside_1 ob_0.1 ob_0.2.1 ob_0.2.2.1 ob_0.2.2.2 ft_8_9 (fun v1 e1 a1 b1 => ?_)
  refine Z_if_eq hk (tgt := 15) dX8_inside_4 (by decide) (by omega) (by omega) (fun h4 => ?_) (fun h4 => ?_)
  · refine Z_iconst hk dX8_inside_15 ?_
    exact Z_iret hk hA hQ dX8_inside_16 ⟨rfl, rfl, _, rfl, (by exact ⟨(by (trivial)), (by intro c k0; rfl)⟩)⟩
  · refine Z_aload0 hk dX8_inside_7 ?_
    refine Z_iload1 hk dX8_inside_8 ?_
    refine Z_Vi hk (c_X8_isTrial κ.2.1 δ ad _ hA t (by (first | omega | assumption))) ov_X8_isTrial ml_X8_111 dX8_inside_9 rfl ⟨by decide, by decide⟩ ob_0.1 (by decide) (by decide) rfl (Nat.le_of_ble_eq_true rfl) (fun r9 m9 p9 => ?_)
    obtain ⟨rfl, p9⟩ := p9
    refine Z_if_ne hk (tgt := 17) dX8_inside_12 (by decide) (by omega) (by omega) (fun h12 => ?_) (fun h12 => ?_)
    · refine Z_aload0 hk dX8_inside_17 ?_
      refine Z_getR hk fl_8_69 dX8_inside_18 ob_0.1 ob_0.2.1 ob_0.2.2.1 ob_0.2.2.2 ft_8_7 rs_0_7 ?_
      refine Z_iload1 hk dX8_inside_21 ?_
      refine Z_iload2 hk dX8_inside_22 ?_
      refine Z_Vi hk (c_X3_cupOf_p38 κ.2.1 δ ad _ hA t c (by (first | omega | assumption)) (by (first | omega | assumption))) ov_X3_cupOf ml_X8_138 dX8_inside_23 rfl ⟨by decide, by decide⟩ ob_38.1 (by decide) (by decide) rfl (Nat.le_of_ble_eq_true rfl) (fun r23 m23 p23 => ?_)
      obtain ⟨rfl, p23⟩ := p23
      refine Z_istore3 hk rfl (by decide) dX8_inside_26 ?_
      refine Z_iload3 hk dX8_inside_27 ?_
      refine Z_iconst hk dX8_inside_28 ?_
      refine Z_icmp_ne hk (tgt := 36) dX8_inside_29 (by decide) (by omega) (by omega) (by decide) (by decide) (fun h29 => ?_) (fun h29 => ?_)
      · refine Z_aload0 hk dX8_inside_36 ?_
        refine Z_getR hk fl_8_33 dX8_inside_37 ob_0.1 ob_0.2.1 ob_0.2.2.1 ob_0.2.2.2 ft_8_3 rs_0_3 ?_
        refine Z_aload0 hk dX8_inside_40 ?_
        refine Z_getR hk fl_8_69 dX8_inside_41 ob_0.1 ob_0.2.1 ob_0.2.2.1 ob_0.2.2.2 ft_8_7 rs_0_7 ?_
        refine Z_iload1 hk dX8_inside_44 ?_
        refine Z_aload0 hk dX8_inside_45 ?_
        refine Z_Vi hk (c_X8_known κ.2.1 δ ad _ hA  (by (first | omega | assumption)) (by (first | omega | assumption))) ov_X8_known ml_X8_157 dX8_inside_46 rfl ⟨by decide, by decide⟩ ob_0.1 (by decide) (by decide) rfl (Nat.le_of_ble_eq_true rfl) (fun r46 m46 p46 => ?_)
        obtain ⟨rfl, p46⟩ := p46
        refine Z_iload3 hk dX8_inside_49 ?_
        refine Z_Vi hk (c_X7_contentOf κ.2.1 δ ad _ hA t r46 r23 hz (by (first | omega | assumption)) (by (first | omega | assumption)) (by (first | omega | assumption)) (by (first | omega | assumption)) (by (first | omega | assumption))) ov_X7_contentOf ml_X8_167 dX8_inside_50 rfl ⟨by decide, by decide⟩ ob_10.1 (by decide) (by decide) rfl (Nat.le_of_ble_eq_true rfl) (fun r50 m50 p50 => ?_)
        obtain ⟨p50, f50_0⟩ := p50
        try simp only [f50_0, e1, and_true, true_and, or_true, true_or, implies_true, upn, reduceIte, Nat.reduceEqDiff, ne_eq, not_false_eq_true, upc] at p50
        exact Z_iret hk hA hQ dX8_inside_53 ⟨rfl, rfl, _, rfl, (by exact ⟨(by (try simp only [f50_0, and_true, true_and, or_true, true_or, implies_true, upn, reduceIte, Nat.reduceEqDiff, ne_eq, not_false_eq_true, upc]) <;> (trivial)), (by intro c k0; simp only [f50_0, upc, upn, k0, reduceIte, Nat.reduceEqDiff, ne_eq, not_false_eq_true])⟩)⟩
      · refine Z_iconst hk dX8_inside_32 ?_
        refine Z_goto hk (tgt := 53) dX8_inside_33 (by decide) ?_
        exact Z_iret hk hA hQ dX8_inside_53 ⟨rfl, rfl, _, rfl, (by exact ⟨(by (trivial)), (by intro c k0; rfl)⟩)⟩
    · refine Z_iconst hk dX8_inside_15 ?_
      exact Z_iret hk hA hQ dX8_inside_16 ⟨rfl, rfl, _, rfl, (by exact ⟨(by (trivial)), (by intro c k0; rfl)⟩)⟩
set_option maxRecDepth 10000 in
theorem c_X8_trial (l : Launch) (δ : Dp) (ad : Nat → Nat) (M : Mem) (hA : okA δ ad) (t : Int) (w : Int) (hz : NS δ) (qp : 0 ≤ M 38 0 ∧ M 38 0 ≤ 6 ∧ 0 ≤ M 38 1 ∧ M 38 1 ≤ 4 ∧ 0 ≤ M 38 2 ∧ M 38 2 ≤ 8 ∧ -1 ≤ M 38 5 ∧ M 38 5 ≤ 5 ∧ 0 ≤ M 38 6 ∧ M 38 6 ≤ 700) (q1 : 0 ≤ M 1 0 ∧ M 1 0 ≤ 250) (qt : -1 ≤ M 0 10 ∧ M 0 10 ≤ M 1 0) (q2 : AD (M 1 0) (M 2) (M 3) (M 4) (M 5) (M 6)) (q3 : LK (M 41)) (i_t : -2147483648 ≤ t ∧ t ≤ 2147483647) (i_w : -2147483648 ≤ w ∧ w ≤ 2147483647) : Mi l δ yX8_trial cX8_trial 3 (some (.int)) 6 157 ad rs [.ref (ad 0), iv t, iv w] M (fun r M' => (True) ∧ (∀ c : Nat, c ≠ 10 → c ≠ 11 → c ≠ 12 → c ≠ 9 → M' c = M c) ∧ (∀ i : Nat, i ≠ 4 → i ≠ 5 → i ≠ 6 → i ≠ 7 → i ≠ 8 → i ≠ 9 → i ≠ 10 → M' 10 i = M 10 i)) := by
  refine Mg.of (rm := rmN 6 157) (by decide) (Nat.le_of_ble_eq_true rfl) fun κ _ hk _ => ?_
  generalize hQ : Qg κ δ 121 (rmN 6 157).cells (rmN 6 157).slots _ = Q
  show Zj κ δ ad rs Q 3 (121, 0, 0) 0 [some (.ref (ad 0)), some (iv t), some (iv w)] [] M
  refine Z_aload0 hk dX8_trial_0 ?_
  refine Z_getZ hk fl_8_77 dX8_trial_1 ob_0.1 ob_0.2.1 ob_0.2.2.1 ob_0.2.2.2 ft_8_9 (fun v1 e1 a1 b1 => ?_)
  refine Z_if_eq hk (tgt := 15) dX8_trial_4 (by decide) (by omega) (by omega) (fun h4 => ?_) (fun h4 => ?_)
  · refine Z_iconst hk dX8_trial_15 ?_
    refine Z_goto hk (tgt := 36) dX8_trial_16 (by decide) ?_
    exact Z_iret hk hA hQ dX8_trial_36 ⟨rfl, rfl, _, rfl, (by exact ⟨(by (trivial)), (by intro c k0 k1 k2 k3; rfl), (by intro i k0 k1 k2 k3 k4 k5 k6; rfl)⟩)⟩
  · refine Z_aload0 hk dX8_trial_7 ?_
    refine Z_iload1 hk dX8_trial_8 ?_
    refine Z_Vi hk (c_X8_isTrial κ.2.1 δ ad _ hA t (by (first | omega | assumption))) ov_X8_isTrial ml_X8_111 dX8_trial_9 rfl ⟨by decide, by decide⟩ ob_0.1 (by decide) (by decide) rfl (Nat.le_of_ble_eq_true rfl) (fun r9 m9 p9 => ?_)
    obtain ⟨rfl, p9⟩ := p9
    refine Z_if_ne hk (tgt := 19) dX8_trial_12 (by decide) (by omega) (by omega) (fun h12 => ?_) (fun h12 => ?_)
    · refine Z_aload0 hk dX8_trial_19 ?_
      refine Z_getR hk fl_8_33 dX8_trial_20 ob_0.1 ob_0.2.1 ob_0.2.2.1 ob_0.2.2.2 ft_8_3 rs_0_3 ?_
      refine Z_aload0 hk dX8_trial_23 ?_
      refine Z_getR hk fl_8_69 dX8_trial_24 ob_0.1 ob_0.2.1 ob_0.2.2.1 ob_0.2.2.2 ft_8_7 rs_0_7 ?_
      refine Z_iload1 hk dX8_trial_27 ?_
      refine Z_aload0 hk dX8_trial_28 ?_
      refine Z_Vi hk (c_X8_known κ.2.1 δ ad _ hA  (by (first | omega | assumption)) (by (first | omega | assumption))) ov_X8_known ml_X8_157 dX8_trial_29 rfl ⟨by decide, by decide⟩ ob_0.1 (by decide) (by decide) rfl (Nat.le_of_ble_eq_true rfl) (fun r29 m29 p29 => ?_)
      obtain ⟨rfl, p29⟩ := p29
      refine Z_iload2 hk dX8_trial_32 ?_
      refine Z_Vi hk (c_X7_measure κ.2.1 δ ad _ hA t r29 w hz (by (first | omega | assumption)) (by (first | omega | assumption)) (by (first | omega | assumption)) (by (first | omega | assumption)) (by (first | omega | assumption)) (by (first | omega | assumption))) ov_X7_measure ml_X8_171 dX8_trial_33 rfl ⟨by decide, by decide⟩ ob_10.1 (by decide) (by decide) rfl (Nat.le_of_ble_eq_true rfl) (fun r33 m33 p33 => ?_)
      obtain ⟨p33, f33_0, f33_1⟩ := p33
      try simp only [f33_0, f33_1, e1, and_true, true_and, or_true, true_or, implies_true, upn, reduceIte, Nat.reduceEqDiff, ne_eq, not_false_eq_true, upc] at p33
      exact Z_iret hk hA hQ dX8_trial_36 ⟨rfl, rfl, _, rfl, (by exact ⟨(by (try simp only [f33_0, f33_1, and_true, true_and, or_true, true_or, implies_true, upn, reduceIte, Nat.reduceEqDiff, ne_eq, not_false_eq_true, upc]) <;> (trivial)), (by intro c k0 k1 k2 k3; simp only [f33_0, f33_1, upc, upn, k0, k1, k2, k3, reduceIte, Nat.reduceEqDiff, ne_eq, not_false_eq_true]), (by intro i k0 k1 k2 k3 k4 k5 k6; simp only [f33_0, f33_1, upc, upn, k0, k1, k2, k3, k4, k5, k6, reduceIte, Nat.reduceEqDiff, ne_eq, not_false_eq_true])⟩)⟩
    · refine Z_iconst hk dX8_trial_15 ?_
      refine Z_goto hk (tgt := 36) dX8_trial_16 (by decide) ?_
      exact Z_iret hk hA hQ dX8_trial_36 ⟨rfl, rfl, _, rfl, (by exact ⟨(by (trivial)), (by intro c k0 k1 k2 k3; rfl), (by intro i k0 k1 k2 k3 k4 k5 k6; rfl)⟩)⟩
set_option maxRecDepth 10000 in
theorem c_X8_chance (l : Launch) (δ : Dp) (ad : Nat → Nat) (M : Mem) (hA : okA δ ad) (t : Int) (w : Int) (hz : NS δ) (qp : 0 ≤ M 38 0 ∧ M 38 0 ≤ 6 ∧ 0 ≤ M 38 1 ∧ M 38 1 ≤ 4 ∧ 0 ≤ M 38 2 ∧ M 38 2 ≤ 8 ∧ -1 ≤ M 38 5 ∧ M 38 5 ≤ 5 ∧ 0 ≤ M 38 6 ∧ M 38 6 ≤ 700) (q1 : 0 ≤ M 1 0 ∧ M 1 0 ≤ 250) (qt : -1 ≤ M 0 10 ∧ M 0 10 ≤ M 1 0) (q2 : AD (M 1 0) (M 2) (M 3) (M 4) (M 5) (M 6)) (q3 : LK (M 41)) (i_t : -2147483648 ≤ t ∧ t ≤ 2147483647) (i_w : -2147483648 ≤ w ∧ w ≤ 2147483647) : Mj l δ yX8_chance cX8_chance 4 (some (.long)) 5 132 ad rs [.ref (ad 0), iv t, iv w] M (fun r M' => (True) ∧ (∀ c : Nat, c ≠ 10 → c ≠ 11 → c ≠ 12 → M' c = M c) ∧ (∀ i : Nat, i ≠ 4 → i ≠ 5 → i ≠ 6 → i ≠ 7 → i ≠ 8 → i ≠ 9 → i ≠ 10 → M' 10 i = M 10 i)) := by
  refine Mg.of (rm := rmN 5 132) (by decide) (Nat.le_of_ble_eq_true rfl) fun κ _ hk _ => ?_
  generalize hQ : Qg κ δ 121 (rmN 5 132).cells (rmN 5 132).slots _ = Q
  show Zj κ δ ad rs Q 4 (121, 0, 0) 0 [some (.ref (ad 0)), some (iv t), some (iv w), none] [] M
  refine Z_aload0 hk dX8_chance_0 ?_
  refine Z_getZ hk fl_8_77 dX8_chance_1 ob_0.1 ob_0.2.1 ob_0.2.2.1 ob_0.2.2.2 ft_8_9 (fun v1 e1 a1 b1 => ?_)
  refine Z_if_eq hk (tgt := 15) dX8_chance_4 (by decide) (by omega) (by omega) (fun h4 => ?_) (fun h4 => ?_)
  · refine Z_ldc2_w hk (n := -1) (mem_g (by decide +kernel)) dX8_chance_15 ?_
    exact Z_lret hk hA hQ dX8_chance_18 ⟨rfl, rfl, _, rfl, (by exact ⟨(by (trivial)), (by intro c k0 k1 k2; rfl), (by intro i k0 k1 k2 k3 k4 k5 k6; rfl)⟩)⟩
  · refine Z_aload0 hk dX8_chance_7 ?_
    refine Z_iload1 hk dX8_chance_8 ?_
    refine Z_Vi hk (c_X8_isTrial κ.2.1 δ ad _ hA t (by (first | omega | assumption))) ov_X8_isTrial ml_X8_111 dX8_chance_9 rfl ⟨by decide, by decide⟩ ob_0.1 (by decide) (by decide) rfl (Nat.le_of_ble_eq_true rfl) (fun r9 m9 p9 => ?_)
    obtain ⟨rfl, p9⟩ := p9
    refine Z_if_ne hk (tgt := 19) dX8_chance_12 (by decide) (by omega) (by omega) (fun h12 => ?_) (fun h12 => ?_)
    · refine Z_aload0 hk dX8_chance_19 ?_
      refine Z_getR hk fl_8_33 dX8_chance_20 ob_0.1 ob_0.2.1 ob_0.2.2.1 ob_0.2.2.2 ft_8_3 rs_0_3 ?_
      refine Z_aload0 hk dX8_chance_23 ?_
      refine Z_getR hk fl_8_69 dX8_chance_24 ob_0.1 ob_0.2.1 ob_0.2.2.1 ob_0.2.2.2 ft_8_7 rs_0_7 ?_
      refine Z_iload1 hk dX8_chance_27 ?_
      refine Z_aload0 hk dX8_chance_28 ?_
      refine Z_Vi hk (c_X8_known κ.2.1 δ ad _ hA  (by (first | omega | assumption)) (by (first | omega | assumption))) ov_X8_known ml_X8_157 dX8_chance_29 rfl ⟨by decide, by decide⟩ ob_0.1 (by decide) (by decide) rfl (Nat.le_of_ble_eq_true rfl) (fun r29 m29 p29 => ?_)
      obtain ⟨rfl, p29⟩ := p29
      refine Z_iconst hk dX8_chance_32 ?_
      refine Z_Vv hk (c_X7_tally κ.2.1 δ ad _ hA t r29 1 hz (by (first | omega | assumption)) (by (first | omega | assumption)) (by (first | omega | assumption)) (by (first | omega | assumption)) (by (first | omega | assumption)) (by (first | omega | assumption))) ov_X7_tally ml_X8_160 dX8_chance_33 rfl ⟨by decide, by decide⟩ ob_10.1 (by decide) (by decide) rfl (Nat.le_of_ble_eq_true rfl) (fun m33 p33 => ?_)
      obtain ⟨p33, f33_0, f33_1⟩ := p33
      try simp only [f33_0, f33_1, e1, and_true, true_and, or_true, true_or, implies_true, upn, reduceIte, Nat.reduceEqDiff, ne_eq, not_false_eq_true, upc] at p33
      refine Z_aload0 hk dX8_chance_36 ?_
      refine Z_getR hk fl_8_69 dX8_chance_37 ob_0.1 ob_0.2.1 ob_0.2.2.1 ob_0.2.2.2 ft_8_7 rs_0_7 ?_
      refine Z_getR hk fl_8_130 dX8_chance_40 ob_38.1 ob_38.2.1 ob_38.2.2.1 ob_38.2.2.2 ft_3_8 rs_38_8 ?_
      refine Z_iload1 hk dX8_chance_43 ?_
      refine Z_zald hk dX8_chance_44 ar_40.1 ar_40.2.1 ar_40.2.2 (by omega) (by omega) (fun v44 e44 a44 b44 => ?_)
      try simp only [f33_0, f33_1, e1, and_true, true_and, or_true, true_or, implies_true, upn, reduceIte, Nat.reduceEqDiff, ne_eq, not_false_eq_true, upc] at e44
      refine Z_istore3 hk rfl (by decide) dX8_chance_45 ?_
      refine Z_iload2 hk dX8_chance_46 ?_
      refine Z_if_eq hk (tgt := 75) dX8_chance_47 (by decide) (by omega) (by omega) (fun h47 => ?_) (fun h47 => ?_)
      · refine Z_aload0 hk dX8_chance_75 ?_
        refine Z_getR hk fl_8_29 dX8_chance_76 ob_0.1 ob_0.2.1 ob_0.2.2.1 ob_0.2.2.2 ft_8_2 rs_0_2 ?_
        refine Z_iload3 hk dX8_chance_79 ?_
        refine Z_aload0 hk dX8_chance_80 ?_
        refine Z_getR hk fl_8_33 dX8_chance_81 ob_0.1 ob_0.2.1 ob_0.2.2.1 ob_0.2.2.2 ft_8_3 rs_0_3 ?_
        refine Z_getI hk fl_8_164 dX8_chance_84 ob_10.1 ob_10.2.1 ob_10.2.2.1 ob_10.2.2.2 ft_7_9 (fun v84 e84 a84 b84 => ?_)
        try simp only [f33_0, f33_1, e1, e44, and_true, true_and, or_true, true_or, implies_true, upn, reduceIte, Nat.reduceEqDiff, ne_eq, not_false_eq_true, upc] at e84
        refine Z_Vj hk (c_X0_below κ.2.1 δ ad _ hA v44 v84 (by (try simp only [f33_0, f33_1, and_true, true_and, or_true, true_or, implies_true, upn, reduceIte, Nat.reduceEqDiff, ne_eq, not_false_eq_true, upc]) <;> (first | omega | assumption)) (by (try simp only [f33_0, f33_1, and_true, true_and, or_true, true_or, implies_true, upn, reduceIte, Nat.reduceEqDiff, ne_eq, not_false_eq_true, upc]) <;> (first | omega | assumption))) ov_X0_below ml_X8_183 dX8_chance_87 rfl ⟨by decide, by decide⟩ ob_8.1 (by decide) (by decide) rfl (Nat.le_of_ble_eq_true rfl) (fun r87 m87 p87 => ?_)
        obtain ⟨rfl, p87⟩ := p87
        try simp only [f33_0, f33_1, e1, e44, e84, and_true, true_and, or_true, true_or, implies_true, upn, reduceIte, Nat.reduceEqDiff, ne_eq, not_false_eq_true, upc] at p87
        exact Z_lret hk hA hQ dX8_chance_90 ⟨rfl, rfl, _, rfl, (by exact ⟨(by (try simp only [f33_0, f33_1, and_true, true_and, or_true, true_or, implies_true, upn, reduceIte, Nat.reduceEqDiff, ne_eq, not_false_eq_true, upc]) <;> (trivial)), (by intro c k0 k1 k2; simp only [f33_0, f33_1, upc, upn, k0, k1, k2, reduceIte, Nat.reduceEqDiff, ne_eq, not_false_eq_true]), (by intro i k0 k1 k2 k3 k4 k5 k6; simp only [f33_0, f33_1, upc, upn, k0, k1, k2, k3, k4, k5, k6, reduceIte, Nat.reduceEqDiff, ne_eq, not_false_eq_true])⟩)⟩
      · refine Z_aload0 hk dX8_chance_50 ?_
        refine Z_getR hk fl_8_29 dX8_chance_51 ob_0.1 ob_0.2.1 ob_0.2.2.1 ob_0.2.2.2 ft_8_2 rs_0_2 ?_
        refine Z_iload3 hk dX8_chance_54 ?_
        refine Z_aload0 hk dX8_chance_55 ?_
        refine Z_getR hk fl_8_33 dX8_chance_56 ob_0.1 ob_0.2.1 ob_0.2.2.1 ob_0.2.2.2 ft_8_3 rs_0_3 ?_
        refine Z_getI hk fl_8_176 dX8_chance_59 ob_10.1 ob_10.2.1 ob_10.2.2.1 ob_10.2.2.2 ft_7_10 (fun v59 e59 a59 b59 => ?_)
        try simp only [f33_0, f33_1, e1, e44, and_true, true_and, or_true, true_or, implies_true, upn, reduceIte, Nat.reduceEqDiff, ne_eq, not_false_eq_true, upc] at e59
        refine Z_aload0 hk dX8_chance_62 ?_
        refine Z_getR hk fl_8_33 dX8_chance_63 ob_0.1 ob_0.2.1 ob_0.2.2.1 ob_0.2.2.2 ft_8_3 rs_0_3 ?_
        refine Z_getI hk fl_8_164 dX8_chance_66 ob_10.1 ob_10.2.1 ob_10.2.2.1 ob_10.2.2.2 ft_7_9 (fun v66 e66 a66 b66 => ?_)
        try simp only [f33_0, f33_1, e1, e44, e59, and_true, true_and, or_true, true_or, implies_true, upn, reduceIte, Nat.reduceEqDiff, ne_eq, not_false_eq_true, upc] at e66
        refine Z_Vj hk (c_X0_above κ.2.1 δ ad _ hA v44 v59 v66 (by (try simp only [f33_0, f33_1, and_true, true_and, or_true, true_or, implies_true, upn, reduceIte, Nat.reduceEqDiff, ne_eq, not_false_eq_true, upc]) <;> (first | omega | assumption)) (by (try simp only [f33_0, f33_1, and_true, true_and, or_true, true_or, implies_true, upn, reduceIte, Nat.reduceEqDiff, ne_eq, not_false_eq_true, upc]) <;> (first | omega | assumption))) ov_X0_above ml_X8_179 dX8_chance_69 rfl ⟨by decide, by decide⟩ ob_8.1 (by decide) (by decide) rfl (Nat.le_of_ble_eq_true rfl) (fun r69 m69 p69 => ?_)
        obtain ⟨rfl, p69⟩ := p69
        try simp only [f33_0, f33_1, e1, e44, e59, e66, and_true, true_and, or_true, true_or, implies_true, upn, reduceIte, Nat.reduceEqDiff, ne_eq, not_false_eq_true, upc] at p69
        refine Z_goto hk (tgt := 90) dX8_chance_72 (by decide) ?_
        exact Z_lret hk hA hQ dX8_chance_90 ⟨rfl, rfl, _, rfl, (by exact ⟨(by (try simp only [f33_0, f33_1, and_true, true_and, or_true, true_or, implies_true, upn, reduceIte, Nat.reduceEqDiff, ne_eq, not_false_eq_true, upc]) <;> (trivial)), (by intro c k0 k1 k2; simp only [f33_0, f33_1, upc, upn, k0, k1, k2, reduceIte, Nat.reduceEqDiff, ne_eq, not_false_eq_true]), (by intro i k0 k1 k2 k3 k4 k5 k6; simp only [f33_0, f33_1, upc, upn, k0, k1, k2, k3, k4, k5, k6, reduceIte, Nat.reduceEqDiff, ne_eq, not_false_eq_true])⟩)⟩
    · refine Z_ldc2_w hk (n := -1) (mem_g (by decide +kernel)) dX8_chance_15 ?_
      exact Z_lret hk hA hQ dX8_chance_18 ⟨rfl, rfl, _, rfl, (by exact ⟨(by (trivial)), (by intro c k0 k1 k2; rfl), (by intro i k0 k1 k2 k3 k4 k5 k6; rfl)⟩)⟩
set_option maxRecDepth 10000 in
theorem c_X8_table (l : Launch) (δ : Dp) (ad : Nat → Nat) (M : Mem) (hA : okA δ ad) (z : Int) (s : Int) (j : Int) (nn : Int) (qz : z = 0 ∨ z = 1) (i_s : -2147483648 ≤ s ∧ s ≤ 2147483647) (i_j : -2147483648 ≤ j ∧ j ≤ 2147483647) (i_nn : -2147483648 ≤ nn ∧ nn ≤ 2147483647) : Mj l δ yX8_table cX8_table 5 (some (.long)) 3 81 ad rs [.ref (ad 0), iv z, iv s, iv j, iv nn] M (fun r M' => (True) ∧ (∀ c : Nat, c ≠ 9 → M' c = M c)) := by
  refine Mg.of (rm := rmN 3 81) (by decide) (Nat.le_of_ble_eq_true rfl) fun κ _ hk _ => ?_
  generalize hQ : Qg κ δ 121 (rmN 3 81).cells (rmN 3 81).slots _ = Q
  show Zj κ δ ad rs Q 5 (121, 0, 0) 0 [some (.ref (ad 0)), some (iv z), some (iv s), some (iv j), some (iv nn)] [] M
  refine Z_iload2 hk dX8_table_0 ?_
  refine Z_Si hk (c_X8_isInThousand κ.2.1 δ ad _ hA s (by (omega))) os_X8_isInThousand ml_X8_191 dX8_table_1 rfl ⟨by decide, by decide⟩ rfl (Nat.le_of_ble_eq_true rfl) (fun r1 m1 p1 => ?_)
  obtain ⟨rfl, p1⟩ := p1
  refine Z_if_eq hk (tgt := 16) dX8_table_4 (by decide) (by omega) (by omega) (fun h4 => ?_) (fun h4 => ?_)
  · refine Z_ldc2_w hk (n := -1) (mem_g (by decide +kernel)) dX8_table_16 ?_
    exact Z_lret hk hA hQ dX8_table_19 ⟨rfl, rfl, _, rfl, (by exact ⟨(by (trivial)), (by intro c k0; rfl)⟩)⟩
  · refine Z_iload3 hk dX8_table_7 ?_
    refine Z_iload4 hk dX8_table_8 ?_
    refine Z_Si hk (c_X8_isPartOf κ.2.1 δ ad _ hA j nn (by (omega)) (by (omega))) os_X8_isPartOf ml_X8_187 dX8_table_10 rfl ⟨by decide, by decide⟩ rfl (Nat.le_of_ble_eq_true rfl) (fun r10 m10 p10 => ?_)
    obtain ⟨rfl, p10⟩ := p10
    refine Z_if_ne hk (tgt := 20) dX8_table_13 (by decide) (by omega) (by omega) (fun h13 => ?_) (fun h13 => ?_)
    · refine Z_aload0 hk dX8_table_20 ?_
      refine Z_getR hk fl_8_29 dX8_table_21 ob_0.1 ob_0.2.1 ob_0.2.2.1 ob_0.2.2.2 ft_8_2 rs_0_2 ?_
      refine Z_iload1 hk dX8_table_24 ?_
      refine Z_iload2 hk dX8_table_25 ?_
      refine Z_iload4 hk dX8_table_26 ?_
      refine Z_iload3 hk dX8_table_28 ?_
      refine Z_iload3 hk dX8_table_29 ?_
      refine Z_Vj hk (c_X0_sum κ.2.1 δ ad _ hA z s nn j j (by (omega)) (by (omega)) (by (omega)) (by (omega)) (by (omega))) ov_X0_sum ml_X8_194 dX8_table_30 rfl ⟨by decide, by decide⟩ ob_8.1 (by decide) (by decide) rfl (Nat.le_of_ble_eq_true rfl) (fun r30 m30 p30 => ?_)
      obtain ⟨p30, f30_0⟩ := p30
      try simp only [f30_0, and_true, true_and, or_true, true_or, implies_true, upn, reduceIte, Nat.reduceEqDiff, ne_eq, not_false_eq_true, upc] at p30
      exact Z_lret hk hA hQ dX8_table_33 ⟨rfl, rfl, _, rfl, (by exact ⟨(by (try simp only [f30_0, and_true, true_and, or_true, true_or, implies_true, upn, reduceIte, Nat.reduceEqDiff, ne_eq, not_false_eq_true, upc]) <;> (trivial)), (by intro c k0; simp only [f30_0, upc, upn, k0, reduceIte, Nat.reduceEqDiff, ne_eq, not_false_eq_true])⟩)⟩
    · refine Z_ldc2_w hk (n := -1) (mem_g (by decide +kernel)) dX8_table_16 ?_
      exact Z_lret hk hA hQ dX8_table_19 ⟨rfl, rfl, _, rfl, (by exact ⟨(by (trivial)), (by intro c k0; rfl)⟩)⟩
set_option maxRecDepth 10000 in
theorem c_X8_needed (l : Launch) (δ : Dp) (ad : Nat → Nat) (M : Mem) (hA : okA δ ad) (z : Int) (s : Int) (a : Int) (b : Int) (qz : z = 0 ∨ z = 1) (i_s : -2147483648 ≤ s ∧ s ≤ 2147483647) (i_a : -2147483648 ≤ a ∧ a ≤ 2147483647) (i_b : -2147483648 ≤ b ∧ b ≤ 2147483647) : Mi l δ yX8_needed cX8_needed 5 (some (.int)) 4 108 ad rs [.ref (ad 0), iv z, iv s, iv a, iv b] M (fun r M' => (True) ∧ (∀ c : Nat, c ≠ 9 → M' c = M c)) := by
  refine Mg.of (rm := rmN 4 108) (by decide) (Nat.le_of_ble_eq_true rfl) fun κ _ hk _ => ?_
  generalize hQ : Qg κ δ 121 (rmN 4 108).cells (rmN 4 108).slots _ = Q
  show Zj κ δ ad rs Q 5 (121, 0, 0) 0 [some (.ref (ad 0)), some (iv z), some (iv s), some (iv a), some (iv b)] [] M
  refine Z_iload2 hk dX8_needed_0 ?_
  refine Z_Si hk (c_X8_isInThousand κ.2.1 δ ad _ hA s (by (omega))) os_X8_isInThousand ml_X8_191 dX8_needed_1 rfl ⟨by decide, by decide⟩ rfl (Nat.le_of_ble_eq_true rfl) (fun r1 m1 p1 => ?_)
  obtain ⟨rfl, p1⟩ := p1
  refine Z_if_eq hk (tgt := 22) dX8_needed_4 (by decide) (by omega) (by omega) (fun h4 => ?_) (fun h4 => ?_)
  · refine Z_iconst hk dX8_needed_22 ?_
    exact Z_iret hk hA hQ dX8_needed_23 ⟨rfl, rfl, _, rfl, (by exact ⟨(by (trivial)), (by intro c k0; rfl)⟩)⟩
  · refine Z_iload3 hk dX8_needed_7 ?_
    refine Z_Si hk (c_X8_isInThousand κ.2.1 δ ad _ hA a (by (omega))) os_X8_isInThousand ml_X8_191 dX8_needed_8 rfl ⟨by decide, by decide⟩ rfl (Nat.le_of_ble_eq_true rfl) (fun r8 m8 p8 => ?_)
    obtain ⟨rfl, p8⟩ := p8
    refine Z_if_eq hk (tgt := 22) dX8_needed_11 (by decide) (by omega) (by omega) (fun h11 => ?_) (fun h11 => ?_)
    · refine Z_iconst hk dX8_needed_22 ?_
      exact Z_iret hk hA hQ dX8_needed_23 ⟨rfl, rfl, _, rfl, (by exact ⟨(by (trivial)), (by intro c k0; rfl)⟩)⟩
    · refine Z_iload4 hk dX8_needed_14 ?_
      refine Z_Si hk (c_X8_isInThousand κ.2.1 δ ad _ hA b (by (omega))) os_X8_isInThousand ml_X8_191 dX8_needed_16 rfl ⟨by decide, by decide⟩ rfl (Nat.le_of_ble_eq_true rfl) (fun r16 m16 p16 => ?_)
      obtain ⟨rfl, p16⟩ := p16
      refine Z_if_ne hk (tgt := 24) dX8_needed_19 (by decide) (by omega) (by omega) (fun h19 => ?_) (fun h19 => ?_)
      · refine Z_aload0 hk dX8_needed_24 ?_
        refine Z_getR hk fl_8_29 dX8_needed_25 ob_0.1 ob_0.2.1 ob_0.2.2.1 ob_0.2.2.2 ft_8_2 rs_0_2 ?_
        refine Z_iload1 hk dX8_needed_28 ?_
        refine Z_iload2 hk dX8_needed_29 ?_
        refine Z_iload3 hk dX8_needed_30 ?_
        refine Z_iload4 hk dX8_needed_31 ?_
        refine Z_Vi hk (c_X0_tastersFor κ.2.1 δ ad _ hA z s a b (by (omega)) (by (omega))) ov_X0_tastersFor ml_X8_198 dX8_needed_33 rfl ⟨by decide, by decide⟩ ob_8.1 (by decide) (by decide) rfl (Nat.le_of_ble_eq_true rfl) (fun r33 m33 p33 => ?_)
        obtain ⟨p33, f33_0⟩ := p33
        try simp only [f33_0, and_true, true_and, or_true, true_or, implies_true, upn, reduceIte, Nat.reduceEqDiff, ne_eq, not_false_eq_true, upc] at p33
        exact Z_iret hk hA hQ dX8_needed_36 ⟨rfl, rfl, _, rfl, (by exact ⟨(by (try simp only [f33_0, and_true, true_and, or_true, true_or, implies_true, upn, reduceIte, Nat.reduceEqDiff, ne_eq, not_false_eq_true, upc]) <;> (trivial)), (by intro c k0; simp only [f33_0, upc, upn, k0, reduceIte, Nat.reduceEqDiff, ne_eq, not_false_eq_true])⟩)⟩
      · refine Z_iconst hk dX8_needed_22 ?_
        exact Z_iret hk hA hQ dX8_needed_23 ⟨rfl, rfl, _, rfl, (by exact ⟨(by (trivial)), (by intro c k0; rfl)⟩)⟩
set_option maxRecDepth 10000 in
theorem c_X8_mean (l : Launch) (δ : Dp) (ad : Nat → Nat) (M : Mem) (hA : okA δ ad) (p : Int) (qp : 0 ≤ M 38 0 ∧ M 38 0 ≤ 6 ∧ 0 ≤ M 38 1 ∧ M 38 1 ≤ 4 ∧ 0 ≤ M 38 2 ∧ M 38 2 ≤ 8 ∧ -1 ≤ M 38 5 ∧ M 38 5 ≤ 5 ∧ 0 ≤ M 38 6 ∧ M 38 6 ≤ 700) (q1 : 0 ≤ M 1 0 ∧ M 1 0 ≤ 250) (qt : -1 ≤ M 0 10 ∧ M 0 10 ≤ M 1 0) (q2 : AD (M 1 0) (M 2) (M 3) (M 4) (M 5) (M 6)) (i_p : -2147483648 ≤ p ∧ p ≤ 2147483647) : Mi l δ yX8_mean cX8_mean 2 (some (.int)) 5 121 ad rs [.ref (ad 0), iv p] M (fun r M' => (True) ∧ (∀ c : Nat, c ≠ 13 → c ≠ 14 → c ≠ 15 → c ≠ 16 → c ≠ 17 → M' c = M c) ∧ (∀ i : Nat, i ≠ 4 → M' 13 i = M 13 i)) := by
  refine Mg.of (rm := rmN 5 121) (by decide) (Nat.le_of_ble_eq_true rfl) fun κ _ hk _ => ?_
  generalize hQ : Qg κ δ 121 (rmN 5 121).cells (rmN 5 121).slots _ = Q
  show Zj κ δ ad rs Q 2 (121, 0, 0) 0 [some (.ref (ad 0)), some (iv p)] [] M
  refine Z_aload0 hk dX8_mean_0 ?_
  refine Z_getZ hk fl_8_77 dX8_mean_1 ob_0.1 ob_0.2.1 ob_0.2.2.1 ob_0.2.2.2 ft_8_9 (fun v1 e1 a1 b1 => ?_)
  refine Z_if_eq hk (tgt := 15) dX8_mean_4 (by decide) (by omega) (by omega) (fun h4 => ?_) (fun h4 => ?_)
  · refine Z_iconst hk dX8_mean_15 ?_
    exact Z_iret hk hA hQ dX8_mean_16 ⟨rfl, rfl, _, rfl, (by exact ⟨(by (trivial)), (by intro c k0 k1 k2 k3 k4; rfl), (by intro i k0; rfl)⟩)⟩
  · refine Z_aload0 hk dX8_mean_7 ?_
    refine Z_iload1 hk dX8_mean_8 ?_
    refine Z_Vi hk (c_X8_isProduct κ.2.1 δ ad _ hA p (by (first | omega | assumption))) ov_X8_isProduct ml_X8_145 dX8_mean_9 rfl ⟨by decide, by decide⟩ ob_0.1 (by decide) (by decide) rfl (Nat.le_of_ble_eq_true rfl) (fun r9 m9 p9 => ?_)
    obtain ⟨rfl, p9⟩ := p9
    refine Z_if_ne hk (tgt := 17) dX8_mean_12 (by decide) (by omega) (by omega) (fun h12 => ?_) (fun h12 => ?_)
    · refine Z_aload0 hk dX8_mean_17 ?_
      refine Z_getR hk fl_8_37 dX8_mean_18 ob_0.1 ob_0.2.1 ob_0.2.2.1 ob_0.2.2.2 ft_8_4 rs_0_4 ?_
      refine Z_aload0 hk dX8_mean_21 ?_
      refine Z_getR hk fl_8_69 dX8_mean_22 ob_0.1 ob_0.2.1 ob_0.2.2.1 ob_0.2.2.2 ft_8_7 rs_0_7 ?_
      refine Z_aload0 hk dX8_mean_25 ?_
      refine Z_Vi hk (c_X8_known κ.2.1 δ ad _ hA  (by (first | omega | assumption)) (by (first | omega | assumption))) ov_X8_known ml_X8_157 dX8_mean_26 rfl ⟨by decide, by decide⟩ ob_0.1 (by decide) (by decide) rfl (Nat.le_of_ble_eq_true rfl) (fun r26 m26 p26 => ?_)
      obtain ⟨rfl, p26⟩ := p26
      refine Z_Vv hk (c_X5_fill κ.2.1 δ ad _ hA r26 (by (first | omega | assumption)) (by (first | omega | assumption)) (by (first | omega | assumption)) (by (first | omega | assumption))) ov_X5_fill ml_X8_202 dX8_mean_29 rfl ⟨by decide, by decide⟩ ob_13.1 (by decide) (by decide) rfl (Nat.le_of_ble_eq_true rfl) (fun m29 p29 => ?_)
      obtain ⟨p29, f29_0, f29_1⟩ := p29
      try simp only [f29_0, f29_1, e1, and_true, true_and, or_true, true_or, implies_true, upn, reduceIte, Nat.reduceEqDiff, ne_eq, not_false_eq_true, upc] at p29
      refine Z_aload0 hk dX8_mean_32 ?_
      refine Z_getR hk fl_8_37 dX8_mean_33 ob_0.1 ob_0.2.1 ob_0.2.2.1 ob_0.2.2.2 ft_8_4 rs_0_4 ?_
      refine Z_iload1 hk dX8_mean_36 ?_
      refine Z_Vi hk (c_X5_meanOf κ.2.1 δ ad _ hA p (by (try simp only [f29_0, f29_1, and_true, true_and, or_true, true_or, implies_true, upn, reduceIte, Nat.reduceEqDiff, ne_eq, not_false_eq_true, upc]) <;> (first | omega | assumption))) ov_X5_meanOf ml_X8_206 dX8_mean_37 rfl ⟨by decide, by decide⟩ ob_13.1 (by decide) (by decide) rfl (Nat.le_of_ble_eq_true rfl) (fun r37 m37 p37 => ?_)
      obtain ⟨rfl, p37⟩ := p37
      try simp only [f29_0, f29_1, e1, and_true, true_and, or_true, true_or, implies_true, upn, reduceIte, Nat.reduceEqDiff, ne_eq, not_false_eq_true, upc] at p37
      exact Z_iret hk hA hQ dX8_mean_40 ⟨rfl, rfl, _, rfl, (by exact ⟨(by (try simp only [f29_0, f29_1, and_true, true_and, or_true, true_or, implies_true, upn, reduceIte, Nat.reduceEqDiff, ne_eq, not_false_eq_true, upc]) <;> (trivial)), (by intro c k0 k1 k2 k3 k4; simp only [f29_0, f29_1, upc, upn, k0, k1, k2, k3, k4, reduceIte, Nat.reduceEqDiff, ne_eq, not_false_eq_true]), (by intro i k0; simp only [f29_0, f29_1, upc, upn, k0, reduceIte, Nat.reduceEqDiff, ne_eq, not_false_eq_true])⟩)⟩
    · refine Z_iconst hk dX8_mean_15 ?_
      exact Z_iret hk hA hQ dX8_mean_16 ⟨rfl, rfl, _, rfl, (by exact ⟨(by (trivial)), (by intro c k0 k1 k2 k3 k4; rfl), (by intro i k0; rfl)⟩)⟩
set_option maxRecDepth 10000 in
theorem c_X8_drift (l : Launch) (δ : Dp) (ad : Nat → Nat) (M : Mem) (hA : okA δ ad) (s : Int) (qp : 0 ≤ M 38 0 ∧ M 38 0 ≤ 6 ∧ 0 ≤ M 38 1 ∧ M 38 1 ≤ 4 ∧ 0 ≤ M 38 2 ∧ M 38 2 ≤ 8 ∧ -1 ≤ M 38 5 ∧ M 38 5 ≤ 5 ∧ 0 ≤ M 38 6 ∧ M 38 6 ≤ 700) (q1 : 0 ≤ M 1 0 ∧ M 1 0 ≤ 250) (qt : -1 ≤ M 0 10 ∧ M 0 10 ≤ M 1 0) (q2 : AD (M 1 0) (M 2) (M 3) (M 4) (M 5) (M 6)) (i_s : -2147483648 ≤ s ∧ s ≤ 2147483647) : Mi l δ yX8_drift cX8_drift 2 (some (.int)) 5 121 ad rs [.ref (ad 0), iv s] M (fun r M' => (True) ∧ (∀ c : Nat, c ≠ 13 → c ≠ 14 → c ≠ 15 → c ≠ 16 → c ≠ 17 → M' c = M c) ∧ (∀ i : Nat, i ≠ 4 → M' 13 i = M 13 i)) := by
  refine Mg.of (rm := rmN 5 121) (by decide) (Nat.le_of_ble_eq_true rfl) fun κ _ hk _ => ?_
  generalize hQ : Qg κ δ 121 (rmN 5 121).cells (rmN 5 121).slots _ = Q
  show Zj κ δ ad rs Q 2 (121, 0, 0) 0 [some (.ref (ad 0)), some (iv s)] [] M
  refine Z_aload0 hk dX8_drift_0 ?_
  refine Z_getZ hk fl_8_77 dX8_drift_1 ob_0.1 ob_0.2.1 ob_0.2.2.1 ob_0.2.2.2 ft_8_9 (fun v1 e1 a1 b1 => ?_)
  refine Z_if_eq hk (tgt := 14) dX8_drift_4 (by decide) (by omega) (by omega) (fun h4 => ?_) (fun h4 => ?_)
  · refine Z_ldc hk (n := -1000000000) (mem_g (by decide +kernel)) dX8_drift_14 ?_
    exact Z_iret hk hA hQ dX8_drift_16 ⟨rfl, rfl, _, rfl, (by exact ⟨(by (trivial)), (by intro c k0 k1 k2 k3 k4; rfl), (by intro i k0; rfl)⟩)⟩
  · refine Z_iload1 hk dX8_drift_7 ?_
    refine Z_Si hk (c_X8_isSession κ.2.1 δ ad _ hA s (by (first | omega | assumption))) os_X8_isSession ml_X8_142 dX8_drift_8 rfl ⟨by decide, by decide⟩ rfl (Nat.le_of_ble_eq_true rfl) (fun r8 m8 p8 => ?_)
    obtain ⟨rfl, p8⟩ := p8
    refine Z_if_ne hk (tgt := 17) dX8_drift_11 (by decide) (by omega) (by omega) (fun h11 => ?_) (fun h11 => ?_)
    · refine Z_aload0 hk dX8_drift_17 ?_
      refine Z_getR hk fl_8_37 dX8_drift_18 ob_0.1 ob_0.2.1 ob_0.2.2.1 ob_0.2.2.2 ft_8_4 rs_0_4 ?_
      refine Z_aload0 hk dX8_drift_21 ?_
      refine Z_getR hk fl_8_69 dX8_drift_22 ob_0.1 ob_0.2.1 ob_0.2.2.1 ob_0.2.2.2 ft_8_7 rs_0_7 ?_
      refine Z_aload0 hk dX8_drift_25 ?_
      refine Z_Vi hk (c_X8_known κ.2.1 δ ad _ hA  (by (first | omega | assumption)) (by (first | omega | assumption))) ov_X8_known ml_X8_157 dX8_drift_26 rfl ⟨by decide, by decide⟩ ob_0.1 (by decide) (by decide) rfl (Nat.le_of_ble_eq_true rfl) (fun r26 m26 p26 => ?_)
      obtain ⟨rfl, p26⟩ := p26
      refine Z_Vv hk (c_X5_fill κ.2.1 δ ad _ hA r26 (by (first | omega | assumption)) (by (first | omega | assumption)) (by (first | omega | assumption)) (by (first | omega | assumption))) ov_X5_fill ml_X8_202 dX8_drift_29 rfl ⟨by decide, by decide⟩ ob_13.1 (by decide) (by decide) rfl (Nat.le_of_ble_eq_true rfl) (fun m29 p29 => ?_)
      obtain ⟨p29, f29_0, f29_1⟩ := p29
      try simp only [f29_0, f29_1, e1, and_true, true_and, or_true, true_or, implies_true, upn, reduceIte, Nat.reduceEqDiff, ne_eq, not_false_eq_true, upc] at p29
      refine Z_aload0 hk dX8_drift_32 ?_
      refine Z_getR hk fl_8_37 dX8_drift_33 ob_0.1 ob_0.2.1 ob_0.2.2.1 ob_0.2.2.2 ft_8_4 rs_0_4 ?_
      refine Z_getR hk fl_8_210 dX8_drift_36 ob_13.1 ob_13.2.1 ob_13.2.2.1 ob_13.2.2.2 ft_5_5 rs_13_5 ?_
      refine Z_iload1 hk dX8_drift_39 ?_
      refine Z_iald hk dX8_drift_40 ar_17.1 ar_17.2.1 ar_17.2.2 (by omega) (by omega) (fun v40 e40 a40 b40 => ?_)
      try simp only [f29_0, f29_1, e1, and_true, true_and, or_true, true_or, implies_true, upn, reduceIte, Nat.reduceEqDiff, ne_eq, not_false_eq_true, upc] at e40
      exact Z_iret hk hA hQ dX8_drift_41 ⟨rfl, rfl, _, rfl, (by exact ⟨(by (try simp only [f29_0, f29_1, and_true, true_and, or_true, true_or, implies_true, upn, reduceIte, Nat.reduceEqDiff, ne_eq, not_false_eq_true, upc]) <;> (trivial)), (by intro c k0 k1 k2 k3 k4; simp only [f29_0, f29_1, upc, upn, k0, k1, k2, k3, k4, reduceIte, Nat.reduceEqDiff, ne_eq, not_false_eq_true]), (by intro i k0; simp only [f29_0, f29_1, upc, upn, k0, reduceIte, Nat.reduceEqDiff, ne_eq, not_false_eq_true])⟩)⟩
    · refine Z_ldc hk (n := -1000000000) (mem_g (by decide +kernel)) dX8_drift_14 ?_
      exact Z_iret hk hA hQ dX8_drift_16 ⟨rfl, rfl, _, rfl, (by exact ⟨(by (trivial)), (by intro c k0 k1 k2 k3 k4; rfl), (by intro i k0; rfl)⟩)⟩
set_option maxRecDepth 10000 in
theorem c_X8_scored (l : Launch) (δ : Dp) (ad : Nat → Nat) (M : Mem) (hA : okA δ ad) (t : Int) (s : Int) (p : Int) (qp : 0 ≤ M 38 0 ∧ M 38 0 ≤ 6 ∧ 0 ≤ M 38 1 ∧ M 38 1 ≤ 4 ∧ 0 ≤ M 38 2 ∧ M 38 2 ≤ 8 ∧ -1 ≤ M 38 5 ∧ M 38 5 ≤ 5 ∧ 0 ≤ M 38 6 ∧ M 38 6 ≤ 700) (q1 : 0 ≤ M 1 0 ∧ M 1 0 ≤ 250) (qt : -1 ≤ M 0 10 ∧ M 0 10 ≤ M 1 0) (q2 : AD (M 1 0) (M 2) (M 3) (M 4) (M 5) (M 6)) (i_t : -2147483648 ≤ t ∧ t ≤ 2147483647) (i_s : -2147483648 ≤ s ∧ s ≤ 2147483647) (i_p : -2147483648 ≤ p ∧ p ≤ 2147483647) : Mi l δ yX8_scored cX8_scored 4 (some (.int)) 5 121 ad rs [.ref (ad 0), iv t, iv s, iv p] M (fun r M' => (True) ∧ (∀ c : Nat, c ≠ 13 → c ≠ 14 → c ≠ 15 → c ≠ 16 → c ≠ 17 → M' c = M c) ∧ (∀ i : Nat, i ≠ 4 → M' 13 i = M 13 i)) := by
  refine Mg.of (rm := rmN 5 121) (by decide) (Nat.le_of_ble_eq_true rfl) fun κ _ hk _ => ?_
  generalize hQ : Qg κ δ 121 (rmN 5 121).cells (rmN 5 121).slots _ = Q
  show Zj κ δ ad rs Q 4 (121, 0, 0) 0 [some (.ref (ad 0)), some (iv t), some (iv s), some (iv p)] [] M
  refine Z_aload0 hk dX8_scored_0 ?_
  refine Z_getZ hk fl_8_77 dX8_scored_1 ob_0.1 ob_0.2.1 ob_0.2.2.1 ob_0.2.2.2 ft_8_9 (fun v1 e1 a1 b1 => ?_)
  refine Z_if_eq hk (tgt := 29) dX8_scored_4 (by decide) (by omega) (by omega) (fun h4 => ?_) (fun h4 => ?_)
  · refine Z_iconst hk dX8_scored_29 ?_
    exact Z_iret hk hA hQ dX8_scored_30 ⟨rfl, rfl, _, rfl, (by exact ⟨(by (trivial)), (by intro c k0 k1 k2 k3 k4; rfl), (by intro i k0; rfl)⟩)⟩
  · refine Z_iload1 hk dX8_scored_7 ?_
    refine Z_Si hk (c_X8_isTaster κ.2.1 δ ad _ hA t (by (first | omega | assumption))) os_X8_isTaster ml_X8_115 dX8_scored_8 rfl ⟨by decide, by decide⟩ rfl (Nat.le_of_ble_eq_true rfl) (fun r8 m8 p8 => ?_)
    obtain ⟨rfl, p8⟩ := p8
    refine Z_if_eq hk (tgt := 29) dX8_scored_11 (by decide) (by omega) (by omega) (fun h11 => ?_) (fun h11 => ?_)
    · refine Z_iconst hk dX8_scored_29 ?_
      exact Z_iret hk hA hQ dX8_scored_30 ⟨rfl, rfl, _, rfl, (by exact ⟨(by (trivial)), (by intro c k0 k1 k2 k3 k4; rfl), (by intro i k0; rfl)⟩)⟩
    · refine Z_iload2 hk dX8_scored_14 ?_
      refine Z_Si hk (c_X8_isSession κ.2.1 δ ad _ hA s (by (first | omega | assumption))) os_X8_isSession ml_X8_142 dX8_scored_15 rfl ⟨by decide, by decide⟩ rfl (Nat.le_of_ble_eq_true rfl) (fun r15 m15 p15 => ?_)
      obtain ⟨rfl, p15⟩ := p15
      refine Z_if_eq hk (tgt := 29) dX8_scored_18 (by decide) (by omega) (by omega) (fun h18 => ?_) (fun h18 => ?_)
      · refine Z_iconst hk dX8_scored_29 ?_
        exact Z_iret hk hA hQ dX8_scored_30 ⟨rfl, rfl, _, rfl, (by exact ⟨(by (trivial)), (by intro c k0 k1 k2 k3 k4; rfl), (by intro i k0; rfl)⟩)⟩
      · refine Z_aload0 hk dX8_scored_21 ?_
        refine Z_iload3 hk dX8_scored_22 ?_
        refine Z_Vi hk (c_X8_isProduct κ.2.1 δ ad _ hA p (by (first | omega | assumption))) ov_X8_isProduct ml_X8_145 dX8_scored_23 rfl ⟨by decide, by decide⟩ ob_0.1 (by decide) (by decide) rfl (Nat.le_of_ble_eq_true rfl) (fun r23 m23 p23 => ?_)
        obtain ⟨rfl, p23⟩ := p23
        refine Z_if_ne hk (tgt := 31) dX8_scored_26 (by decide) (by omega) (by omega) (fun h26 => ?_) (fun h26 => ?_)
        · refine Z_aload0 hk dX8_scored_31 ?_
          refine Z_getR hk fl_8_37 dX8_scored_32 ob_0.1 ob_0.2.1 ob_0.2.2.1 ob_0.2.2.2 ft_8_4 rs_0_4 ?_
          refine Z_aload0 hk dX8_scored_35 ?_
          refine Z_getR hk fl_8_69 dX8_scored_36 ob_0.1 ob_0.2.1 ob_0.2.2.1 ob_0.2.2.2 ft_8_7 rs_0_7 ?_
          refine Z_aload0 hk dX8_scored_39 ?_
          refine Z_Vi hk (c_X8_known κ.2.1 δ ad _ hA  (by (first | omega | assumption)) (by (first | omega | assumption))) ov_X8_known ml_X8_157 dX8_scored_40 rfl ⟨by decide, by decide⟩ ob_0.1 (by decide) (by decide) rfl (Nat.le_of_ble_eq_true rfl) (fun r40 m40 p40 => ?_)
          obtain ⟨rfl, p40⟩ := p40
          refine Z_Vv hk (c_X5_fill κ.2.1 δ ad _ hA r40 (by (first | omega | assumption)) (by (first | omega | assumption)) (by (first | omega | assumption)) (by (first | omega | assumption))) ov_X5_fill ml_X8_202 dX8_scored_43 rfl ⟨by decide, by decide⟩ ob_13.1 (by decide) (by decide) rfl (Nat.le_of_ble_eq_true rfl) (fun m43 p43 => ?_)
          obtain ⟨p43, f43_0, f43_1⟩ := p43
          try simp only [f43_0, f43_1, e1, and_true, true_and, or_true, true_or, implies_true, upn, reduceIte, Nat.reduceEqDiff, ne_eq, not_false_eq_true, upc] at p43
          refine Z_aload0 hk dX8_scored_46 ?_
          refine Z_getR hk fl_8_37 dX8_scored_47 ob_0.1 ob_0.2.1 ob_0.2.2.1 ob_0.2.2.2 ft_8_4 rs_0_4 ?_
          refine Z_iload1 hk dX8_scored_50 ?_
          refine Z_iload2 hk dX8_scored_51 ?_
          refine Z_iload3 hk dX8_scored_52 ?_
          refine Z_Vi hk (c_X5_scaled κ.2.1 δ ad _ hA t s p (by (try simp only [f43_0, f43_1, and_true, true_and, or_true, true_or, implies_true, upn, reduceIte, Nat.reduceEqDiff, ne_eq, not_false_eq_true, upc]) <;> (first | omega | assumption))) ov_X5_scaled ml_X8_213 dX8_scored_53 rfl ⟨by decide, by decide⟩ ob_13.1 (by decide) (by decide) rfl (Nat.le_of_ble_eq_true rfl) (fun r53 m53 p53 => ?_)
          obtain ⟨rfl, p53⟩ := p53
          try simp only [f43_0, f43_1, e1, and_true, true_and, or_true, true_or, implies_true, upn, reduceIte, Nat.reduceEqDiff, ne_eq, not_false_eq_true, upc] at p53
          exact Z_iret hk hA hQ dX8_scored_56 ⟨rfl, rfl, _, rfl, (by exact ⟨(by (try simp only [f43_0, f43_1, and_true, true_and, or_true, true_or, implies_true, upn, reduceIte, Nat.reduceEqDiff, ne_eq, not_false_eq_true, upc]) <;> (trivial)), (by intro c k0 k1 k2 k3 k4; simp only [f43_0, f43_1, upc, upn, k0, k1, k2, k3, k4, reduceIte, Nat.reduceEqDiff, ne_eq, not_false_eq_true]), (by intro i k0; simp only [f43_0, f43_1, upc, upn, k0, reduceIte, Nat.reduceEqDiff, ne_eq, not_false_eq_true])⟩)⟩
        · refine Z_iconst hk dX8_scored_29 ?_
          exact Z_iret hk hA hQ dX8_scored_30 ⟨rfl, rfl, _, rfl, (by exact ⟨(by (trivial)), (by intro c k0 k1 k2 k3 k4; rfl), (by intro i k0; rfl)⟩)⟩
set_option maxRecDepth 10000 in
theorem c_X8_claim (l : Launch) (δ : Dp) (ad : Nat → Nat) (M : Mem) (hA : okA δ ad) (k : Int) (hz : NS δ) (qp : 0 ≤ M 38 0 ∧ M 38 0 ≤ 6 ∧ 0 ≤ M 38 1 ∧ M 38 1 ≤ 4 ∧ 0 ≤ M 38 2 ∧ M 38 2 ≤ 8 ∧ -1 ≤ M 38 5 ∧ M 38 5 ≤ 5 ∧ 0 ≤ M 38 6 ∧ M 38 6 ≤ 700) (q1 : 0 ≤ M 1 0 ∧ M 1 0 ≤ 250) (qt : -1 ≤ M 0 10 ∧ M 0 10 ≤ M 1 0) (q2 : AD (M 1 0) (M 2) (M 3) (M 4) (M 5) (M 6)) (q3 : LK (M 41)) (q5 : SS (M 46)) (q6 : SE (M 47)) (i_k : -2147483648 ≤ k ∧ k ≤ 2147483647) : Mi l δ yX8_claim cX8_claim 2 (some (.int)) 8 209 ad rs [.ref (ad 0), iv k] M (fun r M' => (True) ∧ (∀ c : Nat, c ≠ 10 → c ≠ 11 → c ≠ 12 → c ≠ 13 → c ≠ 14 → c ≠ 15 → c ≠ 16 → c ≠ 17 → c ≠ 18 → c ≠ 19 → c ≠ 9 → M' c = M c) ∧ (∀ i : Nat, i ≠ 4 → i ≠ 5 → i ≠ 6 → i ≠ 7 → i ≠ 8 → i ≠ 9 → i ≠ 10 → M' 10 i = M 10 i) ∧ (∀ i : Nat, i ≠ 4 → M' 13 i = M 13 i) ∧ (∀ i : Nat, i ≠ 3 → M' 18 i = M 18 i)) := by
  refine Mg.of (rm := rmN 8 209) (by decide) (Nat.le_of_ble_eq_true rfl) fun κ _ hk _ => ?_
  generalize hQ : Qg κ δ 121 (rmN 8 209).cells (rmN 8 209).slots _ = Q
  show Zj κ δ ad rs Q 2 (121, 0, 0) 0 [some (.ref (ad 0)), some (iv k)] [] M
  refine Z_aload0 hk dX8_claim_0 ?_
  refine Z_getZ hk fl_8_77 dX8_claim_1 ob_0.1 ob_0.2.1 ob_0.2.2.1 ob_0.2.2.2 ft_8_9 (fun v1 e1 a1 b1 => ?_)
  refine Z_if_eq hk (tgt := 22) dX8_claim_4 (by decide) (by omega) (by omega) (fun h4 => ?_) (fun h4 => ?_)
  · refine Z_iconst hk dX8_claim_22 ?_
    exact Z_iret hk hA hQ dX8_claim_23 ⟨rfl, rfl, _, rfl, (by exact ⟨(by (trivial)), (by intro c k0 k1 k2 k3 k4 k5 k6 k7 k8 k9 k10; rfl), (by intro i k0 k1 k2 k3 k4 k5 k6; rfl), (by intro i k0; rfl), (by intro i k0; rfl)⟩)⟩
  · refine Z_iload1 hk dX8_claim_7 ?_
    refine Z_if_lt hk (tgt := 22) dX8_claim_8 (by decide) (by omega) (by omega) (fun h8 => ?_) (fun h8 => ?_)
    · refine Z_iconst hk dX8_claim_22 ?_
      exact Z_iret hk hA hQ dX8_claim_23 ⟨rfl, rfl, _, rfl, (by exact ⟨(by (trivial)), (by intro c k0 k1 k2 k3 k4 k5 k6 k7 k8 k9 k10; rfl), (by intro i k0 k1 k2 k3 k4 k5 k6; rfl), (by intro i k0; rfl), (by intro i k0; rfl)⟩)⟩
    · refine Z_iload1 hk dX8_claim_11 ?_
      refine Z_aload0 hk dX8_claim_12 ?_
      refine Z_getR hk fl_8_69 dX8_claim_13 ob_0.1 ob_0.2.1 ob_0.2.2.1 ob_0.2.2.2 ft_8_7 rs_0_7 ?_
      refine Z_getI hk fl_8_217 dX8_claim_16 ob_38.1 ob_38.2.1 ob_38.2.2.1 ob_38.2.2.2 ft_3_2 (fun v16 e16 a16 b16 => ?_)
      try simp only [e1, and_true, true_and, or_true, true_or, implies_true, upn, reduceIte, Nat.reduceEqDiff, ne_eq, not_false_eq_true, upc] at e16
      refine Z_icmp_lt hk (tgt := 24) dX8_claim_19 (by decide) (by omega) (by omega) (by omega) (by omega) (fun h19 => ?_) (fun h19 => ?_)
      · refine Z_aload0 hk dX8_claim_24 ?_
        refine Z_getR hk fl_8_46 dX8_claim_25 ob_0.1 ob_0.2.1 ob_0.2.2.1 ob_0.2.2.2 ft_8_5 rs_0_5 ?_
        refine Z_aload0 hk dX8_claim_28 ?_
        refine Z_getR hk fl_8_69 dX8_claim_29 ob_0.1 ob_0.2.1 ob_0.2.2.1 ob_0.2.2.2 ft_8_7 rs_0_7 ?_
        refine Z_aload0 hk dX8_claim_32 ?_
        refine Z_Vi hk (c_X8_known κ.2.1 δ ad _ hA  (by (first | omega | assumption)) (by (first | omega | assumption))) ov_X8_known ml_X8_157 dX8_claim_33 rfl ⟨by decide, by decide⟩ ob_0.1 (by decide) (by decide) rfl (Nat.le_of_ble_eq_true rfl) (fun r33 m33 p33 => ?_)
        obtain ⟨rfl, p33⟩ := p33
        refine Z_iload1 hk dX8_claim_36 ?_
        refine Z_Vi hk (c_X1_holds κ.2.1 δ ad _ hA r33 k hz (by (first | omega | assumption)) (by (first | omega | assumption)) (by (first | omega | assumption)) (by (first | omega | assumption)) (by (first | omega | assumption)) (by (first | omega | assumption)) (by (first | omega | assumption)) (by (first | omega | assumption))) ov_X1_holds ml_X8_220 dX8_claim_37 rfl ⟨by decide, by decide⟩ ob_18.1 (by decide) (by decide) rfl (Nat.le_of_ble_eq_true rfl) (fun r37 m37 p37 => ?_)
        obtain ⟨p37, f37_0, f37_1, f37_2, f37_3⟩ := p37
        try simp only [f37_0, f37_1, f37_2, f37_3, e1, e16, and_true, true_and, or_true, true_or, implies_true, upn, reduceIte, Nat.reduceEqDiff, ne_eq, not_false_eq_true, upc] at p37
        refine Z_if_eq hk (tgt := 47) dX8_claim_40 (by decide) (by omega) (by omega) (fun h40 => ?_) (fun h40 => ?_)
        · refine Z_iconst hk dX8_claim_47 ?_
          exact Z_iret hk hA hQ dX8_claim_48 ⟨rfl, rfl, _, rfl, (by exact ⟨(by (try simp only [f37_0, f37_1, f37_2, f37_3, and_true, true_and, or_true, true_or, implies_true, upn, reduceIte, Nat.reduceEqDiff, ne_eq, not_false_eq_true, upc]) <;> (trivial)), (by intro c k0 k1 k2 k3 k4 k5 k6 k7 k8 k9 k10; simp only [f37_0, f37_1, f37_2, f37_3, upc, upn, k0, k1, k2, k3, k4, k5, k6, k7, k8, k9, k10, reduceIte, Nat.reduceEqDiff, ne_eq, not_false_eq_true]), (by intro i k0 k1 k2 k3 k4 k5 k6; simp only [f37_0, f37_1, f37_2, f37_3, upc, upn, k0, k1, k2, k3, k4, k5, k6, reduceIte, Nat.reduceEqDiff, ne_eq, not_false_eq_true]), (by intro i k0; simp only [f37_0, f37_1, f37_2, f37_3, upc, upn, k0, reduceIte, Nat.reduceEqDiff, ne_eq, not_false_eq_true]), (by intro i k0; simp only [f37_0, f37_1, f37_2, f37_3, upc, upn, k0, reduceIte, Nat.reduceEqDiff, ne_eq, not_false_eq_true])⟩)⟩
        · refine Z_iconst hk dX8_claim_43 ?_
          refine Z_goto hk (tgt := 48) dX8_claim_44 (by decide) ?_
          exact Z_iret hk hA hQ dX8_claim_48 ⟨rfl, rfl, _, rfl, (by exact ⟨(by (try simp only [f37_0, f37_1, f37_2, f37_3, and_true, true_and, or_true, true_or, implies_true, upn, reduceIte, Nat.reduceEqDiff, ne_eq, not_false_eq_true, upc]) <;> (trivial)), (by intro c k0 k1 k2 k3 k4 k5 k6 k7 k8 k9 k10; simp only [f37_0, f37_1, f37_2, f37_3, upc, upn, k0, k1, k2, k3, k4, k5, k6, k7, k8, k9, k10, reduceIte, Nat.reduceEqDiff, ne_eq, not_false_eq_true]), (by intro i k0 k1 k2 k3 k4 k5 k6; simp only [f37_0, f37_1, f37_2, f37_3, upc, upn, k0, k1, k2, k3, k4, k5, k6, reduceIte, Nat.reduceEqDiff, ne_eq, not_false_eq_true]), (by intro i k0; simp only [f37_0, f37_1, f37_2, f37_3, upc, upn, k0, reduceIte, Nat.reduceEqDiff, ne_eq, not_false_eq_true]), (by intro i k0; simp only [f37_0, f37_1, f37_2, f37_3, upc, upn, k0, reduceIte, Nat.reduceEqDiff, ne_eq, not_false_eq_true])⟩)⟩
      · refine Z_iconst hk dX8_claim_22 ?_
        exact Z_iret hk hA hQ dX8_claim_23 ⟨rfl, rfl, _, rfl, (by exact ⟨(by (trivial)), (by intro c k0 k1 k2 k3 k4 k5 k6 k7 k8 k9 k10; rfl), (by intro i k0 k1 k2 k3 k4 k5 k6; rfl), (by intro i k0; rfl), (by intro i k0; rfl)⟩)⟩
set_option maxRecDepth 10000 in
theorem c_X8_orders (l : Launch) (δ : Dp) (ad : Nat → Nat) (M : Mem) (hA : okA δ ad) (t : Int) (nn : Int) (hz : NS δ) (i_t : -2147483648 ≤ t ∧ t ≤ 2147483647) (i_nn : -2147483648 ≤ nn ∧ nn ≤ 2147483647) : Mi l δ yX8_orders cX8_orders 3 (some (.int)) 4 94 ad rs [.ref (ad 0), iv t, iv nn] M (fun r M' => ((M' 32 0 = M 32 0 ∧ M' 32 1 = M 32 1) ∨ (2 ≤ M' 32 0 ∧ M' 32 0 ≤ 5 ∧ 0 ≤ M' 32 1 ∧ M' 32 1 ≤ 30)) ∧ (∀ c : Nat, c ≠ 32 → c ≠ 33 → c ≠ 34 → c ≠ 35 → c ≠ 36 → c ≠ 37 → M' c = M c) ∧ (∀ i : Nat, i ≠ 0 → i ≠ 1 → M' 32 i = M 32 i) ∧ (CB (5 * M 32 1) (M 34) → CB (5 * M' 32 1) (M' 34)) ∧ (CB (5 * M 32 1) (M 35) → CB (5 * M' 32 1) (M' 35))) := by
  refine Mg.of (rm := rmN 4 94) (by decide) (Nat.le_of_ble_eq_true rfl) fun κ _ hk _ => ?_
  generalize hQ : Qg κ δ 121 (rmN 4 94).cells (rmN 4 94).slots _ = Q
  show Zj κ δ ad rs Q 3 (121, 0, 0) 0 [some (.ref (ad 0)), some (iv t), some (iv nn)] [] M
  refine Z_iload1 hk dX8_orders_0 ?_
  refine Z_iconst hk dX8_orders_1 ?_
  refine Z_icmp_lt hk (tgt := 21) dX8_orders_2 (by decide) (by omega) (by omega) (by decide) (by decide) (fun h2 => ?_) (fun h2 => ?_)
  · refine Z_iconst hk dX8_orders_21 ?_
    exact Z_iret hk hA hQ dX8_orders_22 ⟨rfl, rfl, _, rfl, (by exact ⟨(by (omega)), (by intro c k0 k1 k2 k3 k4 k5; rfl), (by intro i k0 k1; rfl), (by first | exact fun h => h | (intro _; (try simp only [and_true, true_and, or_true, true_or, implies_true, upn, reduceIte, Nat.reduceEqDiff, ne_eq, not_false_eq_true, upc, upc]) <;> assumption)), (by first | exact fun h => h | (intro _; (try simp only [and_true, true_and, or_true, true_or, implies_true, upn, reduceIte, Nat.reduceEqDiff, ne_eq, not_false_eq_true, upc, upc]) <;> assumption))⟩)⟩
  · refine Z_iload1 hk dX8_orders_5 ?_
    refine Z_iconst hk dX8_orders_6 ?_
    refine Z_icmp_gt hk (tgt := 21) dX8_orders_7 (by decide) (by omega) (by omega) (by decide) (by decide) (fun h7 => ?_) (fun h7 => ?_)
    · refine Z_iconst hk dX8_orders_21 ?_
      exact Z_iret hk hA hQ dX8_orders_22 ⟨rfl, rfl, _, rfl, (by exact ⟨(by (omega)), (by intro c k0 k1 k2 k3 k4 k5; rfl), (by intro i k0 k1; rfl), (by first | exact fun h => h | (intro _; (try simp only [and_true, true_and, or_true, true_or, implies_true, upn, reduceIte, Nat.reduceEqDiff, ne_eq, not_false_eq_true, upc, upc]) <;> assumption)), (by first | exact fun h => h | (intro _; (try simp only [and_true, true_and, or_true, true_or, implies_true, upn, reduceIte, Nat.reduceEqDiff, ne_eq, not_false_eq_true, upc, upc]) <;> assumption))⟩)⟩
    · refine Z_iload2 hk dX8_orders_10 ?_
      refine Z_iconst hk dX8_orders_11 ?_
      refine Z_icmp_lt hk (tgt := 21) dX8_orders_12 (by decide) (by omega) (by omega) (by decide) (by decide) (fun h12 => ?_) (fun h12 => ?_)
      · refine Z_iconst hk dX8_orders_21 ?_
        exact Z_iret hk hA hQ dX8_orders_22 ⟨rfl, rfl, _, rfl, (by exact ⟨(by (omega)), (by intro c k0 k1 k2 k3 k4 k5; rfl), (by intro i k0 k1; rfl), (by first | exact fun h => h | (intro _; (try simp only [and_true, true_and, or_true, true_or, implies_true, upn, reduceIte, Nat.reduceEqDiff, ne_eq, not_false_eq_true, upc, upc]) <;> assumption)), (by first | exact fun h => h | (intro _; (try simp only [and_true, true_and, or_true, true_or, implies_true, upn, reduceIte, Nat.reduceEqDiff, ne_eq, not_false_eq_true, upc, upc]) <;> assumption))⟩)⟩
      · refine Z_iload2 hk dX8_orders_15 ?_
        refine Z_bipush hk dX8_orders_16 (by decide) ?_
        refine Z_icmp_le hk (tgt := 23) dX8_orders_18 (by decide) (by omega) (by omega) (by decide) (by decide) (fun h18 => ?_) (fun h18 => ?_)
        · refine Z_aload0 hk dX8_orders_23 ?_
          refine Z_getR hk fl_8_65 dX8_orders_24 ob_0.1 ob_0.2.1 ob_0.2.2.1 ob_0.2.2.2 ft_8_6 rs_0_6 ?_
          refine Z_iload1 hk dX8_orders_27 ?_
          refine Z_iload2 hk dX8_orders_28 ?_
          refine Z_Vi hk (c_X6_lay κ.2.1 δ ad _ hA t nn hz (by (first | omega | assumption))) ov_X6_lay ml_X8_224 dX8_orders_29 rfl ⟨by decide, by decide⟩ ob_32.1 (by decide) (by decide) rfl (Nat.le_of_ble_eq_true rfl) (fun r29 m29 p29 => ?_)
          obtain ⟨p29, f29_0, f29_1, f29_2, f29_3⟩ := p29
          try simp only [f29_0, f29_1, f29_2, f29_3, and_true, true_and, or_true, true_or, implies_true, upn, reduceIte, Nat.reduceEqDiff, ne_eq, not_false_eq_true, upc] at p29
          try simp only [f29_0, f29_1, f29_3, and_true, true_and, or_true, true_or, implies_true, upn, reduceIte, Nat.reduceEqDiff, ne_eq, not_false_eq_true, upc] at f29_2
          try simp only [f29_0, f29_1, f29_2, and_true, true_and, or_true, true_or, implies_true, upn, reduceIte, Nat.reduceEqDiff, ne_eq, not_false_eq_true, upc] at f29_3
          exact Z_iret hk hA hQ dX8_orders_32 ⟨rfl, rfl, _, rfl, (by exact ⟨(by (try simp only [f29_0, f29_1, f29_2, f29_3, and_true, true_and, or_true, true_or, implies_true, upn, reduceIte, Nat.reduceEqDiff, ne_eq, not_false_eq_true, upc]) <;> (omega)), (by intro c k0 k1 k2 k3 k4 k5; simp only [f29_0, f29_1, f29_2, f29_3, upc, upn, k0, k1, k2, k3, k4, k5, reduceIte, Nat.reduceEqDiff, ne_eq, not_false_eq_true]), (by intro i k0 k1; simp only [f29_0, f29_1, f29_2, f29_3, upc, upn, k0, k1, reduceIte, Nat.reduceEqDiff, ne_eq, not_false_eq_true]), (by first | exact fun h => h | (intro _; (try simp only [f29_0, f29_1, f29_2, f29_3, and_true, true_and, or_true, true_or, implies_true, upn, reduceIte, Nat.reduceEqDiff, ne_eq, not_false_eq_true, upc, upc]) <;> assumption)), (by first | exact fun h => h | (intro _; (try simp only [f29_0, f29_1, f29_2, f29_3, and_true, true_and, or_true, true_or, implies_true, upn, reduceIte, Nat.reduceEqDiff, ne_eq, not_false_eq_true, upc, upc]) <;> assumption))⟩)⟩
        · refine Z_iconst hk dX8_orders_21 ?_
          exact Z_iret hk hA hQ dX8_orders_22 ⟨rfl, rfl, _, rfl, (by exact ⟨(by (omega)), (by intro c k0 k1 k2 k3 k4 k5; rfl), (by intro i k0 k1; rfl), (by first | exact fun h => h | (intro _; (try simp only [and_true, true_and, or_true, true_or, implies_true, upn, reduceIte, Nat.reduceEqDiff, ne_eq, not_false_eq_true, upc, upc]) <;> assumption)), (by first | exact fun h => h | (intro _; (try simp only [and_true, true_and, or_true, true_or, implies_true, upn, reduceIte, Nat.reduceEqDiff, ne_eq, not_false_eq_true, upc, upc]) <;> assumption))⟩)⟩
set_option maxRecDepth 10000 in
theorem c_X8_served (l : Launch) (δ : Dp) (ad : Nat → Nat) (M : Mem) (hA : okA δ ad) (i : Int) (p : Int) (q0 : ((M 32 0 = 0 ∧ M 32 1 = 0) ∨ (2 ≤ M 32 0 ∧ M 32 0 ≤ 5)) ∧ 0 ≤ M 32 1 ∧ M 32 1 ≤ 30) (i_i : -2147483648 ≤ i ∧ i ≤ 2147483647) (i_p : -2147483648 ≤ p ∧ p ≤ 2147483647) : Mi l δ yX8_served cX8_served 3 (some (.int)) 0 0 ad rs [.ref (ad 0), iv i, iv p] M (fun r M' => M = M' ∧ (True)) := by
  refine Mg.of (rm := rmN 0 0) (by decide) (Nat.le_of_ble_eq_true rfl) fun κ _ hk _ => ?_
  generalize hQ : Qg κ δ 121 (rmN 0 0).cells (rmN 0 0).slots _ = Q
  show Zj κ δ ad rs Q 3 (121, 0, 0) 0 [some (.ref (ad 0)), some (iv i), some (iv p)] [] M
  refine Z_iload1 hk dX8_served_0 ?_
  refine Z_if_lt hk (tgt := 30) dX8_served_1 (by decide) (by omega) (by omega) (fun h1 => ?_) (fun h1 => ?_)
  · refine Z_iconst hk dX8_served_30 ?_
    exact Z_iret hk hA hQ dX8_served_31 ⟨rfl, rfl, _, rfl, (by exact ⟨rfl, (by trivial)⟩)⟩
  · refine Z_iload1 hk dX8_served_4 ?_
    refine Z_aload0 hk dX8_served_5 ?_
    refine Z_getR hk fl_8_65 dX8_served_6 ob_0.1 ob_0.2.1 ob_0.2.2.1 ob_0.2.2.2 ft_8_6 rs_0_6 ?_
    refine Z_getI hk fl_8_227 dX8_served_9 ob_32.1 ob_32.2.1 ob_32.2.2.1 ob_32.2.2.2 ft_6_1 (fun v9 e9 a9 b9 => ?_)
    refine Z_icmp_ge hk (tgt := 30) dX8_served_12 (by decide) (by omega) (by omega) (by omega) (by omega) (fun h12 => ?_) (fun h12 => ?_)
    · refine Z_iconst hk dX8_served_30 ?_
      exact Z_iret hk hA hQ dX8_served_31 ⟨rfl, rfl, _, rfl, (by exact ⟨rfl, (by trivial)⟩)⟩
    · refine Z_iload2 hk dX8_served_15 ?_
      refine Z_if_lt hk (tgt := 30) dX8_served_16 (by decide) (by omega) (by omega) (fun h16 => ?_) (fun h16 => ?_)
      · refine Z_iconst hk dX8_served_30 ?_
        exact Z_iret hk hA hQ dX8_served_31 ⟨rfl, rfl, _, rfl, (by exact ⟨rfl, (by trivial)⟩)⟩
      · refine Z_iload2 hk dX8_served_19 ?_
        refine Z_aload0 hk dX8_served_20 ?_
        refine Z_getR hk fl_8_65 dX8_served_21 ob_0.1 ob_0.2.1 ob_0.2.2.1 ob_0.2.2.2 ft_8_6 rs_0_6 ?_
        refine Z_getI hk fl_8_230 dX8_served_24 ob_32.1 ob_32.2.1 ob_32.2.2.1 ob_32.2.2.2 ft_6_0 (fun v24 e24 a24 b24 => ?_)
        try simp only [e9, and_true, true_and, or_true, true_or, implies_true, upn, reduceIte, Nat.reduceEqDiff, ne_eq, not_false_eq_true, upc] at e24
        refine Z_icmp_lt hk (tgt := 32) dX8_served_27 (by decide) (by omega) (by omega) (by omega) (by omega) (fun h27 => ?_) (fun h27 => ?_)
        · refine Z_aload0 hk dX8_served_32 ?_
          refine Z_getR hk fl_8_65 dX8_served_33 ob_0.1 ob_0.2.1 ob_0.2.2.1 ob_0.2.2.2 ft_8_6 rs_0_6 ?_
          refine Z_getR hk fl_8_233 dX8_served_36 ob_32.1 ob_32.2.1 ob_32.2.2.1 ob_32.2.2.2 ft_6_2 rs_32_2 ?_
          refine Z_iload1 hk dX8_served_39 ?_
          refine Z_iconst hk dX8_served_40 ?_
          refine Z_imul hk dX8_served_41 ?_
          refine Z_iload2 hk dX8_served_42 ?_
          refine Z_iadd hk dX8_served_43 ?_
          refine Z_iald hk dX8_served_44 ar_33.1 ar_33.2.1 ar_33.2.2 (by omega) (by omega) (fun v44 e44 a44 b44 => ?_)
          try simp only [e9, e24, and_true, true_and, or_true, true_or, implies_true, upn, reduceIte, Nat.reduceEqDiff, ne_eq, not_false_eq_true, upc] at e44
          exact Z_iret hk hA hQ dX8_served_45 ⟨rfl, rfl, _, rfl, (by exact ⟨rfl, (by trivial)⟩)⟩
        · refine Z_iconst hk dX8_served_30 ?_
          exact Z_iret hk hA hQ dX8_served_31 ⟨rfl, rfl, _, rfl, (by exact ⟨rfl, (by trivial)⟩)⟩
set_option maxRecDepth 10000 in
theorem c_X8_serves (l : Launch) (δ : Dp) (ad : Nat → Nat) (M : Mem) (hA : okA δ ad) (v : Int) (q0 : ((M 32 0 = 0 ∧ M 32 1 = 0) ∨ (2 ≤ M 32 0 ∧ M 32 0 ≤ 5)) ∧ 0 ≤ M 32 1 ∧ M 32 1 ≤ 30) (q3 : CB (5 * M 32 1) (M 34)) (q4 : CB (5 * M 32 1) (M 35)) (i_v : -2147483648 ≤ v ∧ v ≤ 2147483647) : Mi l δ yX8_serves cX8_serves 2 (some (.int)) 3 69 ad rs [.ref (ad 0), iv v] M (fun r M' => (M 32 1 ≤ M' 32 1 ∧ M' 32 1 ≤ 30 ∧ (M 32 1 = 0 → M' 32 1 = 0)) ∧ (∀ c : Nat, c ≠ 32 → c ≠ 33 → c ≠ 34 → c ≠ 35 → c ≠ 36 → M' c = M c) ∧ (∀ i : Nat, i ≠ 1 → M' 32 i = M 32 i) ∧ (CB (5 * M' 32 1) (M' 34)) ∧ (CB (5 * M' 32 1) (M' 35))) := by
  refine Mg.of (rm := rmN 3 69) (by decide) (Nat.le_of_ble_eq_true rfl) fun κ _ hk _ => ?_
  generalize hQ : Qg κ δ 121 (rmN 3 69).cells (rmN 3 69).slots _ = Q
  show Zj κ δ ad rs Q 2 (121, 0, 0) 0 [some (.ref (ad 0)), some (iv v)] [] M
  refine Z_aload0 hk dX8_serves_0 ?_
  refine Z_getR hk fl_8_65 dX8_serves_1 ob_0.1 ob_0.2.1 ob_0.2.2.1 ob_0.2.2.2 ft_8_6 rs_0_6 ?_
  refine Z_getI hk fl_8_227 dX8_serves_4 ob_32.1 ob_32.2.1 ob_32.2.2.1 ob_32.2.2.2 ft_6_1 (fun v4 e4 a4 b4 => ?_)
  refine Z_iconst hk dX8_serves_7 ?_
  refine Z_icmp_lt hk (tgt := 23) dX8_serves_8 (by decide) (by omega) (by omega) (by decide) (by decide) (fun h8 => ?_) (fun h8 => ?_)
  · refine Z_iconst hk dX8_serves_23 ?_
    refine Z_goto hk (tgt := 35) dX8_serves_24 (by decide) ?_
    exact Z_iret hk hA hQ dX8_serves_35 ⟨rfl, rfl, _, rfl, (by exact ⟨(by (omega)), (by intro c k0 k1 k2 k3 k4; rfl), (by intro i k0; rfl), (by (try simp only [e4, and_true, true_and, or_true, true_or, implies_true, upn, reduceIte, Nat.reduceEqDiff, ne_eq, not_false_eq_true, upc, upc]) <;> (first | assumption | exact q3)), (by (try simp only [e4, and_true, true_and, or_true, true_or, implies_true, upn, reduceIte, Nat.reduceEqDiff, ne_eq, not_false_eq_true, upc, upc]) <;> (first | assumption | exact q4))⟩)⟩
  · refine Z_aload0 hk dX8_serves_11 ?_
    refine Z_getR hk fl_8_65 dX8_serves_12 ob_0.1 ob_0.2.1 ob_0.2.2.1 ob_0.2.2.2 ft_8_6 rs_0_6 ?_
    refine Z_getI hk fl_8_227 dX8_serves_15 ob_32.1 ob_32.2.1 ob_32.2.2.1 ob_32.2.2.2 ft_6_1 (fun v15 e15 a15 b15 => ?_)
    try simp only [e4, and_true, true_and, or_true, true_or, implies_true, upn, reduceIte, Nat.reduceEqDiff, ne_eq, not_false_eq_true, upc] at e15
    refine Z_bipush hk dX8_serves_18 (by decide) ?_
    refine Z_icmp_lt hk (tgt := 27) dX8_serves_20 (by decide) (by omega) (by omega) (by decide) (by decide) (fun h20 => ?_) (fun h20 => ?_)
    · refine Z_aload0 hk dX8_serves_27 ?_
      refine Z_getR hk fl_8_65 dX8_serves_28 ob_0.1 ob_0.2.1 ob_0.2.2.1 ob_0.2.2.2 ft_8_6 rs_0_6 ?_
      refine Z_iload1 hk dX8_serves_31 ?_
      refine Z_Vi hk (c_X6_layByHand κ.2.1 δ ad _ hA v (by (first | omega | assumption)) (by (first | omega | assumption)) (by (first | omega | assumption)) (by (first | omega | assumption)) (by (first | omega | assumption))) ov_X6_layByHand ml_X8_236 dX8_serves_32 rfl ⟨by decide, by decide⟩ ob_32.1 (by decide) (by decide) rfl (Nat.le_of_ble_eq_true rfl) (fun r32 m32 p32 => ?_)
      obtain ⟨p32, f32_0, f32_1, f32_2, f32_3⟩ := p32
      try simp only [f32_0, f32_1, f32_2, f32_3, e4, e15, and_true, true_and, or_true, true_or, implies_true, upn, reduceIte, Nat.reduceEqDiff, ne_eq, not_false_eq_true, upc] at p32
      try simp only [f32_0, f32_1, f32_3, and_true, true_and, or_true, true_or, implies_true, upn, reduceIte, Nat.reduceEqDiff, ne_eq, not_false_eq_true, upc] at f32_2
      try simp only [f32_0, f32_1, f32_2, and_true, true_and, or_true, true_or, implies_true, upn, reduceIte, Nat.reduceEqDiff, ne_eq, not_false_eq_true, upc] at f32_3
      exact Z_iret hk hA hQ dX8_serves_35 ⟨rfl, rfl, _, rfl, (by exact ⟨(by (try simp only [f32_0, f32_1, f32_2, f32_3, and_true, true_and, or_true, true_or, implies_true, upn, reduceIte, Nat.reduceEqDiff, ne_eq, not_false_eq_true, upc]) <;> (omega)), (by intro c k0 k1 k2 k3 k4; simp only [f32_0, f32_1, f32_2, f32_3, upc, upn, k0, k1, k2, k3, k4, reduceIte, Nat.reduceEqDiff, ne_eq, not_false_eq_true]), (by intro i k0; simp only [f32_0, f32_1, f32_2, f32_3, upc, upn, k0, reduceIte, Nat.reduceEqDiff, ne_eq, not_false_eq_true]), (by (try simp only [f32_0, f32_1, f32_2, f32_3, e4, e15, and_true, true_and, or_true, true_or, implies_true, upn, reduceIte, Nat.reduceEqDiff, ne_eq, not_false_eq_true, upc, upc]) <;> (first | assumption | exact q3)), (by (try simp only [f32_0, f32_1, f32_2, f32_3, e4, e15, and_true, true_and, or_true, true_or, implies_true, upn, reduceIte, Nat.reduceEqDiff, ne_eq, not_false_eq_true, upc, upc]) <;> (first | assumption | exact q4))⟩)⟩
    · refine Z_iconst hk dX8_serves_23 ?_
      refine Z_goto hk (tgt := 35) dX8_serves_24 (by decide) ?_
      exact Z_iret hk hA hQ dX8_serves_35 ⟨rfl, rfl, _, rfl, (by exact ⟨(by (omega)), (by intro c k0 k1 k2 k3 k4; rfl), (by intro i k0; rfl), (by (try simp only [e4, e15, and_true, true_and, or_true, true_or, implies_true, upn, reduceIte, Nat.reduceEqDiff, ne_eq, not_false_eq_true, upc, upc]) <;> (first | assumption | exact q3)), (by (try simp only [e4, e15, and_true, true_and, or_true, true_or, implies_true, upn, reduceIte, Nat.reduceEqDiff, ne_eq, not_false_eq_true, upc, upc]) <;> (first | assumption | exact q4))⟩)⟩
set_option maxRecDepth 10000 in
theorem c_X8_all (l : Launch) (δ : Dp) (ad : Nat → Nat) (M : Mem) (hA : okA δ ad) (w : Int) (qp : 0 ≤ M 38 0 ∧ M 38 0 ≤ 6 ∧ 0 ≤ M 38 1 ∧ M 38 1 ≤ 4 ∧ 0 ≤ M 38 2 ∧ M 38 2 ≤ 8 ∧ -1 ≤ M 38 5 ∧ M 38 5 ≤ 5 ∧ 0 ≤ M 38 6 ∧ M 38 6 ≤ 700) (q1 : 0 ≤ M 1 0 ∧ M 1 0 ≤ 250) (qt : -1 ≤ M 0 10 ∧ M 0 10 ≤ M 1 0) (i_w : -2147483648 ≤ w ∧ w ≤ 2147483647) : Mi l δ yX8_all cX8_all 2 (some (.int)) 1 22 ad rs [.ref (ad 0), iv w] M (fun r M' => M = M' ∧ (True)) := by
  refine Mg.of (rm := rmN 1 22) (by decide) (Nat.le_of_ble_eq_true rfl) fun κ _ hk _ => ?_
  generalize hQ : Qg κ δ 121 (rmN 1 22).cells (rmN 1 22).slots _ = Q
  show Zj κ δ ad rs Q 2 (121, 0, 0) 0 [some (.ref (ad 0)), some (iv w)] [] M
  refine Z_iload1 hk dX8_all_0 ?_
  rcases (show (w < 0 ∨ 6 < w) ∨ w = 0 ∨ w = 1 ∨ w = 2 ∨ w = 3 ∨ w = 4 ∨ w = 5 ∨ w = 6 from by omega) with h1 | h1 | h1 | h1 | h1 | h1 | h1 | h1
  · refine Z_tableOut hk dX8_all_1 (tgt := 102) (by decide) (by omega) (by omega) h1 ?_
    refine Z_iconst hk dX8_all_102 ?_
    exact Z_iret hk hA hQ dX8_all_103 ⟨rfl, rfl, _, rfl, (by exact ⟨rfl, (by trivial)⟩)⟩
  · refine Z_tableIn hk dX8_all_1 h1 (by decide) (by decide) (by decide) (by decide) (off := 43) rfl (tgt := 44) (by decide) ?_
    refine Z_aload0 hk dX8_all_44 ?_
    refine Z_getR hk fl_8_69 dX8_all_45 ob_0.1 ob_0.2.1 ob_0.2.2.1 ob_0.2.2.2 ft_8_7 rs_0_7 ?_
    refine Z_getI hk fl_8_239 dX8_all_48 ob_38.1 ob_38.2.1 ob_38.2.2.1 ob_38.2.2.2 ft_3_0 (fun v48 e48 a48 b48 => ?_)
    exact Z_iret hk hA hQ dX8_all_51 ⟨rfl, rfl, _, rfl, (by exact ⟨rfl, (by trivial)⟩)⟩
  · refine Z_tableIn hk dX8_all_1 h1 (by decide) (by decide) (by decide) (by decide) (off := 51) rfl (tgt := 52) (by decide) ?_
    refine Z_aload0 hk dX8_all_52 ?_
    refine Z_getR hk fl_8_69 dX8_all_53 ob_0.1 ob_0.2.1 ob_0.2.2.1 ob_0.2.2.2 ft_8_7 rs_0_7 ?_
    refine Z_getI hk fl_8_242 dX8_all_56 ob_38.1 ob_38.2.1 ob_38.2.2.1 ob_38.2.2.2 ft_3_1 (fun v56 e56 a56 b56 => ?_)
    exact Z_iret hk hA hQ dX8_all_59 ⟨rfl, rfl, _, rfl, (by exact ⟨rfl, (by trivial)⟩)⟩
  · refine Z_tableIn hk dX8_all_1 h1 (by decide) (by decide) (by decide) (by decide) (off := 59) rfl (tgt := 60) (by decide) ?_
    refine Z_aload0 hk dX8_all_60 ?_
    refine Z_getR hk fl_8_69 dX8_all_61 ob_0.1 ob_0.2.1 ob_0.2.2.1 ob_0.2.2.2 ft_8_7 rs_0_7 ?_
    refine Z_getI hk fl_8_217 dX8_all_64 ob_38.1 ob_38.2.1 ob_38.2.2.1 ob_38.2.2.2 ft_3_2 (fun v64 e64 a64 b64 => ?_)
    exact Z_iret hk hA hQ dX8_all_67 ⟨rfl, rfl, _, rfl, (by exact ⟨rfl, (by trivial)⟩)⟩
  · refine Z_tableIn hk dX8_all_1 h1 (by decide) (by decide) (by decide) (by decide) (off := 67) rfl (tgt := 68) (by decide) ?_
    refine Z_aload0 hk dX8_all_68 ?_
    refine Z_getR hk fl_8_25 dX8_all_69 ob_0.1 ob_0.2.1 ob_0.2.2.1 ob_0.2.2.2 ft_8_1 rs_0_1 ?_
    refine Z_getI hk fl_8_154 dX8_all_72 ob_1.1 ob_1.2.1 ob_1.2.2.1 ob_1.2.2.2 ft_2_0 (fun v72 e72 a72 b72 => ?_)
    exact Z_iret hk hA hQ dX8_all_75 ⟨rfl, rfl, _, rfl, (by exact ⟨rfl, (by trivial)⟩)⟩
  · refine Z_tableIn hk dX8_all_1 h1 (by decide) (by decide) (by decide) (by decide) (off := 75) rfl (tgt := 76) (by decide) ?_
    refine Z_aload0 hk dX8_all_76 ?_
    refine Z_Vi hk (c_X8_known κ.2.1 δ ad _ hA  (by (omega)) (by (omega))) ov_X8_known ml_X8_157 dX8_all_77 rfl ⟨by decide, by decide⟩ ob_0.1 (by decide) (by decide) rfl (Nat.le_of_ble_eq_true rfl) (fun r77 m77 p77 => ?_)
    obtain ⟨rfl, p77⟩ := p77
    exact Z_iret hk hA hQ dX8_all_80 ⟨rfl, rfl, _, rfl, (by exact ⟨rfl, (by trivial)⟩)⟩
  · refine Z_tableIn hk dX8_all_1 h1 (by decide) (by decide) (by decide) (by decide) (off := 80) rfl (tgt := 81) (by decide) ?_
    refine Z_aload0 hk dX8_all_81 ?_
    refine Z_getZ hk fl_8_77 dX8_all_82 ob_0.1 ob_0.2.1 ob_0.2.2.1 ob_0.2.2.2 ft_8_9 (fun v82 e82 a82 b82 => ?_)
    refine Z_if_eq hk (tgt := 92) dX8_all_85 (by decide) (by omega) (by omega) (fun h85 => ?_) (fun h85 => ?_)
    · refine Z_iconst hk dX8_all_92 ?_
      exact Z_iret hk hA hQ dX8_all_93 ⟨rfl, rfl, _, rfl, (by exact ⟨rfl, (by trivial)⟩)⟩
    · refine Z_iconst hk dX8_all_88 ?_
      refine Z_goto hk (tgt := 93) dX8_all_89 (by decide) ?_
      exact Z_iret hk hA hQ dX8_all_93 ⟨rfl, rfl, _, rfl, (by exact ⟨rfl, (by trivial)⟩)⟩
  · refine Z_tableIn hk dX8_all_1 h1 (by decide) (by decide) (by decide) (by decide) (off := 93) rfl (tgt := 94) (by decide) ?_
    refine Z_aload0 hk dX8_all_94 ?_
    refine Z_getR hk fl_8_69 dX8_all_95 ob_0.1 ob_0.2.1 ob_0.2.2.1 ob_0.2.2.2 ft_8_7 rs_0_7 ?_
    refine Z_Vi hk (c_X3_allLooks_p38 κ.2.1 δ ad _ hA  (by (omega))) ov_X3_allLooks ml_X8_245 dX8_all_98 rfl ⟨by decide, by decide⟩ ob_38.1 (by decide) (by decide) rfl (Nat.le_of_ble_eq_true rfl) (fun r98 m98 p98 => ?_)
    obtain ⟨rfl, p98⟩ := p98
    exact Z_iret hk hA hQ dX8_all_101 ⟨rfl, rfl, _, rfl, (by exact ⟨rfl, (by trivial)⟩)⟩
