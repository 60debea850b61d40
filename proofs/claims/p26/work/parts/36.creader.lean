set_option maxRecDepth 10000 in
theorem c_X4_append (l : Launch) (δ : Dp) (ad : Nat → Nat) (M : Mem) (hA : okA δ ad) (v : Int) (q0 : 0 ≤ (M 20 2) ∧ (M 20 2) ≤ 700) (i_v : -2147483648 ≤ v ∧ v ≤ 2147483647) : Mv l δ yX4_append cX4_append 3 none 0 0 ad rs [.ref (ad 20), iv v] M (fun M' => (0 ≤ (M' 20 2) ∧ (M' 20 2) ≤ 700) ∧ (∀ c : Nat, c ≠ 20 → c ≠ 31 → M' c = M c) ∧ (∀ i : Nat, i ≠ 2 → M' 20 i = M 20 i)) := by
  refine Mg.of (rm := rmN 0 0) (by decide) (Nat.le_of_ble_eq_true rfl) fun κ _ hk _ => ?_
  generalize hQ : Qg κ δ 121 (rmN 0 0).cells (rmN 0 0).slots _ = Q
  show Zj κ δ ad rs Q 3 (121, 0, 0) 0 [some (.ref (ad 20)), some (iv v), none] [] M
  refine Z_bipush hk dX4_append_0 (by decide) ?_
  have J3 : ∀ (n : Nat) (x2_3 : Int) (m3 : Mem), ((-8 ≤ x2_3 ∧ x2_3 ≤ 24 ∧ 0 ≤ (m3 20 2) ∧ (m3 20 2) ≤ 700) ∧ (∀ c : Nat, c ≠ 20 → c ≠ 31 → m3 c = M c) ∧ (∀ i : Nat, i ≠ 2 → m3 20 i = M 20 i)) → (x2_3 + 8) < (n : Int) → Zj κ δ ad rs Q 3 (121, 0, 0) 3 [some (.ref (ad 20)), some (iv v), some (iv x2_3)] [] m3 := by
    intro n
    induction n with
    | zero => intro x2_3 m3 h3 hm3; exfalso; obtain ⟨h3, -⟩ := h3; omega
    | succ n ih3 =>
      intro x2_3 m3 h3 hm3
      obtain ⟨h3, f3_0, f3_1⟩ := h3
      try simp only [f3_0, f3_1, and_true, true_and, or_true, true_or, implies_true, upn, reduceIte, Nat.reduceEqDiff, ne_eq, not_false_eq_true, upc] at h3 hm3
      refine Z_iload2 hk dX4_append_3 ?_
      refine Z_if_lt hk (tgt := 50) dX4_append_4 (by decide) (by omega) (by omega) (fun h4 => ?_) (fun h4 => ?_)
      · exact Z_vret hk hA hQ dX4_append_50 ⟨rfl, rfl, rfl, (by exact ⟨(by (try simp only [f3_0, f3_1, and_true, true_and, or_true, true_or, implies_true, upn, reduceIte, Nat.reduceEqDiff, ne_eq, not_false_eq_true, upc]) <;> (omega)), (by intro c k0 k1; simp only [f3_0, f3_1, upc, upn, k0, k1, reduceIte, Nat.reduceEqDiff, ne_eq, not_false_eq_true]), (by intro i k0; simp only [f3_0, f3_1, upc, upn, k0, reduceIte, Nat.reduceEqDiff, ne_eq, not_false_eq_true])⟩)⟩
      · refine Z_aload0 hk dX4_append_7 ?_
        refine Z_getI hk fl_4_19 dX4_append_8 ob_20.1 ob_20.2.1 ob_20.2.2.1 ob_20.2.2.2 ft_4_2 (fun v8 e8 a8 b8 => ?_)
        try simp only [f3_0, f3_1, and_true, true_and, or_true, true_or, implies_true, upn, reduceIte, Nat.reduceEqDiff, ne_eq, not_false_eq_true, upc] at e8
        refine Z_sipush hk dX4_append_11 (by decide) ?_
        refine Z_icmp_ge hk (tgt := 50) dX4_append_14 (by decide) (by omega) (by omega) (by decide) (by decide) (fun h14 => ?_) (fun h14 => ?_)
        · exact Z_vret hk hA hQ dX4_append_50 ⟨rfl, rfl, rfl, (by exact ⟨(by (try simp only [f3_0, f3_1, and_true, true_and, or_true, true_or, implies_true, upn, reduceIte, Nat.reduceEqDiff, ne_eq, not_false_eq_true, upc]) <;> (omega)), (by intro c k0 k1; simp only [f3_0, f3_1, upc, upn, k0, k1, reduceIte, Nat.reduceEqDiff, ne_eq, not_false_eq_true]), (by intro i k0; simp only [f3_0, f3_1, upc, upn, k0, reduceIte, Nat.reduceEqDiff, ne_eq, not_false_eq_true])⟩)⟩
        · refine Z_aload0 hk dX4_append_17 ?_
          refine Z_getR hk fl_4_9 dX4_append_18 ob_20.1 ob_20.2.1 ob_20.2.2.1 ob_20.2.2.2 ft_4_0 rs_20_0 ?_
          refine Z_aload0 hk dX4_append_21 ?_
          refine Z_getI hk fl_4_19 dX4_append_22 ob_20.1 ob_20.2.1 ob_20.2.2.1 ob_20.2.2.2 ft_4_2 (fun v22 e22 a22 b22 => ?_)
          try simp only [f3_0, f3_1, e8, and_true, true_and, or_true, true_or, implies_true, upn, reduceIte, Nat.reduceEqDiff, ne_eq, not_false_eq_true, upc] at e22
          refine Z_iload1 hk dX4_append_25 ?_
          refine Z_iload2 hk dX4_append_26 ?_
          refine Z_iushr hk dX4_append_27 (fun v27 e27 a27 b27 => ?_)
          refine Z_sipush hk dX4_append_28 (by decide) ?_
          refine Z_iand hk dX4_append_31 (fun v31 e31 a31 b31 => ?_)
          have g31 := and_mask (Int32.ofInt v27) 8 (m := 255) (by decide +kernel) (by decide)
          rw [← e31] at g31
          refine Z_i2c hk dX4_append_32 (by omega) (by omega) ?_
          refine Z_cast hk hA dX4_append_33 ar_31.1 ar_31.2.1 ar_31.2.2 (by omega) (by omega) (by omega) (by omega) ?_
          refine Z_nm (fun m33 em33 => ?_)
          refine Z_aload0 hk dX4_append_34 ?_
          refine Z_dup1 hk rfl dX4_append_35 ?_
          refine Z_getI hk fl_4_19 dX4_append_36 ob_20.1 ob_20.2.1 ob_20.2.2.1 ob_20.2.2.2 ft_4_2 (fun v36 e36 a36 b36 => ?_)
          try simp only [em33, f3_0, f3_1, e8, e22, and_true, true_and, or_true, true_or, implies_true, upn, reduceIte, Nat.reduceEqDiff, ne_eq, not_false_eq_true, upc] at e36
          refine Z_iconst hk dX4_append_39 ?_
          refine Z_iadd hk dX4_append_40 ?_
          refine Z_putI hk hA fl_4_19 dX4_append_41 ob_20.1 ob_20.2.1 ob_20.2.2.1 ob_20.2.2.2 ft_4_2 (by omega) (by omega) ?_
          refine Z_nm (fun m41 em41 => ?_)
          refine Z_iinc2 hk rfl (by decide) dX4_append_44 ?_
          refine Z_goto hk (tgt := 3) dX4_append_47 (by decide) ?_
          exact ih3 _ _ (by exact ⟨(by (try simp only [em41, em33, f3_0, f3_1, and_true, true_and, or_true, true_or, implies_true, upn, reduceIte, Nat.reduceEqDiff, ne_eq, not_false_eq_true, upc]) <;> (omega)), (by intro c k0 k1; simp only [em41, em33, f3_0, f3_1, upc, upn, k0, k1, reduceIte, Nat.reduceEqDiff, ne_eq, not_false_eq_true]), (by intro i k0; simp only [em41, em33, f3_0, f3_1, upc, upn, k0, reduceIte, Nat.reduceEqDiff, ne_eq, not_false_eq_true])⟩) (by (try simp only [em41, em33, f3_0, f3_1, and_true, true_and, or_true, true_or, implies_true, upn, reduceIte, Nat.reduceEqDiff, ne_eq, not_false_eq_true, upc]) <;> (omega))
  refine Z_istore2 hk rfl (by decide) dX4_append_2 ?_
  exact J3 (((24 + 8) : Int).toNat + 1) _ _ (by exact ⟨(by (omega)), (by intro c k0 k1; rfl), (by intro i k0; rfl)⟩) (by omega)
set_option maxRecDepth 10000 in
theorem c_X4_kindOf (l : Launch) (δ : Dp) (ad : Nat → Nat) (M : Mem) (hA : okA δ ad) (c : Int) (i_c : -2147483648 ≤ c ∧ c ≤ 2147483647) : Mi l δ yX4_kindOf cX4_kindOf 1 (some (.int)) 0 0 ad rs [iv c] M (fun r M' => M = M' ∧ (-2147483648 ≤ r ∧ r ≤ 2147483647)) := by
  refine Mg.of (rm := rmN 0 0) (by decide) (Nat.le_of_ble_eq_true rfl) fun κ _ hk _ => ?_
  generalize hQ : Qg κ δ 121 (rmN 0 0).cells (rmN 0 0).slots _ = Q
  show Zj κ δ ad rs Q 1 (121, 0, 0) 0 [some (iv c)] [] M
  refine Z_iload0 hk dX4_kindOf_0 ?_
  refine Z_bipush hk dX4_kindOf_1 (by decide) ?_
  have J12 : ∀ (_ : Unit), (True) → Zj κ δ ad rs Q 1 (121, 0, 0) 12 [some (iv c)] [] M := by
    intro _ h12
    refine Z_iload0 hk dX4_kindOf_12 ?_
    refine Z_bipush hk dX4_kindOf_13 (by decide) ?_
    have J28 : ∀ (_ : Unit), (True) → Zj κ δ ad rs Q 1 (121, 0, 0) 28 [some (iv c)] [] M := by
      intro _ h28
      refine Z_iload0 hk dX4_kindOf_28 ?_
      refine Z_bipush hk dX4_kindOf_29 (by decide) ?_
      refine Z_icmp_lt hk (tgt := 46) dX4_kindOf_31 (by decide) (by omega) (by omega) (by decide) (by decide) (fun h31 => ?_) (fun h31 => ?_)
      · refine Z_iload0 hk dX4_kindOf_46 ?_
        exact Z_iret hk hA hQ dX4_kindOf_47 ⟨rfl, rfl, _, rfl, (by exact ⟨rfl, (by omega)⟩)⟩
      · refine Z_iload0 hk dX4_kindOf_34 ?_
        refine Z_bipush hk dX4_kindOf_35 (by decide) ?_
        refine Z_icmp_gt hk (tgt := 46) dX4_kindOf_37 (by decide) (by omega) (by omega) (by decide) (by decide) (fun h37 => ?_) (fun h37 => ?_)
        · refine Z_iload0 hk dX4_kindOf_46 ?_
          exact Z_iret hk hA hQ dX4_kindOf_47 ⟨rfl, rfl, _, rfl, (by exact ⟨rfl, (by omega)⟩)⟩
        · refine Z_sipush hk dX4_kindOf_40 (by decide) ?_
          refine Z_goto hk (tgt := 47) dX4_kindOf_43 (by decide) ?_
          exact Z_iret hk hA hQ dX4_kindOf_47 ⟨rfl, rfl, _, rfl, (by exact ⟨rfl, (by omega)⟩)⟩
    refine Z_icmp_lt hk (tgt := 28) dX4_kindOf_15 (by decide) (by omega) (by omega) (by decide) (by decide) (fun h15 => ?_) (fun h15 => ?_)
    · exact J28 () (by trivial)
    · refine Z_iload0 hk dX4_kindOf_18 ?_
      refine Z_bipush hk dX4_kindOf_19 (by decide) ?_
      refine Z_icmp_gt hk (tgt := 28) dX4_kindOf_21 (by decide) (by omega) (by omega) (by decide) (by decide) (fun h21 => ?_) (fun h21 => ?_)
      · exact J28 () (by trivial)
      · refine Z_sipush hk dX4_kindOf_24 (by decide) ?_
        exact Z_iret hk hA hQ dX4_kindOf_27 ⟨rfl, rfl, _, rfl, (by exact ⟨rfl, (by omega)⟩)⟩
  refine Z_icmp_lt hk (tgt := 12) dX4_kindOf_3 (by decide) (by omega) (by omega) (by decide) (by decide) (fun h3 => ?_) (fun h3 => ?_)
  · exact J12 () (by trivial)
  · refine Z_iload0 hk dX4_kindOf_6 ?_
    refine Z_bipush hk dX4_kindOf_7 (by decide) ?_
    refine Z_icmp_le hk (tgt := 24) dX4_kindOf_9 (by decide) (by omega) (by omega) (by decide) (by decide) (fun h9 => ?_) (fun h9 => ?_)
    · refine Z_sipush hk dX4_kindOf_24 (by decide) ?_
      exact Z_iret hk hA hQ dX4_kindOf_27 ⟨rfl, rfl, _, rfl, (by exact ⟨rfl, (by omega)⟩)⟩
    · exact J12 () (by trivial)
set_option maxRecDepth 10000 in
theorem c_X4_fail (l : Launch) (δ : Dp) (ad : Nat → Nat) (M : Mem) (hA : okA δ ad) (a : Int) (b : Int) (i_a : -2147483648 ≤ a ∧ a ≤ 2147483647) (i_b : -2147483648 ≤ b ∧ b ≤ 2147483647) : Mv l δ yX4_fail cX4_fail 3 none 0 0 ad rs [.ref (ad 20), iv a, iv b] M (fun M' => (((M 20 3) ≠ 0 → (M' 20 3) = (M 20 3)) ∧ ((M 20 3) = 0 → (M' 20 3) = a)) ∧ (∀ c : Nat, c ≠ 20 → M' c = M c) ∧ (∀ i : Nat, i ≠ 3 → i ≠ 4 → M' 20 i = M 20 i)) := by
  refine Mg.of (rm := rmN 0 0) (by decide) (Nat.le_of_ble_eq_true rfl) fun κ _ hk _ => ?_
  generalize hQ : Qg κ δ 121 (rmN 0 0).cells (rmN 0 0).slots _ = Q
  show Zj κ δ ad rs Q 3 (121, 0, 0) 0 [some (.ref (ad 20)), some (iv a), some (iv b)] [] M
  refine Z_aload0 hk dX4_fail_0 ?_
  refine Z_getI hk fl_4_23 dX4_fail_1 ob_20.1 ob_20.2.1 ob_20.2.2.1 ob_20.2.2.2 ft_4_3 (fun v1 e1 a1 b1 => ?_)
  refine Z_if_ne hk (tgt := 17) dX4_fail_4 (by decide) (by omega) (by omega) (fun h4 => ?_) (fun h4 => ?_)
  · exact Z_vret hk hA hQ dX4_fail_17 ⟨rfl, rfl, rfl, (by exact ⟨(by (omega)), (by intro c k0; rfl), (by intro i k0 k1; rfl)⟩)⟩
  · refine Z_aload0 hk dX4_fail_7 ?_
    refine Z_iload1 hk dX4_fail_8 ?_
    refine Z_putI hk hA fl_4_23 dX4_fail_9 ob_20.1 ob_20.2.1 ob_20.2.2.1 ob_20.2.2.2 ft_4_3 (by omega) (by omega) ?_
    refine Z_nm (fun m9 em9 => ?_)
    refine Z_aload0 hk dX4_fail_12 ?_
    refine Z_iload2 hk dX4_fail_13 ?_
    refine Z_putI hk hA fl_4_26 dX4_fail_14 ob_20.1 ob_20.2.1 ob_20.2.2.1 ob_20.2.2.2 ft_4_4 (by omega) (by omega) ?_
    refine Z_nm (fun m14 em14 => ?_)
    exact Z_vret hk hA hQ dX4_fail_17 ⟨rfl, rfl, rfl, (by exact ⟨(by (try simp only [em14, em9, and_true, true_and, or_true, true_or, implies_true, upn, reduceIte, Nat.reduceEqDiff, ne_eq, not_false_eq_true, upc]) <;> (omega)), (by intro c k0; simp only [em14, em9, upc, upn, k0, reduceIte, Nat.reduceEqDiff, ne_eq, not_false_eq_true]), (by intro i k0 k1; simp only [em14, em9, upc, upn, k0, k1, reduceIte, Nat.reduceEqDiff, ne_eq, not_false_eq_true])⟩)⟩
set_option maxRecDepth 10000 in
theorem c_X4_refuseMore (l : Launch) (δ : Dp) (ad : Nat → Nat) (M : Mem) (hA : okA δ ad) (a : Int) (b : Int) (i_a : -2147483648 ≤ a ∧ a ≤ 2147483647) (i_b : -2147483648 ≤ b ∧ b ≤ 2147483647) : Mv l δ yX4_refuseMore cX4_refuseMore 3 none 1 22 ad rs [.ref (ad 20), iv a, iv b] M (fun M' => (((M 20 3) ≠ 0 → (M' 20 3) = (M 20 3)) ∧ ((M 20 3) = 0 → b ≤ a → (M' 20 3) = 5)) ∧ (∀ c : Nat, c ≠ 20 → M' c = M c) ∧ (∀ i : Nat, i ≠ 3 → i ≠ 4 → M' 20 i = M 20 i)) := by
  refine Mg.of (rm := rmN 1 22) (by decide) (Nat.le_of_ble_eq_true rfl) fun κ _ hk _ => ?_
  generalize hQ : Qg κ δ 121 (rmN 1 22).cells (rmN 1 22).slots _ = Q
  show Zj κ δ ad rs Q 3 (121, 0, 0) 0 [some (.ref (ad 20)), some (iv a), some (iv b)] [] M
  refine Z_iload1 hk dX4_refuseMore_0 ?_
  refine Z_iload2 hk dX4_refuseMore_1 ?_
  refine Z_icmp_lt hk (tgt := 14) dX4_refuseMore_2 (by decide) (by omega) (by omega) (by omega) (by omega) (fun h2 => ?_) (fun h2 => ?_)
  · exact Z_vret hk hA hQ dX4_refuseMore_14 ⟨rfl, rfl, rfl, (by exact ⟨(by (omega)), (by intro c k0; rfl), (by intro i k0 k1; rfl)⟩)⟩
  · refine Z_aload0 hk dX4_refuseMore_5 ?_
    refine Z_iconst hk dX4_refuseMore_6 ?_
    refine Z_aload0 hk dX4_refuseMore_7 ?_
    refine Z_getI hk fl_4_71 dX4_refuseMore_8 ob_20.1 ob_20.2.1 ob_20.2.2.1 ob_20.2.2.2 ft_4_6 (fun v8 e8 a8 b8 => ?_)
    refine Z_Vv hk (c_X4_fail κ.2.1 δ ad _ hA 5 v8 (by (omega)) (by (omega))) ov_X4_fail ml_X4_74 dX4_refuseMore_11 rfl ⟨by decide, by decide⟩ ob_20.1 (by decide) (by decide) rfl (Nat.le_of_ble_eq_true rfl) (fun m11 p11 => ?_)
    obtain ⟨p11, f11_0, f11_1⟩ := p11
    try simp only [f11_0, f11_1, e8, and_true, true_and, or_true, true_or, implies_true, upn, reduceIte, Nat.reduceEqDiff, ne_eq, not_false_eq_true, upc] at p11
    exact Z_vret hk hA hQ dX4_refuseMore_14 ⟨rfl, rfl, rfl, (by exact ⟨(by (try simp only [f11_0, f11_1, and_true, true_and, or_true, true_or, implies_true, upn, reduceIte, Nat.reduceEqDiff, ne_eq, not_false_eq_true, upc]) <;> (omega)), (by intro c k0; simp only [f11_0, f11_1, upc, upn, k0, reduceIte, Nat.reduceEqDiff, ne_eq, not_false_eq_true]), (by intro i k0 k1; simp only [f11_0, f11_1, upc, upn, k0, k1, reduceIte, Nat.reduceEqDiff, ne_eq, not_false_eq_true])⟩)⟩
set_option maxRecDepth 10000 in
theorem c_X4_ownWord (l : Launch) (δ : Dp) (ad : Nat → Nat) (M : Mem) (hA : okA δ ad) (hz : NS δ) (q0 : 0 ≤ (M 20 6) ∧ (M 20 6) ≤ (M 20 7) ∧ (M 20 7) ≤ (M 20 2) ∧ (M 20 2) ≤ 700) : Mi l δ yX4_ownWord cX4_ownWord 6 (some (.int)) 4 121 ad rs [.ref (ad 20)] M (fun r M' => M = M' ∧ (-1 ≤ r ∧ r ≤ 1000)) := by
  refine Mg.of (rm := rmN 4 121) (by decide) (Nat.le_of_ble_eq_true rfl) fun κ _ hk _ => ?_
  generalize hQ : Qg κ δ 121 (rmN 4 121).cells (rmN 4 121).slots _ = Q
  show Zj κ δ ad rs Q 6 (121, 0, 0) 0 [some (.ref (ad 20)), none, none, none, none, none] [] M
  obtain ⟨q, qv, hq⟩ := ns_str hz
  refine Z_iconst hk dX4_ownWord_0 ?_
  refine Z_istore1 hk rfl (by decide) dX4_ownWord_1 ?_
  refine Z_iconst hk dX4_ownWord_2 ?_
  refine Z_istore2 hk rfl (by decide) dX4_ownWord_3 ?_
  refine Z_iconst hk dX4_ownWord_4 ?_
  refine Z_istore3 hk rfl (by decide) dX4_ownWord_5 ?_
  refine Z_iconst hk dX4_ownWord_6 ?_
  have J9 : ∀ (n : Nat) (x1_9 : Int) (x2_9 : Int) (x3_9 : Int) (x4_9 : Int), (0 ≤ x4_9 ∧ x4_9 ≤ 177 ∧ 0 ≤ x1_9 ∧ x1_9 ≤ x4_9 ∧ 0 ≤ x2_9 ∧ x2_9 ≤ x4_9 ∧ 0 ≤ x3_9 ∧ x3_9 ≤ 1) → (177 - x4_9) < (n : Int) → Zj κ δ ad rs Q 6 (121, 0, 0) 9 [some (.ref (ad 20)), some (iv x1_9), some (iv x2_9), some (iv x3_9), some (iv x4_9), none] [] M := by
    intro n
    induction n with
    | zero => intro x1_9 x2_9 x3_9 x4_9 h9 hm9; exfalso; omega
    | succ n ih9 =>
      intro x1_9 x2_9 x3_9 x4_9 h9 hm9
      refine Z_iload4 hk dX4_ownWord_9 ?_
      refine Z_ldcS hk hq.2.2.2.2.1 dX4_ownWord_11 ?_
      refine Z_Fi hk (n := 0) hq.1 (As := []) (c_len κ.2.1 δ ad _ hA q qv hq) o4_len ⟨by decide, by decide, by decide +kernel⟩ ml_X4_195 dX4_ownWord_13 rfl ⟨by decide, by decide⟩ rfl (Nat.le_of_ble_eq_true rfl) (fun r13 m13 p13 => ?_)
      obtain ⟨rfl, p13⟩ := p13
      refine Z_icmp_ge hk (tgt := 112) dX4_ownWord_16 (by decide) (by omega) (by omega) (by omega) (by omega) (fun h16 => ?_) (fun h16 => ?_)
      · refine Z_iconst hk dX4_ownWord_112 ?_
        exact Z_iret hk hA hQ dX4_ownWord_113 ⟨rfl, rfl, _, rfl, (by exact ⟨rfl, (by omega)⟩)⟩
      · refine Z_aload0 hk dX4_ownWord_19 ?_
        refine Z_getI hk fl_4_71 dX4_ownWord_20 ob_20.1 ob_20.2.1 ob_20.2.2.1 ob_20.2.2.2 ft_4_6 (fun v20 e20 a20 b20 => ?_)
        refine Z_iload4 hk dX4_ownWord_23 ?_
        refine Z_iadd hk dX4_ownWord_25 ?_
        refine Z_iload2 hk dX4_ownWord_26 ?_
        refine Z_isub hk dX4_ownWord_27 ?_
        refine Z_istore5 hk rfl (by decide) dX4_ownWord_28 ?_
        refine Z_ldcS hk hq.2.2.2.2.1 dX4_ownWord_30 ?_
        refine Z_iload4 hk dX4_ownWord_32 ?_
        refine Z_Fi hk (n := 1) hq.1 (As := [iv x4_9]) (c_chr κ.2.1 δ ad _ hA q qv hq x4_9 (by omega)) o4_chr ⟨by decide, by decide, by decide +kernel⟩ ml_X4_199 dX4_ownWord_34 rfl ⟨by decide, by decide⟩ rfl (Nat.le_of_ble_eq_true rfl) (fun r34 m34 p34 => ?_)
        obtain ⟨rfl, p34⟩ := p34
        refine Z_bipush hk dX4_ownWord_37 (by decide) ?_
        have J106 : ∀ (x1_106 : Int) (x2_106 : Int) (x3_106 : Int), (0 ≤ x1_106 ∧ x1_106 ≤ x4_9 + 1 ∧ 0 ≤ x2_106 ∧ x2_106 ≤ x4_9 + 1 ∧ 0 ≤ x3_106 ∧ x3_106 ≤ 1) → Zj κ δ ad rs Q 6 (121, 0, 0) 106 [some (.ref (ad 20)), some (iv x1_106), some (iv x2_106), some (iv x3_106), some (iv x4_9), some (iv ((v20 + x4_9) - x2_9))] [] M := by
          intro x1_106 x2_106 x3_106 h106
          refine Z_iinc4 hk rfl (by decide) dX4_ownWord_106 ?_
          refine Z_goto hk (tgt := 9) dX4_ownWord_109 (by decide) ?_
          refine Z_drop5 ?_
          exact ih9 _ _ _ _ (by omega) (by (omega))
        refine Z_icmp_eq hk (tgt := 81) dX4_ownWord_39 (by decide) (by omega) (by omega) (by decide) (by decide) (fun h39 => ?_) (fun h39 => ?_)
        · refine Z_iload3 hk dX4_ownWord_81 ?_
          have J96 : ∀ (_ : Unit), (True) → Zj κ δ ad rs Q 6 (121, 0, 0) 96 [some (.ref (ad 20)), some (iv x1_9), some (iv x2_9), some (iv x3_9), some (iv x4_9), some (iv ((v20 + x4_9) - x2_9))] [] M := by
            intro _ h96
            refine Z_iinc1 hk rfl (by decide) dX4_ownWord_96 ?_
            refine Z_iload4 hk dX4_ownWord_99 ?_
            refine Z_iconst hk dX4_ownWord_101 ?_
            refine Z_iadd hk dX4_ownWord_102 ?_
            refine Z_istore2 hk rfl (by decide) dX4_ownWord_103 ?_
            refine Z_iconst hk dX4_ownWord_104 ?_
            refine Z_istore3 hk rfl (by decide) dX4_ownWord_105 ?_
            exact J106 _ _ _ (by omega)
          refine Z_if_eq hk (tgt := 96) dX4_ownWord_82 (by decide) (by omega) (by omega) (fun h82 => ?_) (fun h82 => ?_)
          · exact J96 () (by trivial)
          · refine Z_iload5 hk dX4_ownWord_85 ?_
            refine Z_aload0 hk dX4_ownWord_87 ?_
            refine Z_getI hk fl_4_37 dX4_ownWord_88 ob_20.1 ob_20.2.1 ob_20.2.2.1 ob_20.2.2.2 ft_4_7 (fun v88 e88 a88 b88 => ?_)
            try simp only [e20, and_true, true_and, or_true, true_or, implies_true, upn, reduceIte, Nat.reduceEqDiff, ne_eq, not_false_eq_true, upc] at e88
            refine Z_icmp_ne hk (tgt := 96) dX4_ownWord_91 (by decide) (by omega) (by omega) (by omega) (by omega) (fun h91 => ?_) (fun h91 => ?_)
            · exact J96 () (by trivial)
            · refine Z_iload1 hk dX4_ownWord_94 ?_
              exact Z_iret hk hA hQ dX4_ownWord_95 ⟨rfl, rfl, _, rfl, (by exact ⟨rfl, (by omega)⟩)⟩
        · refine Z_iload3 hk dX4_ownWord_42 ?_
          have J77 : ∀ (y0_77 : Int), (0 ≤ y0_77 ∧ y0_77 ≤ 1) → Zj κ δ ad rs Q 6 (121, 0, 0) 77 [some (.ref (ad 20)), some (iv x1_9), some (iv x2_9), some (iv x3_9), some (iv x4_9), some (iv ((v20 + x4_9) - x2_9))] [iv y0_77] M := by
            intro y0_77 h77
            refine Z_istore3 hk rfl (by decide) dX4_ownWord_77 ?_
            refine Z_goto hk (tgt := 106) dX4_ownWord_78 (by decide) ?_
            exact J106 _ _ _ (by omega)
          have J76 : ∀ (_ : Unit), (True) → Zj κ δ ad rs Q 6 (121, 0, 0) 76 [some (.ref (ad 20)), some (iv x1_9), some (iv x2_9), some (iv x3_9), some (iv x4_9), some (iv ((v20 + x4_9) - x2_9))] [] M := by
            intro _ h76
            refine Z_iconst hk dX4_ownWord_76 ?_
            exact J77 _ (by omega)
          refine Z_if_eq hk (tgt := 76) dX4_ownWord_43 (by decide) (by omega) (by omega) (fun h43 => ?_) (fun h43 => ?_)
          · exact J76 () (by trivial)
          · refine Z_iload5 hk dX4_ownWord_46 ?_
            refine Z_aload0 hk dX4_ownWord_48 ?_
            refine Z_getI hk fl_4_37 dX4_ownWord_49 ob_20.1 ob_20.2.1 ob_20.2.2.1 ob_20.2.2.2 ft_4_7 (fun v49 e49 a49 b49 => ?_)
            try simp only [e20, and_true, true_and, or_true, true_or, implies_true, upn, reduceIte, Nat.reduceEqDiff, ne_eq, not_false_eq_true, upc] at e49
            refine Z_icmp_ge hk (tgt := 76) dX4_ownWord_52 (by decide) (by omega) (by omega) (by omega) (by omega) (fun h52 => ?_) (fun h52 => ?_)
            · exact J76 () (by trivial)
            · refine Z_aload0 hk dX4_ownWord_55 ?_
              refine Z_getR hk fl_4_9 dX4_ownWord_56 ob_20.1 ob_20.2.1 ob_20.2.2.1 ob_20.2.2.2 ft_4_0 rs_20_0 ?_
              refine Z_iload5 hk dX4_ownWord_59 ?_
              refine Z_cald hk dX4_ownWord_61 ar_31.1 ar_31.2.1 ar_31.2.2 (by omega) (by omega) (fun v61 e61 a61 b61 => ?_)
              try simp only [e20, e49, and_true, true_and, or_true, true_or, implies_true, upn, reduceIte, Nat.reduceEqDiff, ne_eq, not_false_eq_true, upc] at e61
              refine Z_ldcS hk hq.2.2.2.2.1 dX4_ownWord_62 ?_
              refine Z_iload4 hk dX4_ownWord_64 ?_
              refine Z_Fi hk (n := 1) hq.1 (As := [iv x4_9]) (c_chr κ.2.1 δ ad _ hA q qv hq x4_9 (by omega)) o4_chr ⟨by decide, by decide, by decide +kernel⟩ ml_X4_199 dX4_ownWord_66 rfl ⟨by decide, by decide⟩ rfl (Nat.le_of_ble_eq_true rfl) (fun r66 m66 p66 => ?_)
              obtain ⟨rfl, p66⟩ := p66
              refine Z_icmp_ne hk (tgt := 76) dX4_ownWord_69 (by decide) (by omega) (by omega) (by omega) (by omega) (fun h69 => ?_) (fun h69 => ?_)
              · exact J76 () (by trivial)
              · refine Z_iconst hk dX4_ownWord_72 ?_
                refine Z_goto hk (tgt := 77) dX4_ownWord_73 (by decide) ?_
                exact J77 _ (by omega)
  refine Z_istore4 hk rfl (by decide) dX4_ownWord_7 ?_
  exact J9 (((177 - 0) : Int).toNat + 1) _ _ _ _ (by omega) (by omega)
set_option maxRecDepth 10000 in
theorem c_X4_readToken (l : Launch) (δ : Dp) (ad : Nat → Nat) (M : Mem) (hA : okA δ ad) (hz : NS δ) (q0 : 0 ≤ (M 20 7) ∧ (M 20 7) ≤ (M 20 2) ∧ (M 20 2) ≤ 700) : Mv l δ yX4_readToken cX4_readToken 3 none 5 146 ad rs [.ref (ad 20)] M (fun M' => (0 ≤ (M' 20 6) ∧ (M' 20 6) ≤ (M' 20 7) ∧ (M' 20 7) ≤ (M' 20 2) ∧ (M' 20 2) ≤ 700 ∧ -1 ≤ (M' 20 8) ∧ (M' 20 8) ≤ 1000 ∧ (M 20 7) ≤ (M' 20 7)) ∧ (∀ c : Nat, c ≠ 20 → M' c = M c) ∧ (∀ i : Nat, i ≠ 5 → i ≠ 6 → i ≠ 7 → i ≠ 8 → M' 20 i = M 20 i)) := by
  refine Mg.of (rm := rmN 5 146) (by decide) (Nat.le_of_ble_eq_true rfl) fun κ _ hk _ => ?_
  generalize hQ : Qg κ δ 121 (rmN 5 146).cells (rmN 5 146).slots _ = Q
  show Zj κ δ ad rs Q 3 (121, 0, 0) 0 [some (.ref (ad 20)), none, none] [] M
  refine Z_aload0 hk dX4_readToken_0 ?_
  refine Z_getI hk fl_4_37 dX4_readToken_1 ob_20.1 ob_20.2.1 ob_20.2.2.1 ob_20.2.2.2 ft_4_7 (fun v1 e1 a1 b1 => ?_)
  have J5 : ∀ (n : Nat) (x1_5 : Int), ((M 20 7) ≤ x1_5 ∧ x1_5 ≤ (M 20 2)) → ((M 20 2) - x1_5) < (n : Int) → Zj κ δ ad rs Q 3 (121, 0, 0) 5 [some (.ref (ad 20)), some (iv x1_5), none] [] M := by
    intro n
    induction n with
    | zero => intro x1_5 h5 hm5; exfalso; omega
    | succ n ih5 =>
      intro x1_5 h5 hm5
      refine Z_iload1 hk dX4_readToken_5 ?_
      refine Z_aload0 hk dX4_readToken_6 ?_
      refine Z_getI hk fl_4_19 dX4_readToken_7 ob_20.1 ob_20.2.1 ob_20.2.2.1 ob_20.2.2.2 ft_4_2 (fun v7 e7 a7 b7 => ?_)
      try simp only [e1, and_true, true_and, or_true, true_or, implies_true, upn, reduceIte, Nat.reduceEqDiff, ne_eq, not_false_eq_true, upc] at e7
      have J41 : ∀ (_ : Unit), (True) → Zj κ δ ad rs Q 3 (121, 0, 0) 41 [some (.ref (ad 20)), some (iv x1_5), none] [] M := by
        intro _ h41
        refine Z_aload0 hk dX4_readToken_41 ?_
        refine Z_iload1 hk dX4_readToken_42 ?_
        refine Z_putI hk hA fl_4_71 dX4_readToken_43 ob_20.1 ob_20.2.1 ob_20.2.2.1 ob_20.2.2.2 ft_4_6 (by omega) (by omega) ?_
        refine Z_nm (fun m43 em43 => ?_)
        refine Z_aload0 hk dX4_readToken_46 ?_
        refine Z_iload1 hk dX4_readToken_47 ?_
        refine Z_aload0 hk dX4_readToken_48 ?_
        refine Z_getI hk fl_4_19 dX4_readToken_49 ob_20.1 ob_20.2.1 ob_20.2.2.1 ob_20.2.2.2 ft_4_2 (fun v49 e49 a49 b49 => ?_)
        try simp only [em43, e1, e7, and_true, true_and, or_true, true_or, implies_true, upn, reduceIte, Nat.reduceEqDiff, ne_eq, not_false_eq_true, upc] at e49
        have J70 : ∀ (y1_70 : Int), (-2147483648 ≤ y1_70 ∧ y1_70 ≤ 2147483647 ∧ (x1_5 < (M 20 2) ∨ y1_70 = 256)) → Zj κ δ ad rs Q 3 (121, 0, 0) 70 [some (.ref (ad 20)), some (iv x1_5), none] [iv y1_70, .ref (ad 20)] m43 := by
          intro y1_70 h70
          try simp only [em43, and_true, true_and, or_true, true_or, implies_true, upn, reduceIte, Nat.reduceEqDiff, ne_eq, not_false_eq_true, upc] at h70
          refine Z_putI hk hA fl_4_43 dX4_readToken_70 ob_20.1 ob_20.2.1 ob_20.2.2.1 ob_20.2.2.2 ft_4_5 (by omega) (by omega) ?_
          refine Z_nm (fun m70 em70 => ?_)
          refine Z_aload0 hk dX4_readToken_73 ?_
          refine Z_iconst hk dX4_readToken_74 ?_
          refine Z_putI hk hA fl_4_46 dX4_readToken_75 ob_20.1 ob_20.2.1 ob_20.2.2.1 ob_20.2.2.2 ft_4_8 (by decide) (by decide) ?_
          refine Z_nm (fun m75 em75 => ?_)
          refine Z_aload0 hk dX4_readToken_78 ?_
          refine Z_getI hk fl_4_43 dX4_readToken_79 ob_20.1 ob_20.2.1 ob_20.2.2.1 ob_20.2.2.2 ft_4_5 (fun v79 e79 a79 b79 => ?_)
          try simp only [em75, em70, em43, e1, e7, e49, and_true, true_and, or_true, true_or, implies_true, upn, reduceIte, Nat.reduceEqDiff, ne_eq, not_false_eq_true, upc] at e79
          refine Z_sipush hk dX4_readToken_82 (by decide) ?_
          have J103 : ∀ (y0_103 : Int), (0 ≤ y0_103 ∧ y0_103 ≤ 1) → Zj κ δ ad rs Q 3 (121, 0, 0) 103 [some (.ref (ad 20)), some (iv x1_5), none] [iv y0_103] m75 := by
            intro y0_103 h103
            try simp only [em75, em70, em43, and_true, true_and, or_true, true_or, implies_true, upn, reduceIte, Nat.reduceEqDiff, ne_eq, not_false_eq_true, upc] at h103
            refine Z_istore2 hk rfl (by decide) dX4_readToken_103 ?_
            refine Z_iload2 hk dX4_readToken_104 ?_
            have J151 : ∀ (x1_151 : Int), (x1_5 ≤ x1_151 ∧ x1_151 ≤ (M 20 2)) → Zj κ δ ad rs Q 3 (121, 0, 0) 151 [some (.ref (ad 20)), some (iv x1_151), some (iv y0_103)] [] m75 := by
              intro x1_151 h151
              try simp only [em75, em70, em43, and_true, true_and, or_true, true_or, implies_true, upn, reduceIte, Nat.reduceEqDiff, ne_eq, not_false_eq_true, upc] at h151
              refine Z_aload0 hk dX4_readToken_151 ?_
              refine Z_iload1 hk dX4_readToken_152 ?_
              refine Z_putI hk hA fl_4_37 dX4_readToken_153 ob_20.1 ob_20.2.1 ob_20.2.2.1 ob_20.2.2.2 ft_4_7 (by omega) (by omega) ?_
              refine Z_nm (fun m153 em153 => ?_)
              refine Z_iload2 hk dX4_readToken_156 ?_
              have J197 : ∀ (_ : Unit), (True) → Zj κ δ ad rs Q 3 (121, 0, 0) 197 [some (.ref (ad 20)), some (iv x1_151), some (iv y0_103)] [] m153 := by
                intro _ h197
                try simp only [em153, em75, em70, em43, and_true, true_and, or_true, true_or, implies_true, upn, reduceIte, Nat.reduceEqDiff, ne_eq, not_false_eq_true, upc] at h197
                refine Z_aload0 hk dX4_readToken_197 ?_
                refine Z_getI hk fl_4_43 dX4_readToken_198 ob_20.1 ob_20.2.1 ob_20.2.2.1 ob_20.2.2.2 ft_4_5 (fun v198 e198 a198 b198 => ?_)
                try simp only [em153, em75, em70, em43, e1, e7, e49, e79, and_true, true_and, or_true, true_or, implies_true, upn, reduceIte, Nat.reduceEqDiff, ne_eq, not_false_eq_true, upc] at e198
                refine Z_sipush hk dX4_readToken_201 (by decide) ?_
                refine Z_icmp_ne hk (tgt := 215) dX4_readToken_204 (by decide) (by omega) (by omega) (by decide) (by decide) (fun h204 => ?_) (fun h204 => ?_)
                · exact Z_vret hk hA hQ dX4_readToken_215 ⟨rfl, rfl, rfl, (by exact ⟨(by (try simp only [em153, em75, em70, em43, and_true, true_and, or_true, true_or, implies_true, upn, reduceIte, Nat.reduceEqDiff, ne_eq, not_false_eq_true, upc]) <;> (omega)), (by intro c k0; simp only [em153, em75, em70, em43, upc, upn, k0, reduceIte, Nat.reduceEqDiff, ne_eq, not_false_eq_true]), (by intro i k0 k1 k2 k3; simp only [em153, em75, em70, em43, upc, upn, k0, k1, k2, k3, reduceIte, Nat.reduceEqDiff, ne_eq, not_false_eq_true])⟩)⟩
                · refine Z_aload0 hk dX4_readToken_207 ?_
                  refine Z_aload0 hk dX4_readToken_208 ?_
                  refine Z_Vi hk (c_X4_ownWord κ.2.1 δ ad _ hA  hz (by (try simp only [em153, em75, em70, em43, and_true, true_and, or_true, true_or, implies_true, upn, reduceIte, Nat.reduceEqDiff, ne_eq, not_false_eq_true, upc]) <;> (omega))) ov_X4_ownWord ml_X4_190 dX4_readToken_209 rfl ⟨by decide, by decide⟩ ob_20.1 (by decide) (by decide) rfl (Nat.le_of_ble_eq_true rfl) (fun r209 m209 p209 => ?_)
                  obtain ⟨rfl, p209⟩ := p209
                  try simp only [em153, em75, em70, em43, e1, e7, e49, e79, e198, and_true, true_and, or_true, true_or, implies_true, upn, reduceIte, Nat.reduceEqDiff, ne_eq, not_false_eq_true, upc] at p209
                  refine Z_putI hk hA fl_4_46 dX4_readToken_212 ob_20.1 ob_20.2.1 ob_20.2.2.1 ob_20.2.2.2 ft_4_8 (by omega) (by omega) ?_
                  refine Z_nm (fun m212 em212 => ?_)
                  exact Z_vret hk hA hQ dX4_readToken_215 ⟨rfl, rfl, rfl, (by exact ⟨(by (try simp only [em212, em153, em75, em70, em43, and_true, true_and, or_true, true_or, implies_true, upn, reduceIte, Nat.reduceEqDiff, ne_eq, not_false_eq_true, upc]) <;> (omega)), (by intro c k0; simp only [em212, em153, em75, em70, em43, upc, upn, k0, reduceIte, Nat.reduceEqDiff, ne_eq, not_false_eq_true]), (by intro i k0 k1 k2 k3; simp only [em212, em153, em75, em70, em43, upc, upn, k0, k1, k2, k3, reduceIte, Nat.reduceEqDiff, ne_eq, not_false_eq_true])⟩)⟩
              refine Z_if_eq hk (tgt := 197) dX4_readToken_157 (by decide) (by omega) (by omega) (fun h157 => ?_) (fun h157 => ?_)
              · exact J197 () (by trivial)
              · refine Z_aload0 hk dX4_readToken_160 ?_
                refine Z_getI hk fl_4_71 dX4_readToken_161 ob_20.1 ob_20.2.1 ob_20.2.2.1 ob_20.2.2.2 ft_4_6 (fun v161 e161 a161 b161 => ?_)
                try simp only [em153, em75, em70, em43, e1, e7, e49, e79, and_true, true_and, or_true, true_or, implies_true, upn, reduceIte, Nat.reduceEqDiff, ne_eq, not_false_eq_true, upc] at e161
                refine Z_if_le hk (tgt := 197) dX4_readToken_164 (by decide) (by omega) (by omega) (fun h164 => ?_) (fun h164 => ?_)
                · exact J197 () (by trivial)
                · refine Z_aload0 hk dX4_readToken_167 ?_
                  refine Z_getR hk fl_4_9 dX4_readToken_168 ob_20.1 ob_20.2.1 ob_20.2.2.1 ob_20.2.2.2 ft_4_0 rs_20_0 ?_
                  refine Z_aload0 hk dX4_readToken_171 ?_
                  refine Z_getI hk fl_4_71 dX4_readToken_172 ob_20.1 ob_20.2.1 ob_20.2.2.1 ob_20.2.2.2 ft_4_6 (fun v172 e172 a172 b172 => ?_)
                  try simp only [em153, em75, em70, em43, e1, e7, e49, e79, e161, and_true, true_and, or_true, true_or, implies_true, upn, reduceIte, Nat.reduceEqDiff, ne_eq, not_false_eq_true, upc] at e172
                  refine Z_iconst hk dX4_readToken_175 ?_
                  refine Z_isub hk dX4_readToken_176 ?_
                  refine Z_cald hk dX4_readToken_177 ar_31.1 ar_31.2.1 ar_31.2.2 (by omega) (by omega) (fun v177 e177 a177 b177 => ?_)
                  try simp only [em153, em75, em70, em43, e1, e7, e49, e79, e161, e172, and_true, true_and, or_true, true_or, implies_true, upn, reduceIte, Nat.reduceEqDiff, ne_eq, not_false_eq_true, upc] at e177
                  refine Z_Si hk (c_X4_kindOf κ.2.1 δ ad _ hA v177 (by (try simp only [em153, em75, em70, em43, and_true, true_and, or_true, true_or, implies_true, upn, reduceIte, Nat.reduceEqDiff, ne_eq, not_false_eq_true, upc]) <;> (omega))) os_X4_kindOf ml_X4_186 dX4_readToken_178 rfl ⟨by decide, by decide⟩ rfl (Nat.le_of_ble_eq_true rfl) (fun r178 m178 p178 => ?_)
                  obtain ⟨rfl, p178⟩ := p178
                  try simp only [em153, em75, em70, em43, e1, e7, e49, e79, e161, e172, e177, and_true, true_and, or_true, true_or, implies_true, upn, reduceIte, Nat.reduceEqDiff, ne_eq, not_false_eq_true, upc] at p178
                  refine Z_sipush hk dX4_readToken_181 (by decide) ?_
                  refine Z_icmp_lt hk (tgt := 197) dX4_readToken_184 (by decide) (by omega) (by omega) (by decide) (by decide) (fun h184 => ?_) (fun h184 => ?_)
                  · exact J197 () (by trivial)
                  · refine Z_aload0 hk dX4_readToken_187 ?_
                    refine Z_sipush hk dX4_readToken_188 (by decide) ?_
                    refine Z_putI hk hA fl_4_43 dX4_readToken_191 ob_20.1 ob_20.2.1 ob_20.2.2.1 ob_20.2.2.2 ft_4_5 (by decide) (by decide) ?_
                    refine Z_nm (fun m191 em191 => ?_)
                    refine Z_goto hk (tgt := 215) dX4_readToken_194 (by decide) ?_
                    exact Z_vret hk hA hQ dX4_readToken_215 ⟨rfl, rfl, rfl, (by exact ⟨(by (try simp only [em191, em153, em75, em70, em43, and_true, true_and, or_true, true_or, implies_true, upn, reduceIte, Nat.reduceEqDiff, ne_eq, not_false_eq_true, upc]) <;> (omega)), (by intro c k0; simp only [em191, em153, em75, em70, em43, upc, upn, k0, reduceIte, Nat.reduceEqDiff, ne_eq, not_false_eq_true]), (by intro i k0 k1 k2 k3; simp only [em191, em153, em75, em70, em43, upc, upn, k0, k1, k2, k3, reduceIte, Nat.reduceEqDiff, ne_eq, not_false_eq_true])⟩)⟩
            have J108 : ∀ (n : Nat) (x1_108 : Int), (x1_5 ≤ x1_108 ∧ x1_108 ≤ (M 20 2)) → ((M 20 2) - x1_108) < (n : Int) → Zj κ δ ad rs Q 3 (121, 0, 0) 108 [some (.ref (ad 20)), some (iv x1_108), some (iv y0_103)] [] m75 := by
              intro n
              induction n with
              | zero => intro x1_108 h108 hm108; exfalso; (try simp only [em75, em70, em43, and_true, true_and, or_true, true_or, implies_true, upn, reduceIte, Nat.reduceEqDiff, ne_eq, not_false_eq_true, upc] at h108 hm108); omega
              | succ n ih108 =>
                intro x1_108 h108 hm108
                try simp only [em75, em70, em43, and_true, true_and, or_true, true_or, implies_true, upn, reduceIte, Nat.reduceEqDiff, ne_eq, not_false_eq_true, upc] at h108 hm108
                refine Z_iload1 hk dX4_readToken_108 ?_
                refine Z_aload0 hk dX4_readToken_109 ?_
                refine Z_getI hk fl_4_19 dX4_readToken_110 ob_20.1 ob_20.2.1 ob_20.2.2.1 ob_20.2.2.2 ft_4_2 (fun v110 e110 a110 b110 => ?_)
                try simp only [em75, em70, em43, e1, e7, e49, e79, and_true, true_and, or_true, true_or, implies_true, upn, reduceIte, Nat.reduceEqDiff, ne_eq, not_false_eq_true, upc] at e110
                refine Z_icmp_ge hk (tgt := 151) dX4_readToken_113 (by decide) (by omega) (by omega) (by omega) (by omega) (fun h113 => ?_) (fun h113 => ?_)
                · exact J151 _ (by (try simp only [em75, em70, em43, and_true, true_and, or_true, true_or, implies_true, upn, reduceIte, Nat.reduceEqDiff, ne_eq, not_false_eq_true, upc]) <;> (omega))
                · refine Z_aload0 hk dX4_readToken_116 ?_
                  refine Z_getR hk fl_4_9 dX4_readToken_117 ob_20.1 ob_20.2.1 ob_20.2.2.1 ob_20.2.2.2 ft_4_0 rs_20_0 ?_
                  refine Z_iload1 hk dX4_readToken_120 ?_
                  refine Z_cald hk dX4_readToken_121 ar_31.1 ar_31.2.1 ar_31.2.2 (by omega) (by omega) (fun v121 e121 a121 b121 => ?_)
                  try simp only [em75, em70, em43, e1, e7, e49, e79, e110, and_true, true_and, or_true, true_or, implies_true, upn, reduceIte, Nat.reduceEqDiff, ne_eq, not_false_eq_true, upc] at e121
                  refine Z_Si hk (c_X4_kindOf κ.2.1 δ ad _ hA v121 (by (try simp only [em75, em70, em43, and_true, true_and, or_true, true_or, implies_true, upn, reduceIte, Nat.reduceEqDiff, ne_eq, not_false_eq_true, upc]) <;> (omega))) os_X4_kindOf ml_X4_186 dX4_readToken_122 rfl ⟨by decide, by decide⟩ rfl (Nat.le_of_ble_eq_true rfl) (fun r122 m122 p122 => ?_)
                  obtain ⟨rfl, p122⟩ := p122
                  try simp only [em75, em70, em43, e1, e7, e49, e79, e110, e121, and_true, true_and, or_true, true_or, implies_true, upn, reduceIte, Nat.reduceEqDiff, ne_eq, not_false_eq_true, upc] at p122
                  refine Z_aload0 hk dX4_readToken_125 ?_
                  refine Z_getI hk fl_4_43 dX4_readToken_126 ob_20.1 ob_20.2.1 ob_20.2.2.1 ob_20.2.2.2 ft_4_5 (fun v126 e126 a126 b126 => ?_)
                  try simp only [em75, em70, em43, e1, e7, e49, e79, e110, e121, and_true, true_and, or_true, true_or, implies_true, upn, reduceIte, Nat.reduceEqDiff, ne_eq, not_false_eq_true, upc] at e126
                  refine Z_icmp_ne hk (tgt := 151) dX4_readToken_129 (by decide) (by omega) (by omega) (by omega) (by omega) (fun h129 => ?_) (fun h129 => ?_)
                  · exact J151 _ (by (try simp only [em75, em70, em43, and_true, true_and, or_true, true_or, implies_true, upn, reduceIte, Nat.reduceEqDiff, ne_eq, not_false_eq_true, upc]) <;> (omega))
                  · refine Z_iinc1 hk rfl (by decide) dX4_readToken_132 ?_
                    refine Z_goto hk (tgt := 108) dX4_readToken_135 (by decide) ?_
                    exact ih108 _ (by (try simp only [em75, em70, em43, and_true, true_and, or_true, true_or, implies_true, upn, reduceIte, Nat.reduceEqDiff, ne_eq, not_false_eq_true, upc]) <;> (omega)) (by (try simp only [em75, em70, em43, and_true, true_and, or_true, true_or, implies_true, upn, reduceIte, Nat.reduceEqDiff, ne_eq, not_false_eq_true, upc]) <;> (omega))
            refine Z_if_eq hk (tgt := 138) dX4_readToken_105 (by decide) (by omega) (by omega) (fun h105 => ?_) (fun h105 => ?_)
            · refine Z_aload0 hk dX4_readToken_138 ?_
              refine Z_getI hk fl_4_43 dX4_readToken_139 ob_20.1 ob_20.2.1 ob_20.2.2.1 ob_20.2.2.2 ft_4_5 (fun v139 e139 a139 b139 => ?_)
              try simp only [em75, em70, em43, e1, e7, e49, e79, and_true, true_and, or_true, true_or, implies_true, upn, reduceIte, Nat.reduceEqDiff, ne_eq, not_false_eq_true, upc] at e139
              refine Z_sipush hk dX4_readToken_142 (by decide) ?_
              refine Z_icmp_eq hk (tgt := 151) dX4_readToken_145 (by decide) (by omega) (by omega) (by decide) (by decide) (fun h145 => ?_) (fun h145 => ?_)
              · exact J151 _ (by (try simp only [em75, em70, em43, and_true, true_and, or_true, true_or, implies_true, upn, reduceIte, Nat.reduceEqDiff, ne_eq, not_false_eq_true, upc]) <;> (omega))
              · refine Z_iinc1 hk rfl (by decide) dX4_readToken_148 ?_
                exact J151 _ (by (try simp only [em75, em70, em43, and_true, true_and, or_true, true_or, implies_true, upn, reduceIte, Nat.reduceEqDiff, ne_eq, not_false_eq_true, upc]) <;> (omega))
            · exact J108 ((((M 20 2) - x1_5) : Int).toNat + 1) _ (by (try simp only [em75, em70, em43, and_true, true_and, or_true, true_or, implies_true, upn, reduceIte, Nat.reduceEqDiff, ne_eq, not_false_eq_true, upc]) <;> (omega)) (by omega)
          have J98 : ∀ (_ : Unit), (True) → Zj κ δ ad rs Q 3 (121, 0, 0) 98 [some (.ref (ad 20)), some (iv x1_5), none] [] m75 := by
            intro _ h98
            try simp only [em75, em70, em43, and_true, true_and, or_true, true_or, implies_true, upn, reduceIte, Nat.reduceEqDiff, ne_eq, not_false_eq_true, upc] at h98
            refine Z_iconst hk dX4_readToken_98 ?_
            refine Z_goto hk (tgt := 103) dX4_readToken_99 (by decide) ?_
            exact J103 _ (by (try simp only [em75, em70, em43, and_true, true_and, or_true, true_or, implies_true, upn, reduceIte, Nat.reduceEqDiff, ne_eq, not_false_eq_true, upc]) <;> (omega))
          refine Z_icmp_eq hk (tgt := 98) dX4_readToken_85 (by decide) (by omega) (by omega) (by decide) (by decide) (fun h85 => ?_) (fun h85 => ?_)
          · exact J98 () (by trivial)
          · refine Z_aload0 hk dX4_readToken_88 ?_
            refine Z_getI hk fl_4_43 dX4_readToken_89 ob_20.1 ob_20.2.1 ob_20.2.2.1 ob_20.2.2.2 ft_4_5 (fun v89 e89 a89 b89 => ?_)
            try simp only [em75, em70, em43, e1, e7, e49, e79, and_true, true_and, or_true, true_or, implies_true, upn, reduceIte, Nat.reduceEqDiff, ne_eq, not_false_eq_true, upc] at e89
            refine Z_sipush hk dX4_readToken_92 (by decide) ?_
            refine Z_icmp_ne hk (tgt := 102) dX4_readToken_95 (by decide) (by omega) (by omega) (by decide) (by decide) (fun h95 => ?_) (fun h95 => ?_)
            · refine Z_iconst hk dX4_readToken_102 ?_
              exact J103 _ (by (try simp only [em75, em70, em43, and_true, true_and, or_true, true_or, implies_true, upn, reduceIte, Nat.reduceEqDiff, ne_eq, not_false_eq_true, upc]) <;> (omega))
            · exact J98 () (by trivial)
        refine Z_icmp_ge hk (tgt := 67) dX4_readToken_52 (by decide) (by omega) (by omega) (by omega) (by omega) (fun h52 => ?_) (fun h52 => ?_)
        · refine Z_sipush hk dX4_readToken_67 (by decide) ?_
          exact J70 _ (by (try simp only [em43, and_true, true_and, or_true, true_or, implies_true, upn, reduceIte, Nat.reduceEqDiff, ne_eq, not_false_eq_true, upc]) <;> (omega))
        · refine Z_aload0 hk dX4_readToken_55 ?_
          refine Z_getR hk fl_4_9 dX4_readToken_56 ob_20.1 ob_20.2.1 ob_20.2.2.1 ob_20.2.2.2 ft_4_0 rs_20_0 ?_
          refine Z_iload1 hk dX4_readToken_59 ?_
          refine Z_cald hk dX4_readToken_60 ar_31.1 ar_31.2.1 ar_31.2.2 (by omega) (by omega) (fun v60 e60 a60 b60 => ?_)
          try simp only [em43, e1, e7, e49, and_true, true_and, or_true, true_or, implies_true, upn, reduceIte, Nat.reduceEqDiff, ne_eq, not_false_eq_true, upc] at e60
          refine Z_Si hk (c_X4_kindOf κ.2.1 δ ad _ hA v60 (by (try simp only [em43, and_true, true_and, or_true, true_or, implies_true, upn, reduceIte, Nat.reduceEqDiff, ne_eq, not_false_eq_true, upc]) <;> (omega))) os_X4_kindOf ml_X4_186 dX4_readToken_61 rfl ⟨by decide, by decide⟩ rfl (Nat.le_of_ble_eq_true rfl) (fun r61 m61 p61 => ?_)
          obtain ⟨rfl, p61⟩ := p61
          try simp only [em43, e1, e7, e49, e60, and_true, true_and, or_true, true_or, implies_true, upn, reduceIte, Nat.reduceEqDiff, ne_eq, not_false_eq_true, upc] at p61
          refine Z_goto hk (tgt := 70) dX4_readToken_64 (by decide) ?_
          exact J70 _ (by (try simp only [em43, and_true, true_and, or_true, true_or, implies_true, upn, reduceIte, Nat.reduceEqDiff, ne_eq, not_false_eq_true, upc]) <;> (omega))
      refine Z_icmp_ge hk (tgt := 41) dX4_readToken_10 (by decide) (by omega) (by omega) (by omega) (by omega) (fun h10 => ?_) (fun h10 => ?_)
      · exact J41 () (by trivial)
      · refine Z_aload0 hk dX4_readToken_13 ?_
        refine Z_getR hk fl_4_9 dX4_readToken_14 ob_20.1 ob_20.2.1 ob_20.2.2.1 ob_20.2.2.2 ft_4_0 rs_20_0 ?_
        refine Z_iload1 hk dX4_readToken_17 ?_
        refine Z_cald hk dX4_readToken_18 ar_31.1 ar_31.2.1 ar_31.2.2 (by omega) (by omega) (fun v18 e18 a18 b18 => ?_)
        try simp only [e1, e7, and_true, true_and, or_true, true_or, implies_true, upn, reduceIte, Nat.reduceEqDiff, ne_eq, not_false_eq_true, upc] at e18
        refine Z_bipush hk dX4_readToken_19 (by decide) ?_
        have J35 : ∀ (_ : Unit), (x1_5 < (M 20 2)) → Zj κ δ ad rs Q 3 (121, 0, 0) 35 [some (.ref (ad 20)), some (iv x1_5), none] [] M := by
          intro _ h35
          refine Z_iinc1 hk rfl (by decide) dX4_readToken_35 ?_
          refine Z_goto hk (tgt := 5) dX4_readToken_38 (by decide) ?_
          exact ih5 _ (by omega) (by (omega))
        refine Z_icmp_eq hk (tgt := 35) dX4_readToken_21 (by decide) (by omega) (by omega) (by decide) (by decide) (fun h21 => ?_) (fun h21 => ?_)
        · exact J35 () (by omega)
        · refine Z_aload0 hk dX4_readToken_24 ?_
          refine Z_getR hk fl_4_9 dX4_readToken_25 ob_20.1 ob_20.2.1 ob_20.2.2.1 ob_20.2.2.2 ft_4_0 rs_20_0 ?_
          refine Z_iload1 hk dX4_readToken_28 ?_
          refine Z_cald hk dX4_readToken_29 ar_31.1 ar_31.2.1 ar_31.2.2 (by omega) (by omega) (fun v29 e29 a29 b29 => ?_)
          try simp only [e1, e7, e18, and_true, true_and, or_true, true_or, implies_true, upn, reduceIte, Nat.reduceEqDiff, ne_eq, not_false_eq_true, upc] at e29
          refine Z_bipush hk dX4_readToken_30 (by decide) ?_
          refine Z_icmp_ne hk (tgt := 41) dX4_readToken_32 (by decide) (by omega) (by omega) (by decide) (by decide) (fun h32 => ?_) (fun h32 => ?_)
          · exact J41 () (by trivial)
          · exact J35 () (by omega)
  refine Z_istore1 hk rfl (by decide) dX4_readToken_4 ?_
  exact J5 ((((M 20 2) - v1) : Int).toNat + 1) _ (by omega) (by omega)
set_option maxRecDepth 10000 in
theorem c_X4_expectSign (l : Launch) (δ : Dp) (ad : Nat → Nat) (M : Mem) (hA : okA δ ad) (c : Int) (hz : NS δ) (q0 : 0 ≤ (M 20 6) ∧ (M 20 6) ≤ (M 20 7) ∧ (M 20 7) ≤ (M 20 2) ∧ (M 20 2) ≤ 700) (qw : -1 ≤ (M 20 8) ∧ (M 20 8) ≤ 1000) (i_c : -2147483648 ≤ c ∧ c ≤ 2147483647) : Mv l δ yX4_expectSign cX4_expectSign 2 none 6 168 ad rs [.ref (ad 20), iv c] M (fun M' => (0 ≤ (M' 20 6) ∧ (M' 20 6) ≤ (M' 20 7) ∧ (M' 20 7) ≤ (M' 20 2) ∧ (M' 20 2) ≤ 700 ∧ -1 ≤ (M' 20 8) ∧ (M' 20 8) ≤ 1000) ∧ (∀ c : Nat, c ≠ 20 → M' c = M c) ∧ (∀ i : Nat, i ≠ 3 → i ≠ 4 → i ≠ 5 → i ≠ 6 → i ≠ 7 → i ≠ 8 → M' 20 i = M 20 i)) := by
  refine Mg.of (rm := rmN 6 168) (by decide) (Nat.le_of_ble_eq_true rfl) fun κ _ hk _ => ?_
  generalize hQ : Qg κ δ 121 (rmN 6 168).cells (rmN 6 168).slots _ = Q
  show Zj κ δ ad rs Q 2 (121, 0, 0) 0 [some (.ref (ad 20)), some (iv c)] [] M
  refine Z_aload0 hk dX4_expectSign_0 ?_
  refine Z_getI hk fl_4_43 dX4_expectSign_1 ob_20.1 ob_20.2.1 ob_20.2.2.1 ob_20.2.2.2 ft_4_5 (fun v1 e1 a1 b1 => ?_)
  refine Z_iload1 hk dX4_expectSign_4 ?_
  refine Z_icmp_ne hk (tgt := 15) dX4_expectSign_5 (by decide) (by omega) (by omega) (by omega) (by omega) (fun h5 => ?_) (fun h5 => ?_)
  · refine Z_aload0 hk dX4_expectSign_15 ?_
    refine Z_iconst hk dX4_expectSign_16 ?_
    refine Z_aload0 hk dX4_expectSign_17 ?_
    refine Z_getI hk fl_4_71 dX4_expectSign_18 ob_20.1 ob_20.2.1 ob_20.2.2.1 ob_20.2.2.2 ft_4_6 (fun v18 e18 a18 b18 => ?_)
    try simp only [e1, and_true, true_and, or_true, true_or, implies_true, upn, reduceIte, Nat.reduceEqDiff, ne_eq, not_false_eq_true, upc] at e18
    refine Z_Vv hk (c_X4_fail κ.2.1 δ ad _ hA 1 v18 (by (omega)) (by (omega))) ov_X4_fail ml_X4_74 dX4_expectSign_21 rfl ⟨by decide, by decide⟩ ob_20.1 (by decide) (by decide) rfl (Nat.le_of_ble_eq_true rfl) (fun m21 p21 => ?_)
    obtain ⟨p21, f21_0, f21_1⟩ := p21
    try simp only [f21_0, f21_1, e1, e18, and_true, true_and, or_true, true_or, implies_true, upn, reduceIte, Nat.reduceEqDiff, ne_eq, not_false_eq_true, upc] at p21
    exact Z_vret hk hA hQ dX4_expectSign_24 ⟨rfl, rfl, rfl, (by exact ⟨(by (try simp only [f21_0, f21_1, and_true, true_and, or_true, true_or, implies_true, upn, reduceIte, Nat.reduceEqDiff, ne_eq, not_false_eq_true, upc]) <;> (omega)), (by intro c k0; simp only [f21_0, f21_1, upc, upn, k0, reduceIte, Nat.reduceEqDiff, ne_eq, not_false_eq_true]), (by intro i k0 k1 k2 k3 k4 k5; simp only [f21_0, f21_1, upc, upn, k0, k1, k2, k3, k4, k5, reduceIte, Nat.reduceEqDiff, ne_eq, not_false_eq_true])⟩)⟩
  · refine Z_aload0 hk dX4_expectSign_8 ?_
    refine Z_Vv hk (c_X4_readToken κ.2.1 δ ad _ hA  hz (by (omega))) ov_X4_readToken ml_X4_40 dX4_expectSign_9 rfl ⟨by decide, by decide⟩ ob_20.1 (by decide) (by decide) rfl (Nat.le_of_ble_eq_true rfl) (fun m9 p9 => ?_)
    obtain ⟨p9, f9_0, f9_1⟩ := p9
    try simp only [f9_0, f9_1, e1, and_true, true_and, or_true, true_or, implies_true, upn, reduceIte, Nat.reduceEqDiff, ne_eq, not_false_eq_true, upc] at p9
    refine Z_goto hk (tgt := 24) dX4_expectSign_12 (by decide) ?_
    exact Z_vret hk hA hQ dX4_expectSign_24 ⟨rfl, rfl, rfl, (by exact ⟨(by (try simp only [f9_0, f9_1, and_true, true_and, or_true, true_or, implies_true, upn, reduceIte, Nat.reduceEqDiff, ne_eq, not_false_eq_true, upc]) <;> (omega)), (by intro c k0; simp only [f9_0, f9_1, upc, upn, k0, reduceIte, Nat.reduceEqDiff, ne_eq, not_false_eq_true]), (by intro i k0 k1 k2 k3 k4 k5; simp only [f9_0, f9_1, upc, upn, k0, k1, k2, k3, k4, k5, reduceIte, Nat.reduceEqDiff, ne_eq, not_false_eq_true])⟩)⟩
set_option maxRecDepth 10000 in
theorem c_X4_expectWord (l : Launch) (δ : Dp) (ad : Nat → Nat) (M : Mem) (hA : okA δ ad) (c : Int) (hz : NS δ) (q0 : 0 ≤ (M 20 6) ∧ (M 20 6) ≤ (M 20 7) ∧ (M 20 7) ≤ (M 20 2) ∧ (M 20 2) ≤ 700) (qw : -1 ≤ (M 20 8) ∧ (M 20 8) ≤ 1000) (i_c : -2147483648 ≤ c ∧ c ≤ 2147483647) : Mv l δ yX4_expectWord cX4_expectWord 2 none 6 168 ad rs [.ref (ad 20), iv c] M (fun M' => (0 ≤ (M' 20 6) ∧ (M' 20 6) ≤ (M' 20 7) ∧ (M' 20 7) ≤ (M' 20 2) ∧ (M' 20 2) ≤ 700 ∧ -1 ≤ (M' 20 8) ∧ (M' 20 8) ≤ 1000) ∧ (∀ c : Nat, c ≠ 20 → M' c = M c) ∧ (∀ i : Nat, i ≠ 3 → i ≠ 4 → i ≠ 5 → i ≠ 6 → i ≠ 7 → i ≠ 8 → M' 20 i = M 20 i)) := by
  refine Mg.of (rm := rmN 6 168) (by decide) (Nat.le_of_ble_eq_true rfl) fun κ _ hk _ => ?_
  generalize hQ : Qg κ δ 121 (rmN 6 168).cells (rmN 6 168).slots _ = Q
  show Zj κ δ ad rs Q 2 (121, 0, 0) 0 [some (.ref (ad 20)), some (iv c)] [] M
  refine Z_aload0 hk dX4_expectWord_0 ?_
  refine Z_getI hk fl_4_46 dX4_expectWord_1 ob_20.1 ob_20.2.1 ob_20.2.2.1 ob_20.2.2.2 ft_4_8 (fun v1 e1 a1 b1 => ?_)
  refine Z_iload1 hk dX4_expectWord_4 ?_
  refine Z_icmp_ne hk (tgt := 15) dX4_expectWord_5 (by decide) (by omega) (by omega) (by omega) (by omega) (fun h5 => ?_) (fun h5 => ?_)
  · refine Z_aload0 hk dX4_expectWord_15 ?_
    refine Z_iconst hk dX4_expectWord_16 ?_
    refine Z_aload0 hk dX4_expectWord_17 ?_
    refine Z_getI hk fl_4_71 dX4_expectWord_18 ob_20.1 ob_20.2.1 ob_20.2.2.1 ob_20.2.2.2 ft_4_6 (fun v18 e18 a18 b18 => ?_)
    try simp only [e1, and_true, true_and, or_true, true_or, implies_true, upn, reduceIte, Nat.reduceEqDiff, ne_eq, not_false_eq_true, upc] at e18
    refine Z_Vv hk (c_X4_fail κ.2.1 δ ad _ hA 1 v18 (by (omega)) (by (omega))) ov_X4_fail ml_X4_74 dX4_expectWord_21 rfl ⟨by decide, by decide⟩ ob_20.1 (by decide) (by decide) rfl (Nat.le_of_ble_eq_true rfl) (fun m21 p21 => ?_)
    obtain ⟨p21, f21_0, f21_1⟩ := p21
    try simp only [f21_0, f21_1, e1, e18, and_true, true_and, or_true, true_or, implies_true, upn, reduceIte, Nat.reduceEqDiff, ne_eq, not_false_eq_true, upc] at p21
    exact Z_vret hk hA hQ dX4_expectWord_24 ⟨rfl, rfl, rfl, (by exact ⟨(by (try simp only [f21_0, f21_1, and_true, true_and, or_true, true_or, implies_true, upn, reduceIte, Nat.reduceEqDiff, ne_eq, not_false_eq_true, upc]) <;> (omega)), (by intro c k0; simp only [f21_0, f21_1, upc, upn, k0, reduceIte, Nat.reduceEqDiff, ne_eq, not_false_eq_true]), (by intro i k0 k1 k2 k3 k4 k5; simp only [f21_0, f21_1, upc, upn, k0, k1, k2, k3, k4, k5, reduceIte, Nat.reduceEqDiff, ne_eq, not_false_eq_true])⟩)⟩
  · refine Z_aload0 hk dX4_expectWord_8 ?_
    refine Z_Vv hk (c_X4_readToken κ.2.1 δ ad _ hA  hz (by (omega))) ov_X4_readToken ml_X4_40 dX4_expectWord_9 rfl ⟨by decide, by decide⟩ ob_20.1 (by decide) (by decide) rfl (Nat.le_of_ble_eq_true rfl) (fun m9 p9 => ?_)
    obtain ⟨p9, f9_0, f9_1⟩ := p9
    try simp only [f9_0, f9_1, e1, and_true, true_and, or_true, true_or, implies_true, upn, reduceIte, Nat.reduceEqDiff, ne_eq, not_false_eq_true, upc] at p9
    refine Z_goto hk (tgt := 24) dX4_expectWord_12 (by decide) ?_
    exact Z_vret hk hA hQ dX4_expectWord_24 ⟨rfl, rfl, rfl, (by exact ⟨(by (try simp only [f9_0, f9_1, and_true, true_and, or_true, true_or, implies_true, upn, reduceIte, Nat.reduceEqDiff, ne_eq, not_false_eq_true, upc]) <;> (omega)), (by intro c k0; simp only [f9_0, f9_1, upc, upn, k0, reduceIte, Nat.reduceEqDiff, ne_eq, not_false_eq_true]), (by intro i k0 k1 k2 k3 k4 k5; simp only [f9_0, f9_1, upc, upn, k0, k1, k2, k3, k4, k5, reduceIte, Nat.reduceEqDiff, ne_eq, not_false_eq_true])⟩)⟩
set_option maxRecDepth 10000 in
theorem c_X4_takeNumber (l : Launch) (δ : Dp) (ad : Nat → Nat) (M : Mem) (hA : okA δ ad) (a : Int) (b : Int) (hz : NS δ) (q0 : 0 ≤ (M 20 6) ∧ (M 20 6) ≤ (M 20 7) ∧ (M 20 7) ≤ (M 20 2) ∧ (M 20 2) ≤ 700) (qw : -1 ≤ (M 20 8) ∧ (M 20 8) ≤ 1000) (i_a : -2147483648 ≤ a ∧ a ≤ 2147483647) (i_b : -2147483648 ≤ b ∧ b ≤ 2147483647) : Mi l δ yX4_takeNumber cX4_takeNumber 5 (some (.int)) 6 168 ad rs [.ref (ad 20), iv a, iv b] M (fun r M' => (0 ≤ (M' 20 6) ∧ (M' 20 6) ≤ (M' 20 7) ∧ (M' 20 7) ≤ (M' 20 2) ∧ (M' 20 2) ≤ 700 ∧ -1 ≤ (M' 20 8) ∧ (M' 20 8) ≤ 1000 ∧ (r = 0 ∨ (a ≤ r ∧ r ≤ b)) ∧ -2147483648 ≤ r ∧ r ≤ 2147483647) ∧ (∀ c : Nat, c ≠ 20 → M' c = M c) ∧ (∀ i : Nat, i ≠ 3 → i ≠ 4 → i ≠ 5 → i ≠ 6 → i ≠ 7 → i ≠ 8 → M' 20 i = M 20 i)) := by
  refine Mg.of (rm := rmN 6 168) (by decide) (Nat.le_of_ble_eq_true rfl) fun κ _ hk _ => ?_
  generalize hQ : Qg κ δ 121 (rmN 6 168).cells (rmN 6 168).slots _ = Q
  show Zj κ δ ad rs Q 5 (121, 0, 0) 0 [some (.ref (ad 20)), some (iv a), some (iv b), none, none] [] M
  refine Z_aload0 hk dX4_takeNumber_0 ?_
  refine Z_getI hk fl_4_43 dX4_takeNumber_1 ob_20.1 ob_20.2.1 ob_20.2.2.1 ob_20.2.2.2 ft_4_5 (fun v1 e1 a1 b1 => ?_)
  refine Z_sipush hk dX4_takeNumber_4 (by decide) ?_
  refine Z_icmp_eq hk (tgt := 21) dX4_takeNumber_7 (by decide) (by omega) (by omega) (by decide) (by decide) (fun h7 => ?_) (fun h7 => ?_)
  · refine Z_aload0 hk dX4_takeNumber_21 ?_
    refine Z_getI hk fl_4_37 dX4_takeNumber_22 ob_20.1 ob_20.2.1 ob_20.2.2.1 ob_20.2.2.2 ft_4_7 (fun v22 e22 a22 b22 => ?_)
    try simp only [e1, and_true, true_and, or_true, true_or, implies_true, upn, reduceIte, Nat.reduceEqDiff, ne_eq, not_false_eq_true, upc] at e22
    refine Z_aload0 hk dX4_takeNumber_25 ?_
    refine Z_getI hk fl_4_71 dX4_takeNumber_26 ob_20.1 ob_20.2.1 ob_20.2.2.1 ob_20.2.2.2 ft_4_6 (fun v26 e26 a26 b26 => ?_)
    try simp only [e1, e22, and_true, true_and, or_true, true_or, implies_true, upn, reduceIte, Nat.reduceEqDiff, ne_eq, not_false_eq_true, upc] at e26
    refine Z_isub hk dX4_takeNumber_29 ?_
    refine Z_iconst hk dX4_takeNumber_30 ?_
    refine Z_icmp_le hk (tgt := 47) dX4_takeNumber_31 (by decide) (by omega) (by omega) (by decide) (by decide) (fun h31 => ?_) (fun h31 => ?_)
    · refine Z_iconst hk dX4_takeNumber_47 ?_
      refine Z_istore3 hk rfl (by decide) dX4_takeNumber_48 ?_
      refine Z_aload0 hk dX4_takeNumber_49 ?_
      refine Z_getI hk fl_4_71 dX4_takeNumber_50 ob_20.1 ob_20.2.1 ob_20.2.2.1 ob_20.2.2.2 ft_4_6 (fun v50 e50 a50 b50 => ?_)
      try simp only [e1, e22, e26, and_true, true_and, or_true, true_or, implies_true, upn, reduceIte, Nat.reduceEqDiff, ne_eq, not_false_eq_true, upc] at e50
      have J55 : ∀ (n : Nat) (x3_55 : Int) (x4_55 : Int), ((M 20 6) ≤ x4_55 ∧ x4_55 ≤ (M 20 7) ∧ -2147483648 ≤ x3_55 ∧ x3_55 ≤ 2147483647) → ((M 20 7) - x4_55) < (n : Int) → Zj κ δ ad rs Q 5 (121, 0, 0) 55 [some (.ref (ad 20)), some (iv a), some (iv b), some (iv x3_55), some (iv x4_55)] [] M := by
        intro n
        induction n with
        | zero => intro x3_55 x4_55 h55 hm55; exfalso; omega
        | succ n ih55 =>
          intro x3_55 x4_55 h55 hm55
          refine Z_iload4 hk dX4_takeNumber_55 ?_
          refine Z_aload0 hk dX4_takeNumber_57 ?_
          refine Z_getI hk fl_4_37 dX4_takeNumber_58 ob_20.1 ob_20.2.1 ob_20.2.2.1 ob_20.2.2.2 ft_4_7 (fun v58 e58 a58 b58 => ?_)
          try simp only [e1, e22, e26, e50, and_true, true_and, or_true, true_or, implies_true, upn, reduceIte, Nat.reduceEqDiff, ne_eq, not_false_eq_true, upc] at e58
          refine Z_icmp_ge hk (tgt := 86) dX4_takeNumber_61 (by decide) (by omega) (by omega) (by omega) (by omega) (fun h61 => ?_) (fun h61 => ?_)
          · refine Z_iload3 hk dX4_takeNumber_86 ?_
            refine Z_iload1 hk dX4_takeNumber_87 ?_
            have J96 : ∀ (_ : Unit), (True) → Zj κ δ ad rs Q 5 (121, 0, 0) 96 [some (.ref (ad 20)), some (iv a), some (iv b), some (iv x3_55), some (iv x4_55)] [] M := by
              intro _ h96
              refine Z_aload0 hk dX4_takeNumber_96 ?_
              refine Z_iconst hk dX4_takeNumber_97 ?_
              refine Z_aload0 hk dX4_takeNumber_98 ?_
              refine Z_getI hk fl_4_71 dX4_takeNumber_99 ob_20.1 ob_20.2.1 ob_20.2.2.1 ob_20.2.2.2 ft_4_6 (fun v99 e99 a99 b99 => ?_)
              try simp only [e1, e22, e26, e50, e58, and_true, true_and, or_true, true_or, implies_true, upn, reduceIte, Nat.reduceEqDiff, ne_eq, not_false_eq_true, upc] at e99
              refine Z_Vv hk (c_X4_fail κ.2.1 δ ad _ hA 2 v99 (by (omega)) (by (omega))) ov_X4_fail ml_X4_74 dX4_takeNumber_102 rfl ⟨by decide, by decide⟩ ob_20.1 (by decide) (by decide) rfl (Nat.le_of_ble_eq_true rfl) (fun m102 p102 => ?_)
              obtain ⟨p102, f102_0, f102_1⟩ := p102
              try simp only [f102_0, f102_1, e1, e22, e26, e50, e58, e99, and_true, true_and, or_true, true_or, implies_true, upn, reduceIte, Nat.reduceEqDiff, ne_eq, not_false_eq_true, upc] at p102
              refine Z_iconst hk dX4_takeNumber_105 ?_
              exact Z_iret hk hA hQ dX4_takeNumber_106 ⟨rfl, rfl, _, rfl, (by exact ⟨(by (try simp only [f102_0, f102_1, and_true, true_and, or_true, true_or, implies_true, upn, reduceIte, Nat.reduceEqDiff, ne_eq, not_false_eq_true, upc]) <;> (omega)), (by intro c k0; simp only [f102_0, f102_1, upc, upn, k0, reduceIte, Nat.reduceEqDiff, ne_eq, not_false_eq_true]), (by intro i k0 k1 k2 k3 k4 k5; simp only [f102_0, f102_1, upc, upn, k0, k1, k2, k3, k4, k5, reduceIte, Nat.reduceEqDiff, ne_eq, not_false_eq_true])⟩)⟩
            refine Z_icmp_lt hk (tgt := 96) dX4_takeNumber_88 (by decide) (by omega) (by omega) (by omega) (by omega) (fun h88 => ?_) (fun h88 => ?_)
            · exact J96 () (by trivial)
            · refine Z_iload3 hk dX4_takeNumber_91 ?_
              refine Z_iload2 hk dX4_takeNumber_92 ?_
              refine Z_icmp_le hk (tgt := 107) dX4_takeNumber_93 (by decide) (by omega) (by omega) (by omega) (by omega) (fun h93 => ?_) (fun h93 => ?_)
              · refine Z_aload0 hk dX4_takeNumber_107 ?_
                refine Z_Vv hk (c_X4_readToken κ.2.1 δ ad _ hA  hz (by (omega))) ov_X4_readToken ml_X4_40 dX4_takeNumber_108 rfl ⟨by decide, by decide⟩ ob_20.1 (by decide) (by decide) rfl (Nat.le_of_ble_eq_true rfl) (fun m108 p108 => ?_)
                obtain ⟨p108, f108_0, f108_1⟩ := p108
                try simp only [f108_0, f108_1, e1, e22, e26, e50, e58, and_true, true_and, or_true, true_or, implies_true, upn, reduceIte, Nat.reduceEqDiff, ne_eq, not_false_eq_true, upc] at p108
                refine Z_iload3 hk dX4_takeNumber_111 ?_
                exact Z_iret hk hA hQ dX4_takeNumber_112 ⟨rfl, rfl, _, rfl, (by exact ⟨(by (try simp only [f108_0, f108_1, and_true, true_and, or_true, true_or, implies_true, upn, reduceIte, Nat.reduceEqDiff, ne_eq, not_false_eq_true, upc]) <;> (omega)), (by intro c k0; simp only [f108_0, f108_1, upc, upn, k0, reduceIte, Nat.reduceEqDiff, ne_eq, not_false_eq_true]), (by intro i k0 k1 k2 k3 k4 k5; simp only [f108_0, f108_1, upc, upn, k0, k1, k2, k3, k4, k5, reduceIte, Nat.reduceEqDiff, ne_eq, not_false_eq_true])⟩)⟩
              · exact J96 () (by trivial)
          · refine Z_iload3 hk dX4_takeNumber_64 ?_
            refine Z_bipush hk dX4_takeNumber_65 (by decide) ?_
            refine Z_imul hk dX4_takeNumber_67 ?_
            refine Z_wI (fun w67 a67w b67w g67w => ?_)
            refine Z_aload0 hk dX4_takeNumber_68 ?_
            refine Z_getR hk fl_4_9 dX4_takeNumber_69 ob_20.1 ob_20.2.1 ob_20.2.2.1 ob_20.2.2.2 ft_4_0 rs_20_0 ?_
            refine Z_iload4 hk dX4_takeNumber_72 ?_
            refine Z_cald hk dX4_takeNumber_74 ar_31.1 ar_31.2.1 ar_31.2.2 (by omega) (by omega) (fun v74 e74 a74 b74 => ?_)
            try simp only [e1, e22, e26, e50, e58, and_true, true_and, or_true, true_or, implies_true, upn, reduceIte, Nat.reduceEqDiff, ne_eq, not_false_eq_true, upc] at e74
            refine Z_bipush hk dX4_takeNumber_75 (by decide) ?_
            refine Z_isub hk dX4_takeNumber_77 ?_
            refine Z_iadd hk dX4_takeNumber_78 ?_
            refine Z_wI (fun w78 a78w b78w g78w => ?_)
            refine Z_istore3 hk rfl (by decide) dX4_takeNumber_79 ?_
            refine Z_iinc4 hk rfl (by decide) dX4_takeNumber_80 ?_
            refine Z_goto hk (tgt := 55) dX4_takeNumber_83 (by decide) ?_
            exact ih55 _ _ (by omega) (by (omega))
      refine Z_istore4 hk rfl (by decide) dX4_takeNumber_53 ?_
      exact J55 ((((M 20 7) - v50) : Int).toNat + 1) _ _ (by omega) (by omega)
    · refine Z_aload0 hk dX4_takeNumber_34 ?_
      refine Z_iconst hk dX4_takeNumber_35 ?_
      refine Z_aload0 hk dX4_takeNumber_36 ?_
      refine Z_getI hk fl_4_71 dX4_takeNumber_37 ob_20.1 ob_20.2.1 ob_20.2.2.1 ob_20.2.2.2 ft_4_6 (fun v37 e37 a37 b37 => ?_)
      try simp only [e1, e22, e26, and_true, true_and, or_true, true_or, implies_true, upn, reduceIte, Nat.reduceEqDiff, ne_eq, not_false_eq_true, upc] at e37
      refine Z_iconst hk dX4_takeNumber_40 ?_
      refine Z_iadd hk dX4_takeNumber_41 ?_
      refine Z_Vv hk (c_X4_fail κ.2.1 δ ad _ hA 1 (v37 + 4) (by (omega)) (by (omega))) ov_X4_fail ml_X4_74 dX4_takeNumber_42 rfl ⟨by decide, by decide⟩ ob_20.1 (by decide) (by decide) rfl (Nat.le_of_ble_eq_true rfl) (fun m42 p42 => ?_)
      obtain ⟨p42, f42_0, f42_1⟩ := p42
      try simp only [f42_0, f42_1, e1, e22, e26, e37, and_true, true_and, or_true, true_or, implies_true, upn, reduceIte, Nat.reduceEqDiff, ne_eq, not_false_eq_true, upc] at p42
      refine Z_iconst hk dX4_takeNumber_45 ?_
      exact Z_iret hk hA hQ dX4_takeNumber_46 ⟨rfl, rfl, _, rfl, (by exact ⟨(by (try simp only [f42_0, f42_1, and_true, true_and, or_true, true_or, implies_true, upn, reduceIte, Nat.reduceEqDiff, ne_eq, not_false_eq_true, upc]) <;> (omega)), (by intro c k0; simp only [f42_0, f42_1, upc, upn, k0, reduceIte, Nat.reduceEqDiff, ne_eq, not_false_eq_true]), (by intro i k0 k1 k2 k3 k4 k5; simp only [f42_0, f42_1, upc, upn, k0, k1, k2, k3, k4, k5, reduceIte, Nat.reduceEqDiff, ne_eq, not_false_eq_true])⟩)⟩
  · refine Z_aload0 hk dX4_takeNumber_10 ?_
    refine Z_iconst hk dX4_takeNumber_11 ?_
    refine Z_aload0 hk dX4_takeNumber_12 ?_
    refine Z_getI hk fl_4_71 dX4_takeNumber_13 ob_20.1 ob_20.2.1 ob_20.2.2.1 ob_20.2.2.2 ft_4_6 (fun v13 e13 a13 b13 => ?_)
    try simp only [e1, and_true, true_and, or_true, true_or, implies_true, upn, reduceIte, Nat.reduceEqDiff, ne_eq, not_false_eq_true, upc] at e13
    refine Z_Vv hk (c_X4_fail κ.2.1 δ ad _ hA 1 v13 (by (omega)) (by (omega))) ov_X4_fail ml_X4_74 dX4_takeNumber_16 rfl ⟨by decide, by decide⟩ ob_20.1 (by decide) (by decide) rfl (Nat.le_of_ble_eq_true rfl) (fun m16 p16 => ?_)
    obtain ⟨p16, f16_0, f16_1⟩ := p16
    try simp only [f16_0, f16_1, e1, e13, and_true, true_and, or_true, true_or, implies_true, upn, reduceIte, Nat.reduceEqDiff, ne_eq, not_false_eq_true, upc] at p16
    refine Z_iconst hk dX4_takeNumber_19 ?_
    exact Z_iret hk hA hQ dX4_takeNumber_20 ⟨rfl, rfl, _, rfl, (by exact ⟨(by (try simp only [f16_0, f16_1, and_true, true_and, or_true, true_or, implies_true, upn, reduceIte, Nat.reduceEqDiff, ne_eq, not_false_eq_true, upc]) <;> (omega)), (by intro c k0; simp only [f16_0, f16_1, upc, upn, k0, reduceIte, Nat.reduceEqDiff, ne_eq, not_false_eq_true]), (by intro i k0 k1 k2 k3 k4 k5; simp only [f16_0, f16_1, upc, upn, k0, k1, k2, k3, k4, k5, reduceIte, Nat.reduceEqDiff, ne_eq, not_false_eq_true])⟩)⟩
set_option maxRecDepth 10000 in
theorem c_X4_takeName (l : Launch) (δ : Dp) (ad : Nat → Nat) (M : Mem) (hA : okA δ ad) (hz : NS δ) (q0 : 0 ≤ (M 20 6) ∧ (M 20 6) ≤ (M 20 7) ∧ (M 20 7) ≤ (M 20 2) ∧ (M 20 2) ≤ 700) (qw : -1 ≤ (M 20 8) ∧ (M 20 8) ≤ 1000) : Mj l δ yX4_takeName cX4_takeName 4 (some (.long)) 6 168 ad rs [.ref (ad 20)] M (fun r M' => (0 ≤ (M' 20 6) ∧ (M' 20 6) ≤ (M' 20 7) ∧ (M' 20 7) ≤ (M' 20 2) ∧ (M' 20 2) ≤ 700 ∧ -1 ≤ (M' 20 8) ∧ (M' 20 8) ≤ 1000 ∧ -9223372036854775808 ≤ r ∧ r ≤ 9223372036854775807) ∧ (∀ c : Nat, c ≠ 20 → M' c = M c) ∧ (∀ i : Nat, i ≠ 3 → i ≠ 4 → i ≠ 5 → i ≠ 6 → i ≠ 7 → i ≠ 8 → M' 20 i = M 20 i)) := by
  refine Mg.of (rm := rmN 6 168) (by decide) (Nat.le_of_ble_eq_true rfl) fun κ _ hk _ => ?_
  generalize hQ : Qg κ δ 121 (rmN 6 168).cells (rmN 6 168).slots _ = Q
  show Zj κ δ ad rs Q 4 (121, 0, 0) 0 [some (.ref (ad 20)), none, none, none] [] M
  refine Z_aload0 hk dX4_takeName_0 ?_
  refine Z_getI hk fl_4_43 dX4_takeName_1 ob_20.1 ob_20.2.1 ob_20.2.2.1 ob_20.2.2.2 ft_4_5 (fun v1 e1 a1 b1 => ?_)
  refine Z_sipush hk dX4_takeName_4 (by decide) ?_
  have J18 : ∀ (_ : Unit), (True) → Zj κ δ ad rs Q 4 (121, 0, 0) 18 [some (.ref (ad 20)), none, none, none] [] M := by
    intro _ h18
    refine Z_aload0 hk dX4_takeName_18 ?_
    refine Z_iconst hk dX4_takeName_19 ?_
    refine Z_aload0 hk dX4_takeName_20 ?_
    refine Z_getI hk fl_4_71 dX4_takeName_21 ob_20.1 ob_20.2.1 ob_20.2.2.1 ob_20.2.2.2 ft_4_6 (fun v21 e21 a21 b21 => ?_)
    try simp only [e1, and_true, true_and, or_true, true_or, implies_true, upn, reduceIte, Nat.reduceEqDiff, ne_eq, not_false_eq_true, upc] at e21
    refine Z_Vv hk (c_X4_fail κ.2.1 δ ad _ hA 1 v21 (by (omega)) (by (omega))) ov_X4_fail ml_X4_74 dX4_takeName_24 rfl ⟨by decide, by decide⟩ ob_20.1 (by decide) (by decide) rfl (Nat.le_of_ble_eq_true rfl) (fun m24 p24 => ?_)
    obtain ⟨p24, f24_0, f24_1⟩ := p24
    try simp only [f24_0, f24_1, e1, e21, and_true, true_and, or_true, true_or, implies_true, upn, reduceIte, Nat.reduceEqDiff, ne_eq, not_false_eq_true, upc] at p24
    refine Z_lconst0 hk dX4_takeName_27 ?_
    exact Z_lret hk hA hQ dX4_takeName_28 ⟨rfl, rfl, _, rfl, (by exact ⟨(by (try simp only [f24_0, f24_1, and_true, true_and, or_true, true_or, implies_true, upn, reduceIte, Nat.reduceEqDiff, ne_eq, not_false_eq_true, upc]) <;> (omega)), (by intro c k0; simp only [f24_0, f24_1, upc, upn, k0, reduceIte, Nat.reduceEqDiff, ne_eq, not_false_eq_true]), (by intro i k0 k1 k2 k3 k4 k5; simp only [f24_0, f24_1, upc, upn, k0, k1, k2, k3, k4, k5, reduceIte, Nat.reduceEqDiff, ne_eq, not_false_eq_true])⟩)⟩
  refine Z_icmp_ne hk (tgt := 18) dX4_takeName_7 (by decide) (by omega) (by omega) (by decide) (by decide) (fun h7 => ?_) (fun h7 => ?_)
  · exact J18 () (by trivial)
  · refine Z_aload0 hk dX4_takeName_10 ?_
    refine Z_getI hk fl_4_46 dX4_takeName_11 ob_20.1 ob_20.2.1 ob_20.2.2.1 ob_20.2.2.2 ft_4_8 (fun v11 e11 a11 b11 => ?_)
    try simp only [e1, and_true, true_and, or_true, true_or, implies_true, upn, reduceIte, Nat.reduceEqDiff, ne_eq, not_false_eq_true, upc] at e11
    refine Z_iconst hk dX4_takeName_14 ?_
    refine Z_icmp_eq hk (tgt := 29) dX4_takeName_15 (by decide) (by omega) (by omega) (by decide) (by decide) (fun h15 => ?_) (fun h15 => ?_)
    · refine Z_aload0 hk dX4_takeName_29 ?_
      refine Z_getI hk fl_4_37 dX4_takeName_30 ob_20.1 ob_20.2.1 ob_20.2.2.1 ob_20.2.2.2 ft_4_7 (fun v30 e30 a30 b30 => ?_)
      try simp only [e1, e11, and_true, true_and, or_true, true_or, implies_true, upn, reduceIte, Nat.reduceEqDiff, ne_eq, not_false_eq_true, upc] at e30
      refine Z_aload0 hk dX4_takeName_33 ?_
      refine Z_getI hk fl_4_71 dX4_takeName_34 ob_20.1 ob_20.2.1 ob_20.2.2.1 ob_20.2.2.2 ft_4_6 (fun v34 e34 a34 b34 => ?_)
      try simp only [e1, e11, e30, and_true, true_and, or_true, true_or, implies_true, upn, reduceIte, Nat.reduceEqDiff, ne_eq, not_false_eq_true, upc] at e34
      refine Z_isub hk dX4_takeName_37 ?_
      refine Z_bipush hk dX4_takeName_38 (by decide) ?_
      refine Z_icmp_le hk (tgt := 57) dX4_takeName_40 (by decide) (by omega) (by omega) (by decide) (by decide) (fun h40 => ?_) (fun h40 => ?_)
      · refine Z_lconst0 hk dX4_takeName_57 ?_
        refine Z_lstore1 hk rfl (by decide) dX4_takeName_58 ?_
        refine Z_aload0 hk dX4_takeName_59 ?_
        refine Z_getI hk fl_4_71 dX4_takeName_60 ob_20.1 ob_20.2.1 ob_20.2.2.1 ob_20.2.2.2 ft_4_6 (fun v60 e60 a60 b60 => ?_)
        try simp only [e1, e11, e30, e34, and_true, true_and, or_true, true_or, implies_true, upn, reduceIte, Nat.reduceEqDiff, ne_eq, not_false_eq_true, upc] at e60
        have J64 : ∀ (n : Nat) (x1_64 : Int) (x3_64 : Int), ((M 20 6) ≤ x3_64 ∧ x3_64 ≤ (M 20 7) ∧ -9223372036854775808 ≤ x1_64 ∧ x1_64 ≤ 9223372036854775807) → ((M 20 7) - x3_64) < (n : Int) → Zj κ δ ad rs Q 4 (121, 0, 0) 64 [some (.ref (ad 20)), some (jv x1_64), none, some (iv x3_64)] [] M := by
          intro n
          induction n with
          | zero => intro x1_64 x3_64 h64 hm64; exfalso; omega
          | succ n ih64 =>
            intro x1_64 x3_64 h64 hm64
            refine Z_iload3 hk dX4_takeName_64 ?_
            refine Z_aload0 hk dX4_takeName_65 ?_
            refine Z_getI hk fl_4_37 dX4_takeName_66 ob_20.1 ob_20.2.1 ob_20.2.2.1 ob_20.2.2.2 ft_4_7 (fun v66 e66 a66 b66 => ?_)
            try simp only [e1, e11, e30, e34, e60, and_true, true_and, or_true, true_or, implies_true, upn, reduceIte, Nat.reduceEqDiff, ne_eq, not_false_eq_true, upc] at e66
            refine Z_icmp_ge hk (tgt := 91) dX4_takeName_69 (by decide) (by omega) (by omega) (by omega) (by omega) (fun h69 => ?_) (fun h69 => ?_)
            · refine Z_aload0 hk dX4_takeName_91 ?_
              refine Z_Vv hk (c_X4_readToken κ.2.1 δ ad _ hA  hz (by (omega))) ov_X4_readToken ml_X4_40 dX4_takeName_92 rfl ⟨by decide, by decide⟩ ob_20.1 (by decide) (by decide) rfl (Nat.le_of_ble_eq_true rfl) (fun m92 p92 => ?_)
              obtain ⟨p92, f92_0, f92_1⟩ := p92
              try simp only [f92_0, f92_1, e1, e11, e30, e34, e60, e66, and_true, true_and, or_true, true_or, implies_true, upn, reduceIte, Nat.reduceEqDiff, ne_eq, not_false_eq_true, upc] at p92
              refine Z_lload1 hk dX4_takeName_95 ?_
              exact Z_lret hk hA hQ dX4_takeName_96 ⟨rfl, rfl, _, rfl, (by exact ⟨(by (try simp only [f92_0, f92_1, and_true, true_and, or_true, true_or, implies_true, upn, reduceIte, Nat.reduceEqDiff, ne_eq, not_false_eq_true, upc]) <;> (omega)), (by intro c k0; simp only [f92_0, f92_1, upc, upn, k0, reduceIte, Nat.reduceEqDiff, ne_eq, not_false_eq_true]), (by intro i k0 k1 k2 k3 k4 k5; simp only [f92_0, f92_1, upc, upn, k0, k1, k2, k3, k4, k5, reduceIte, Nat.reduceEqDiff, ne_eq, not_false_eq_true])⟩)⟩
            · refine Z_lload1 hk dX4_takeName_72 ?_
              refine Z_bipush hk dX4_takeName_73 (by decide) ?_
              refine Z_lshl hk dX4_takeName_75 (fun v75 e75 a75 b75 => ?_)
              refine Z_aload0 hk dX4_takeName_76 ?_
              refine Z_getR hk fl_4_9 dX4_takeName_77 ob_20.1 ob_20.2.1 ob_20.2.2.1 ob_20.2.2.2 ft_4_0 rs_20_0 ?_
              refine Z_iload3 hk dX4_takeName_80 ?_
              refine Z_cald hk dX4_takeName_81 ar_31.1 ar_31.2.1 ar_31.2.2 (by omega) (by omega) (fun v81 e81 a81 b81 => ?_)
              try simp only [e1, e11, e30, e34, e60, e66, and_true, true_and, or_true, true_or, implies_true, upn, reduceIte, Nat.reduceEqDiff, ne_eq, not_false_eq_true, upc] at e81
              refine Z_i2l hk dX4_takeName_82 (by omega) (by omega) ?_
              refine Z_lor hk dX4_takeName_83 (fun v83 e83 a83 b83 => ?_)
              refine Z_lstore1 hk rfl (by decide) dX4_takeName_84 ?_
              refine Z_iinc3 hk rfl (by decide) dX4_takeName_85 ?_
              refine Z_goto hk (tgt := 64) dX4_takeName_88 (by decide) ?_
              exact ih64 _ _ (by omega) (by (omega))
        refine Z_istore3 hk rfl (by decide) dX4_takeName_63 ?_
        exact J64 ((((M 20 7) - v60) : Int).toNat + 1) _ _ (by omega) (by omega)
      · refine Z_aload0 hk dX4_takeName_43 ?_
        refine Z_iconst hk dX4_takeName_44 ?_
        refine Z_aload0 hk dX4_takeName_45 ?_
        refine Z_getI hk fl_4_71 dX4_takeName_46 ob_20.1 ob_20.2.1 ob_20.2.2.1 ob_20.2.2.2 ft_4_6 (fun v46 e46 a46 b46 => ?_)
        try simp only [e1, e11, e30, e34, and_true, true_and, or_true, true_or, implies_true, upn, reduceIte, Nat.reduceEqDiff, ne_eq, not_false_eq_true, upc] at e46
        refine Z_bipush hk dX4_takeName_49 (by decide) ?_
        refine Z_iadd hk dX4_takeName_51 ?_
        refine Z_Vv hk (c_X4_fail κ.2.1 δ ad _ hA 1 (v46 + 6) (by (omega)) (by (omega))) ov_X4_fail ml_X4_74 dX4_takeName_52 rfl ⟨by decide, by decide⟩ ob_20.1 (by decide) (by decide) rfl (Nat.le_of_ble_eq_true rfl) (fun m52 p52 => ?_)
        obtain ⟨p52, f52_0, f52_1⟩ := p52
        try simp only [f52_0, f52_1, e1, e11, e30, e34, e46, and_true, true_and, or_true, true_or, implies_true, upn, reduceIte, Nat.reduceEqDiff, ne_eq, not_false_eq_true, upc] at p52
        refine Z_lconst0 hk dX4_takeName_55 ?_
        exact Z_lret hk hA hQ dX4_takeName_56 ⟨rfl, rfl, _, rfl, (by exact ⟨(by (try simp only [f52_0, f52_1, and_true, true_and, or_true, true_or, implies_true, upn, reduceIte, Nat.reduceEqDiff, ne_eq, not_false_eq_true, upc]) <;> (omega)), (by intro c k0; simp only [f52_0, f52_1, upc, upn, k0, reduceIte, Nat.reduceEqDiff, ne_eq, not_false_eq_true]), (by intro i k0 k1 k2 k3 k4 k5; simp only [f52_0, f52_1, upc, upn, k0, k1, k2, k3, k4, k5, reduceIte, Nat.reduceEqDiff, ne_eq, not_false_eq_true])⟩)⟩
    · exact J18 () (by trivial)
set_option maxRecDepth 10000 in
theorem c_X4_takeNewName (l : Launch) (δ : Dp) (ad : Nat → Nat) (M : Mem) (hA : okA δ ad) (hz : NS δ) (q0 : 0 ≤ (M 20 6) ∧ (M 20 6) ≤ (M 20 7) ∧ (M 20 7) ≤ (M 20 2) ∧ (M 20 2) ≤ 700) (qw : -1 ≤ (M 20 8) ∧ (M 20 8) ≤ 1000) (q1 : 0 ≤ M 21 0 ∧ M 21 0 ≤ 6 ∧ 0 ≤ M 21 1 ∧ M 21 1 ≤ 4 ∧ 0 ≤ M 21 2 ∧ M 21 2 ≤ 8 ∧ -1 ≤ M 21 5 ∧ M 21 5 ≤ 5 ∧ 0 ≤ M 21 6 ∧ M 21 6 ≤ 700) : Mj l δ yX4_takeNewName cX4_takeNewName 4 (some (.long)) 7 191 ad rs [.ref (ad 20)] M (fun r M' => (0 ≤ (M' 20 6) ∧ (M' 20 6) ≤ (M' 20 7) ∧ (M' 20 7) ≤ (M' 20 2) ∧ (M' 20 2) ≤ 700 ∧ -1 ≤ (M' 20 8) ∧ (M' 20 8) ≤ 1000 ∧ -9223372036854775808 ≤ r ∧ r ≤ 9223372036854775807) ∧ (∀ c : Nat, c ≠ 20 → M' c = M c) ∧ (∀ i : Nat, i ≠ 3 → i ≠ 4 → i ≠ 5 → i ≠ 6 → i ≠ 7 → i ≠ 8 → M' 20 i = M 20 i)) := by
  refine Mg.of (rm := rmN 7 191) (by decide) (Nat.le_of_ble_eq_true rfl) fun κ _ hk _ => ?_
  generalize hQ : Qg κ δ 121 (rmN 7 191).cells (rmN 7 191).slots _ = Q
  show Zj κ δ ad rs Q 4 (121, 0, 0) 0 [some (.ref (ad 20)), none, none, none] [] M
  refine Z_aload0 hk dX4_takeNewName_0 ?_
  refine Z_getI hk fl_4_71 dX4_takeNewName_1 ob_20.1 ob_20.2.1 ob_20.2.2.1 ob_20.2.2.2 ft_4_6 (fun v1 e1 a1 b1 => ?_)
  refine Z_istore1 hk rfl (by decide) dX4_takeNewName_4 ?_
  refine Z_aload0 hk dX4_takeNewName_5 ?_
  refine Z_Vj hk (c_X4_takeName κ.2.1 δ ad _ hA  hz (by (omega)) (by (omega))) ov_X4_takeName ml_X4_175 dX4_takeNewName_6 rfl ⟨by decide, by decide⟩ ob_20.1 (by decide) (by decide) rfl (Nat.le_of_ble_eq_true rfl) (fun r6 m6 p6 => ?_)
  obtain ⟨p6, f6_0, f6_1⟩ := p6
  try simp only [f6_0, f6_1, e1, and_true, true_and, or_true, true_or, implies_true, upn, reduceIte, Nat.reduceEqDiff, ne_eq, not_false_eq_true, upc] at p6
  refine Z_lstore2 hk rfl (by decide) dX4_takeNewName_9 ?_
  refine Z_aload0 hk dX4_takeNewName_10 ?_
  refine Z_getR hk fl_4_15 dX4_takeNewName_11 ob_20.1 ob_20.2.1 ob_20.2.2.1 ob_20.2.2.2 ft_4_1 rs_20_1 ?_
  refine Z_lload2 hk dX4_takeNewName_14 ?_
  refine Z_Vi hk (c_X3_hasName_p21 κ.2.1 δ ad _ hA r6 (by (try simp only [f6_0, f6_1, and_true, true_and, or_true, true_or, implies_true, upn, reduceIte, Nat.reduceEqDiff, ne_eq, not_false_eq_true, upc]) <;> (omega)) (by (try simp only [f6_0, f6_1, and_true, true_and, or_true, true_or, implies_true, upn, reduceIte, Nat.reduceEqDiff, ne_eq, not_false_eq_true, upc]) <;> (omega))) ov_X3_hasName ml_X4_178 dX4_takeNewName_15 rfl ⟨by decide, by decide⟩ ob_21.1 (by decide) (by decide) rfl (Nat.le_of_ble_eq_true rfl) (fun r15 m15 p15 => ?_)
  obtain ⟨rfl, p15⟩ := p15
  try simp only [f6_0, f6_1, e1, and_true, true_and, or_true, true_or, implies_true, upn, reduceIte, Nat.reduceEqDiff, ne_eq, not_false_eq_true, upc] at p15
  refine Z_if_eq hk (tgt := 27) dX4_takeNewName_18 (by decide) (by omega) (by omega) (fun h18 => ?_) (fun h18 => ?_)
  · refine Z_lload2 hk dX4_takeNewName_27 ?_
    exact Z_lret hk hA hQ dX4_takeNewName_28 ⟨rfl, rfl, _, rfl, (by exact ⟨(by (try simp only [f6_0, f6_1, and_true, true_and, or_true, true_or, implies_true, upn, reduceIte, Nat.reduceEqDiff, ne_eq, not_false_eq_true, upc]) <;> (omega)), (by intro c k0; simp only [f6_0, f6_1, upc, upn, k0, reduceIte, Nat.reduceEqDiff, ne_eq, not_false_eq_true]), (by intro i k0 k1 k2 k3 k4 k5; simp only [f6_0, f6_1, upc, upn, k0, k1, k2, k3, k4, k5, reduceIte, Nat.reduceEqDiff, ne_eq, not_false_eq_true])⟩)⟩
  · refine Z_aload0 hk dX4_takeNewName_21 ?_
    refine Z_iconst hk dX4_takeNewName_22 ?_
    refine Z_iload1 hk dX4_takeNewName_23 ?_
    refine Z_Vv hk (c_X4_fail κ.2.1 δ ad _ hA 3 v1 (by (try simp only [f6_0, f6_1, and_true, true_and, or_true, true_or, implies_true, upn, reduceIte, Nat.reduceEqDiff, ne_eq, not_false_eq_true, upc]) <;> (omega)) (by (try simp only [f6_0, f6_1, and_true, true_and, or_true, true_or, implies_true, upn, reduceIte, Nat.reduceEqDiff, ne_eq, not_false_eq_true, upc]) <;> (omega))) ov_X4_fail ml_X4_74 dX4_takeNewName_24 rfl ⟨by decide, by decide⟩ ob_20.1 (by decide) (by decide) rfl (Nat.le_of_ble_eq_true rfl) (fun m24 p24 => ?_)
    obtain ⟨p24, f24_0, f24_1⟩ := p24
    try simp only [f24_0, f24_1, f6_0, f6_1, e1, and_true, true_and, or_true, true_or, implies_true, upn, reduceIte, Nat.reduceEqDiff, ne_eq, not_false_eq_true, upc] at p24
    refine Z_lload2 hk dX4_takeNewName_27 ?_
    exact Z_lret hk hA hQ dX4_takeNewName_28 ⟨rfl, rfl, _, rfl, (by exact ⟨(by (try simp only [f24_0, f24_1, f6_0, f6_1, and_true, true_and, or_true, true_or, implies_true, upn, reduceIte, Nat.reduceEqDiff, ne_eq, not_false_eq_true, upc]) <;> (omega)), (by intro c k0; simp only [f24_0, f24_1, f6_0, f6_1, upc, upn, k0, reduceIte, Nat.reduceEqDiff, ne_eq, not_false_eq_true]), (by intro i k0 k1 k2 k3 k4 k5; simp only [f24_0, f24_1, f6_0, f6_1, upc, upn, k0, k1, k2, k3, k4, k5, reduceIte, Nat.reduceEqDiff, ne_eq, not_false_eq_true])⟩)⟩
set_option maxRecDepth 10000 in
theorem c_X4_takeProduct (l : Launch) (δ : Dp) (ad : Nat → Nat) (M : Mem) (hA : okA δ ad) (u : Int) (hz : NS δ) (q0 : 0 ≤ (M 20 6) ∧ (M 20 6) ≤ (M 20 7) ∧ (M 20 7) ≤ (M 20 2) ∧ (M 20 2) ≤ 700) (qw : -1 ≤ (M 20 8) ∧ (M 20 8) ≤ 1000) (q1 : 0 ≤ M 21 0 ∧ M 21 0 ≤ 6 ∧ 0 ≤ M 21 1 ∧ M 21 1 ≤ 4 ∧ 0 ≤ M 21 2 ∧ M 21 2 ≤ 8 ∧ -1 ≤ M 21 5 ∧ M 21 5 ≤ 5 ∧ 0 ≤ M 21 6 ∧ M 21 6 ≤ 700) (i_u : -2147483648 ≤ u ∧ u ≤ 2147483647) : Mi l δ yX4_takeProduct cX4_takeProduct 4 (some (.int)) 7 191 ad rs [.ref (ad 20), iv u] M (fun r M' => (0 ≤ (M' 20 6) ∧ (M' 20 6) ≤ (M' 20 7) ∧ (M' 20 7) ≤ (M' 20 2) ∧ (M' 20 2) ≤ 700 ∧ -1 ≤ (M' 20 8) ∧ (M' 20 8) ≤ 1000 ∧ 0 ≤ r ∧ r ≤ 5) ∧ (∀ c : Nat, c ≠ 20 → M' c = M c) ∧ (∀ i : Nat, i ≠ 3 → i ≠ 4 → i ≠ 5 → i ≠ 6 → i ≠ 7 → i ≠ 8 → M' 20 i = M 20 i)) := by
  refine Mg.of (rm := rmN 7 191) (by decide) (Nat.le_of_ble_eq_true rfl) fun κ _ hk _ => ?_
  generalize hQ : Qg κ δ 121 (rmN 7 191).cells (rmN 7 191).slots _ = Q
  show Zj κ δ ad rs Q 4 (121, 0, 0) 0 [some (.ref (ad 20)), some (iv u), none, none] [] M
  refine Z_aload0 hk dX4_takeProduct_0 ?_
  refine Z_getI hk fl_4_71 dX4_takeProduct_1 ob_20.1 ob_20.2.1 ob_20.2.2.1 ob_20.2.2.2 ft_4_6 (fun v1 e1 a1 b1 => ?_)
  refine Z_istore2 hk rfl (by decide) dX4_takeProduct_4 ?_
  refine Z_aload0 hk dX4_takeProduct_5 ?_
  refine Z_getR hk fl_4_15 dX4_takeProduct_6 ob_20.1 ob_20.2.1 ob_20.2.2.1 ob_20.2.2.2 ft_4_1 rs_20_1 ?_
  refine Z_aload0 hk dX4_takeProduct_9 ?_
  refine Z_Vj hk (c_X4_takeName κ.2.1 δ ad _ hA  hz (by (omega)) (by (omega))) ov_X4_takeName ml_X4_175 dX4_takeProduct_10 rfl ⟨by decide, by decide⟩ ob_20.1 (by decide) (by decide) rfl (Nat.le_of_ble_eq_true rfl) (fun r10 m10 p10 => ?_)
  obtain ⟨p10, f10_0, f10_1⟩ := p10
  try simp only [f10_0, f10_1, e1, and_true, true_and, or_true, true_or, implies_true, upn, reduceIte, Nat.reduceEqDiff, ne_eq, not_false_eq_true, upc] at p10
  refine Z_Vi hk (c_X3_productNamed_p21 κ.2.1 δ ad _ hA r10 (by (try simp only [f10_0, f10_1, and_true, true_and, or_true, true_or, implies_true, upn, reduceIte, Nat.reduceEqDiff, ne_eq, not_false_eq_true, upc]) <;> (omega)) (by (try simp only [f10_0, f10_1, and_true, true_and, or_true, true_or, implies_true, upn, reduceIte, Nat.reduceEqDiff, ne_eq, not_false_eq_true, upc]) <;> (omega))) ov_X3_productNamed ml_X4_182 dX4_takeProduct_13 rfl ⟨by decide, by decide⟩ ob_21.1 (by decide) (by decide) rfl (Nat.le_of_ble_eq_true rfl) (fun r13 m13 p13 => ?_)
  obtain ⟨rfl, p13⟩ := p13
  try simp only [f10_0, f10_1, e1, and_true, true_and, or_true, true_or, implies_true, upn, reduceIte, Nat.reduceEqDiff, ne_eq, not_false_eq_true, upc] at p13
  refine Z_istore3 hk rfl (by decide) dX4_takeProduct_16 ?_
  refine Z_iload3 hk dX4_takeProduct_17 ?_
  refine Z_iconst hk dX4_takeProduct_18 ?_
  have J27 : ∀ (_ : Unit), (True) → Zj κ δ ad rs Q 4 (121, 0, 0) 27 [some (.ref (ad 20)), some (iv u), some (iv v1), some (iv r13)] [] m10 := by
    intro _ h27
    try simp only [f10_0, f10_1, and_true, true_and, or_true, true_or, implies_true, upn, reduceIte, Nat.reduceEqDiff, ne_eq, not_false_eq_true, upc] at h27
    refine Z_aload0 hk dX4_takeProduct_27 ?_
    refine Z_iconst hk dX4_takeProduct_28 ?_
    refine Z_iload2 hk dX4_takeProduct_29 ?_
    refine Z_Vv hk (c_X4_fail κ.2.1 δ ad _ hA 3 v1 (by (try simp only [f10_0, f10_1, and_true, true_and, or_true, true_or, implies_true, upn, reduceIte, Nat.reduceEqDiff, ne_eq, not_false_eq_true, upc]) <;> (omega)) (by (try simp only [f10_0, f10_1, and_true, true_and, or_true, true_or, implies_true, upn, reduceIte, Nat.reduceEqDiff, ne_eq, not_false_eq_true, upc]) <;> (omega))) ov_X4_fail ml_X4_74 dX4_takeProduct_30 rfl ⟨by decide, by decide⟩ ob_20.1 (by decide) (by decide) rfl (Nat.le_of_ble_eq_true rfl) (fun m30 p30 => ?_)
    obtain ⟨p30, f30_0, f30_1⟩ := p30
    try simp only [f30_0, f30_1, f10_0, f10_1, e1, and_true, true_and, or_true, true_or, implies_true, upn, reduceIte, Nat.reduceEqDiff, ne_eq, not_false_eq_true, upc] at p30
    refine Z_iconst hk dX4_takeProduct_33 ?_
    exact Z_iret hk hA hQ dX4_takeProduct_34 ⟨rfl, rfl, _, rfl, (by exact ⟨(by (try simp only [f30_0, f30_1, f10_0, f10_1, and_true, true_and, or_true, true_or, implies_true, upn, reduceIte, Nat.reduceEqDiff, ne_eq, not_false_eq_true, upc]) <;> (omega)), (by intro c k0; simp only [f30_0, f30_1, f10_0, f10_1, upc, upn, k0, reduceIte, Nat.reduceEqDiff, ne_eq, not_false_eq_true]), (by intro i k0 k1 k2 k3 k4 k5; simp only [f30_0, f30_1, f10_0, f10_1, upc, upn, k0, k1, k2, k3, k4, k5, reduceIte, Nat.reduceEqDiff, ne_eq, not_false_eq_true])⟩)⟩
  refine Z_icmp_eq hk (tgt := 27) dX4_takeProduct_19 (by decide) (by omega) (by omega) (by decide) (by decide) (fun h19 => ?_) (fun h19 => ?_)
  · exact J27 () (by trivial)
  · refine Z_iload3 hk dX4_takeProduct_22 ?_
    refine Z_iload1 hk dX4_takeProduct_23 ?_
    refine Z_icmp_ne hk (tgt := 35) dX4_takeProduct_24 (by decide) (by omega) (by omega) (by omega) (by omega) (fun h24 => ?_) (fun h24 => ?_)
    · refine Z_iload3 hk dX4_takeProduct_35 ?_
      exact Z_iret hk hA hQ dX4_takeProduct_36 ⟨rfl, rfl, _, rfl, (by exact ⟨(by (try simp only [f10_0, f10_1, and_true, true_and, or_true, true_or, implies_true, upn, reduceIte, Nat.reduceEqDiff, ne_eq, not_false_eq_true, upc]) <;> (omega)), (by intro c k0; simp only [f10_0, f10_1, upc, upn, k0, reduceIte, Nat.reduceEqDiff, ne_eq, not_false_eq_true]), (by intro i k0 k1 k2 k3 k4 k5; simp only [f10_0, f10_1, upc, upn, k0, k1, k2, k3, k4, k5, reduceIte, Nat.reduceEqDiff, ne_eq, not_false_eq_true])⟩)⟩
    · exact J27 () (by trivial)
set_option maxRecDepth 10000 in
theorem c_X4_readProduct (l : Launch) (δ : Dp) (ad : Nat → Nat) (M : Mem) (hA : okA δ ad) (hz : NS δ) (q0 : 0 ≤ (M 20 6) ∧ (M 20 6) ≤ (M 20 7) ∧ (M 20 7) ≤ (M 20 2) ∧ (M 20 2) ≤ 700) (qw : -1 ≤ (M 20 8) ∧ (M 20 8) ≤ 1000) (q1 : 0 ≤ M 21 0 ∧ M 21 0 ≤ 6 ∧ 0 ≤ M 21 1 ∧ M 21 1 ≤ 4 ∧ 0 ≤ M 21 2 ∧ M 21 2 ≤ 8 ∧ -1 ≤ M 21 5 ∧ M 21 5 ≤ 5 ∧ 0 ≤ M 21 6 ∧ M 21 6 ≤ 700) : Mv l δ yX4_readProduct cX4_readProduct 3 none 8 214 ad rs [.ref (ad 20)] M (fun M' => (0 ≤ (M' 20 6) ∧ (M' 20 6) ≤ (M' 20 7) ∧ (M' 20 7) ≤ (M' 20 2) ∧ (M' 20 2) ≤ 700 ∧ -1 ≤ (M' 20 8) ∧ (M' 20 8) ≤ 1000 ∧ 0 ≤ M' 21 0 ∧ M' 21 0 ≤ 6 ∧ 0 ≤ M' 21 1 ∧ M' 21 1 ≤ 4 ∧ 0 ≤ M' 21 2 ∧ M' 21 2 ≤ 8 ∧ -1 ≤ M' 21 5 ∧ M' 21 5 ≤ 5 ∧ 0 ≤ M' 21 6 ∧ M' 21 6 ≤ 700) ∧ (∀ c : Nat, c ≠ 20 → c ≠ 21 → c ≠ 22 → M' c = M c) ∧ (∀ i : Nat, i ≠ 3 → i ≠ 4 → i ≠ 5 → i ≠ 6 → i ≠ 7 → i ≠ 8 → M' 20 i = M 20 i) ∧ (∀ i : Nat, i ≠ 0 → M' 21 i = M 21 i)) := by
  refine Mg.of (rm := rmN 8 214) (by decide) (Nat.le_of_ble_eq_true rfl) fun κ _ hk _ => ?_
  generalize hQ : Qg κ δ 121 (rmN 8 214).cells (rmN 8 214).slots _ = Q
  show Zj κ δ ad rs Q 3 (121, 0, 0) 0 [some (.ref (ad 20)), none, none] [] M
  refine Z_aload0 hk dX4_readProduct_0 ?_
  refine Z_aload0 hk dX4_readProduct_1 ?_
  refine Z_getR hk fl_4_15 dX4_readProduct_2 ob_20.1 ob_20.2.1 ob_20.2.2.1 ob_20.2.2.2 ft_4_1 rs_20_1 ?_
  refine Z_getI hk fl_4_82 dX4_readProduct_5 ob_21.1 ob_21.2.1 ob_21.2.2.1 ob_21.2.2.2 ft_3_0 (fun v5 e5 a5 b5 => ?_)
  refine Z_bipush hk dX4_readProduct_8 (by decide) ?_
  refine Z_Vv hk (c_X4_refuseMore κ.2.1 δ ad _ hA v5 6 (by (omega)) (by (omega))) ov_X4_refuseMore ml_X4_85 dX4_readProduct_10 rfl ⟨by decide, by decide⟩ ob_20.1 (by decide) (by decide) rfl (Nat.le_of_ble_eq_true rfl) (fun m10 p10 => ?_)
  obtain ⟨p10, f10_0, f10_1⟩ := p10
  try simp only [f10_0, f10_1, e5, and_true, true_and, or_true, true_or, implies_true, upn, reduceIte, Nat.reduceEqDiff, ne_eq, not_false_eq_true, upc] at p10
  refine Z_aload0 hk dX4_readProduct_13 ?_
  refine Z_Vv hk (c_X4_readToken κ.2.1 δ ad _ hA  hz (by (try simp only [f10_0, f10_1, and_true, true_and, or_true, true_or, implies_true, upn, reduceIte, Nat.reduceEqDiff, ne_eq, not_false_eq_true, upc]) <;> (omega))) ov_X4_readToken ml_X4_40 dX4_readProduct_14 rfl ⟨by decide, by decide⟩ ob_20.1 (by decide) (by decide) rfl (Nat.le_of_ble_eq_true rfl) (fun m14 p14 => ?_)
  obtain ⟨p14, f14_0, f14_1⟩ := p14
  try simp only [f14_0, f14_1, f10_0, f10_1, e5, and_true, true_and, or_true, true_or, implies_true, upn, reduceIte, Nat.reduceEqDiff, ne_eq, not_false_eq_true, upc] at p14
  refine Z_aload0 hk dX4_readProduct_17 ?_
  refine Z_Vj hk (c_X4_takeNewName κ.2.1 δ ad _ hA  hz (by (try simp only [f14_0, f14_1, f10_0, f10_1, and_true, true_and, or_true, true_or, implies_true, upn, reduceIte, Nat.reduceEqDiff, ne_eq, not_false_eq_true, upc]) <;> (omega)) (by (try simp only [f14_0, f14_1, f10_0, f10_1, and_true, true_and, or_true, true_or, implies_true, upn, reduceIte, Nat.reduceEqDiff, ne_eq, not_false_eq_true, upc]) <;> (omega)) (by (try simp only [f14_0, f14_1, f10_0, f10_1, and_true, true_and, or_true, true_or, implies_true, upn, reduceIte, Nat.reduceEqDiff, ne_eq, not_false_eq_true, upc]) <;> (omega))) ov_X4_takeNewName ml_X4_88 dX4_readProduct_18 rfl ⟨by decide, by decide⟩ ob_20.1 (by decide) (by decide) rfl (Nat.le_of_ble_eq_true rfl) (fun r18 m18 p18 => ?_)
  obtain ⟨p18, f18_0, f18_1⟩ := p18
  try simp only [f18_0, f18_1, f14_0, f14_1, f10_0, f10_1, e5, and_true, true_and, or_true, true_or, implies_true, upn, reduceIte, Nat.reduceEqDiff, ne_eq, not_false_eq_true, upc] at p18
  refine Z_lstore1 hk rfl (by decide) dX4_readProduct_21 ?_
  refine Z_aload0 hk dX4_readProduct_22 ?_
  refine Z_getI hk fl_4_23 dX4_readProduct_23 ob_20.1 ob_20.2.1 ob_20.2.2.1 ob_20.2.2.2 ft_4_3 (fun v23 e23 a23 b23 => ?_)
  try simp only [f18_0, f18_1, f14_0, f14_1, f10_0, f10_1, e5, and_true, true_and, or_true, true_or, implies_true, upn, reduceIte, Nat.reduceEqDiff, ne_eq, not_false_eq_true, upc] at e23
  refine Z_if_ne hk (tgt := 37) dX4_readProduct_26 (by decide) (by omega) (by omega) (fun h26 => ?_) (fun h26 => ?_)
  · exact Z_vret hk hA hQ dX4_readProduct_37 ⟨rfl, rfl, rfl, (by exact ⟨(by (try simp only [f18_0, f18_1, f14_0, f14_1, f10_0, f10_1, and_true, true_and, or_true, true_or, implies_true, upn, reduceIte, Nat.reduceEqDiff, ne_eq, not_false_eq_true, upc]) <;> (omega)), (by intro c k0 k1 k2; simp only [f18_0, f18_1, f14_0, f14_1, f10_0, f10_1, upc, upn, k0, k1, k2, reduceIte, Nat.reduceEqDiff, ne_eq, not_false_eq_true]), (by intro i k0 k1 k2 k3 k4 k5; simp only [f18_0, f18_1, f14_0, f14_1, f10_0, f10_1, upc, upn, k0, k1, k2, k3, k4, k5, reduceIte, Nat.reduceEqDiff, ne_eq, not_false_eq_true]), (by intro i k0; simp only [f18_0, f18_1, f14_0, f14_1, f10_0, f10_1, upc, upn, k0, reduceIte, Nat.reduceEqDiff, ne_eq, not_false_eq_true])⟩)⟩
  · refine Z_aload0 hk dX4_readProduct_29 ?_
    refine Z_getR hk fl_4_15 dX4_readProduct_30 ob_20.1 ob_20.2.1 ob_20.2.2.1 ob_20.2.2.2 ft_4_1 rs_20_1 ?_
    refine Z_lload1 hk dX4_readProduct_33 ?_
    refine Z_Vv hk (c_X3_addProduct_p21 κ.2.1 δ ad _ hA r18 (by (try simp only [f18_0, f18_1, f14_0, f14_1, f10_0, f10_1, and_true, true_and, or_true, true_or, implies_true, upn, reduceIte, Nat.reduceEqDiff, ne_eq, not_false_eq_true, upc]) <;> (omega)) (by (try simp only [f18_0, f18_1, f14_0, f14_1, f10_0, f10_1, and_true, true_and, or_true, true_or, implies_true, upn, reduceIte, Nat.reduceEqDiff, ne_eq, not_false_eq_true, upc]) <;> (omega))) ov_X3_addProduct ml_X4_92 dX4_readProduct_34 rfl ⟨by decide, by decide⟩ ob_21.1 (by decide) (by decide) rfl (Nat.le_of_ble_eq_true rfl) (fun m34 p34 => ?_)
    obtain ⟨p34, f34_0, f34_1⟩ := p34
    try simp only [f34_0, f34_1, f18_0, f18_1, f14_0, f14_1, f10_0, f10_1, e5, e23, and_true, true_and, or_true, true_or, implies_true, upn, reduceIte, Nat.reduceEqDiff, ne_eq, not_false_eq_true, upc] at p34
    exact Z_vret hk hA hQ dX4_readProduct_37 ⟨rfl, rfl, rfl, (by exact ⟨(by (try simp only [f34_0, f34_1, f18_0, f18_1, f14_0, f14_1, f10_0, f10_1, and_true, true_and, or_true, true_or, implies_true, upn, reduceIte, Nat.reduceEqDiff, ne_eq, not_false_eq_true, upc]) <;> (omega)), (by intro c k0 k1 k2; simp only [f34_0, f34_1, f18_0, f18_1, f14_0, f14_1, f10_0, f10_1, upc, upn, k0, k1, k2, reduceIte, Nat.reduceEqDiff, ne_eq, not_false_eq_true]), (by intro i k0 k1 k2 k3 k4 k5; simp only [f34_0, f34_1, f18_0, f18_1, f14_0, f14_1, f10_0, f10_1, upc, upn, k0, k1, k2, k3, k4, k5, reduceIte, Nat.reduceEqDiff, ne_eq, not_false_eq_true]), (by intro i k0; simp only [f34_0, f34_1, f18_0, f18_1, f14_0, f14_1, f10_0, f10_1, upc, upn, k0, reduceIte, Nat.reduceEqDiff, ne_eq, not_false_eq_true])⟩)⟩
set_option maxRecDepth 10000 in
theorem c_X4_readTrial (l : Launch) (δ : Dp) (ad : Nat → Nat) (M : Mem) (hA : okA δ ad) (z : Int) (hz : NS δ) (q0 : 0 ≤ (M 20 6) ∧ (M 20 6) ≤ (M 20 7) ∧ (M 20 7) ≤ (M 20 2) ∧ (M 20 2) ≤ 700) (qw : -1 ≤ (M 20 8) ∧ (M 20 8) ≤ 1000) (q1 : 0 ≤ M 21 0 ∧ M 21 0 ≤ 6 ∧ 0 ≤ M 21 1 ∧ M 21 1 ≤ 4 ∧ 0 ≤ M 21 2 ∧ M 21 2 ≤ 8 ∧ -1 ≤ M 21 5 ∧ M 21 5 ≤ 5 ∧ 0 ≤ M 21 6 ∧ M 21 6 ≤ 700) (q2 : LK (M 24)) (qz : 0 ≤ z ∧ z ≤ 1) : Mv l δ yX4_readTrial cX4_readTrial 3 none 8 214 ad rs [.ref (ad 20), iv z] M (fun M' => (0 ≤ (M' 20 6) ∧ (M' 20 6) ≤ (M' 20 7) ∧ (M' 20 7) ≤ (M' 20 2) ∧ (M' 20 2) ≤ 700 ∧ -1 ≤ (M' 20 8) ∧ (M' 20 8) ≤ 1000 ∧ 0 ≤ M' 21 0 ∧ M' 21 0 ≤ 6 ∧ 0 ≤ M' 21 1 ∧ M' 21 1 ≤ 4 ∧ 0 ≤ M' 21 2 ∧ M' 21 2 ≤ 8 ∧ -1 ≤ M' 21 5 ∧ M' 21 5 ≤ 5 ∧ 0 ≤ M' 21 6 ∧ M' 21 6 ≤ 700) ∧ (∀ c : Nat, c ≠ 20 → c ≠ 21 → c ≠ 23 → c ≠ 24 → M' c = M c) ∧ (∀ i : Nat, i ≠ 3 → i ≠ 4 → i ≠ 5 → i ≠ 6 → i ≠ 7 → i ≠ 8 → M' 20 i = M 20 i) ∧ (∀ i : Nat, i ≠ 1 → M' 21 i = M 21 i) ∧ (LK (M' 24))) := by
  refine Mg.of (rm := rmN 8 214) (by decide) (Nat.le_of_ble_eq_true rfl) fun κ _ hk _ => ?_
  generalize hQ : Qg κ δ 121 (rmN 8 214).cells (rmN 8 214).slots _ = Q
  show Zj κ δ ad rs Q 3 (121, 0, 0) 0 [some (.ref (ad 20)), some (iv z), none] [] M
  refine Z_aload0 hk dX4_readTrial_0 ?_
  refine Z_aload0 hk dX4_readTrial_1 ?_
  refine Z_getR hk fl_4_15 dX4_readTrial_2 ob_20.1 ob_20.2.1 ob_20.2.2.1 ob_20.2.2.2 ft_4_1 rs_20_1 ?_
  refine Z_getI hk fl_4_96 dX4_readTrial_5 ob_21.1 ob_21.2.1 ob_21.2.2.1 ob_21.2.2.2 ft_3_1 (fun v5 e5 a5 b5 => ?_)
  refine Z_iconst hk dX4_readTrial_8 ?_
  refine Z_Vv hk (c_X4_refuseMore κ.2.1 δ ad _ hA v5 4 (by (omega)) (by (omega))) ov_X4_refuseMore ml_X4_85 dX4_readTrial_9 rfl ⟨by decide, by decide⟩ ob_20.1 (by decide) (by decide) rfl (Nat.le_of_ble_eq_true rfl) (fun m9 p9 => ?_)
  obtain ⟨p9, f9_0, f9_1⟩ := p9
  try simp only [f9_0, f9_1, e5, and_true, true_and, or_true, true_or, implies_true, upn, reduceIte, Nat.reduceEqDiff, ne_eq, not_false_eq_true, upc] at p9
  refine Z_aload0 hk dX4_readTrial_12 ?_
  refine Z_Vv hk (c_X4_readToken κ.2.1 δ ad _ hA  hz (by (try simp only [f9_0, f9_1, and_true, true_and, or_true, true_or, implies_true, upn, reduceIte, Nat.reduceEqDiff, ne_eq, not_false_eq_true, upc]) <;> (omega))) ov_X4_readToken ml_X4_40 dX4_readTrial_13 rfl ⟨by decide, by decide⟩ ob_20.1 (by decide) (by decide) rfl (Nat.le_of_ble_eq_true rfl) (fun m13 p13 => ?_)
  obtain ⟨p13, f13_0, f13_1⟩ := p13
  try simp only [f13_0, f13_1, f9_0, f9_1, e5, and_true, true_and, or_true, true_or, implies_true, upn, reduceIte, Nat.reduceEqDiff, ne_eq, not_false_eq_true, upc] at p13
  refine Z_aload0 hk dX4_readTrial_16 ?_
  refine Z_iconst hk dX4_readTrial_17 ?_
  refine Z_Vi hk (c_X4_takeProduct κ.2.1 δ ad _ hA (-1) hz (by (try simp only [f13_0, f13_1, f9_0, f9_1, and_true, true_and, or_true, true_or, implies_true, upn, reduceIte, Nat.reduceEqDiff, ne_eq, not_false_eq_true, upc]) <;> (omega)) (by (try simp only [f13_0, f13_1, f9_0, f9_1, and_true, true_and, or_true, true_or, implies_true, upn, reduceIte, Nat.reduceEqDiff, ne_eq, not_false_eq_true, upc]) <;> (omega)) (by (try simp only [f13_0, f13_1, f9_0, f9_1, and_true, true_and, or_true, true_or, implies_true, upn, reduceIte, Nat.reduceEqDiff, ne_eq, not_false_eq_true, upc]) <;> (omega)) (by (try simp only [f13_0, f13_1, f9_0, f9_1, and_true, true_and, or_true, true_or, implies_true, upn, reduceIte, Nat.reduceEqDiff, ne_eq, not_false_eq_true, upc]) <;> (omega))) ov_X4_takeProduct ml_X4_99 dX4_readTrial_18 rfl ⟨by decide, by decide⟩ ob_20.1 (by decide) (by decide) rfl (Nat.le_of_ble_eq_true rfl) (fun r18 m18 p18 => ?_)
  obtain ⟨p18, f18_0, f18_1⟩ := p18
  try simp only [f18_0, f18_1, f13_0, f13_1, f9_0, f9_1, e5, and_true, true_and, or_true, true_or, implies_true, upn, reduceIte, Nat.reduceEqDiff, ne_eq, not_false_eq_true, upc] at p18
  refine Z_istore2 hk rfl (by decide) dX4_readTrial_21 ?_
  refine Z_aload0 hk dX4_readTrial_22 ?_
  refine Z_iconst hk dX4_readTrial_23 ?_
  refine Z_Vv hk (c_X4_expectWord κ.2.1 δ ad _ hA 2 hz (by (try simp only [f18_0, f18_1, f13_0, f13_1, f9_0, f9_1, and_true, true_and, or_true, true_or, implies_true, upn, reduceIte, Nat.reduceEqDiff, ne_eq, not_false_eq_true, upc]) <;> (omega)) (by (try simp only [f18_0, f18_1, f13_0, f13_1, f9_0, f9_1, and_true, true_and, or_true, true_or, implies_true, upn, reduceIte, Nat.reduceEqDiff, ne_eq, not_false_eq_true, upc]) <;> (omega)) (by (try simp only [f18_0, f18_1, f13_0, f13_1, f9_0, f9_1, and_true, true_and, or_true, true_or, implies_true, upn, reduceIte, Nat.reduceEqDiff, ne_eq, not_false_eq_true, upc]) <;> (omega))) ov_X4_expectWord ml_X4_103 dX4_readTrial_24 rfl ⟨by decide, by decide⟩ ob_20.1 (by decide) (by decide) rfl (Nat.le_of_ble_eq_true rfl) (fun m24 p24 => ?_)
  obtain ⟨p24, f24_0, f24_1⟩ := p24
  try simp only [f24_0, f24_1, f18_0, f18_1, f13_0, f13_1, f9_0, f9_1, e5, and_true, true_and, or_true, true_or, implies_true, upn, reduceIte, Nat.reduceEqDiff, ne_eq, not_false_eq_true, upc] at p24
  refine Z_aload0 hk dX4_readTrial_27 ?_
  refine Z_iload2 hk dX4_readTrial_28 ?_
  refine Z_Vi hk (c_X4_takeProduct κ.2.1 δ ad _ hA r18 hz (by (try simp only [f24_0, f24_1, f18_0, f18_1, f13_0, f13_1, f9_0, f9_1, and_true, true_and, or_true, true_or, implies_true, upn, reduceIte, Nat.reduceEqDiff, ne_eq, not_false_eq_true, upc]) <;> (omega)) (by (try simp only [f24_0, f24_1, f18_0, f18_1, f13_0, f13_1, f9_0, f9_1, and_true, true_and, or_true, true_or, implies_true, upn, reduceIte, Nat.reduceEqDiff, ne_eq, not_false_eq_true, upc]) <;> (omega)) (by (try simp only [f24_0, f24_1, f18_0, f18_1, f13_0, f13_1, f9_0, f9_1, and_true, true_and, or_true, true_or, implies_true, upn, reduceIte, Nat.reduceEqDiff, ne_eq, not_false_eq_true, upc]) <;> (omega)) (by (try simp only [f24_0, f24_1, f18_0, f18_1, f13_0, f13_1, f9_0, f9_1, and_true, true_and, or_true, true_or, implies_true, upn, reduceIte, Nat.reduceEqDiff, ne_eq, not_false_eq_true, upc]) <;> (omega))) ov_X4_takeProduct ml_X4_99 dX4_readTrial_29 rfl ⟨by decide, by decide⟩ ob_20.1 (by decide) (by decide) rfl (Nat.le_of_ble_eq_true rfl) (fun r29 m29 p29 => ?_)
  obtain ⟨p29, f29_0, f29_1⟩ := p29
  try simp only [f29_0, f29_1, f24_0, f24_1, f18_0, f18_1, f13_0, f13_1, f9_0, f9_1, e5, and_true, true_and, or_true, true_or, implies_true, upn, reduceIte, Nat.reduceEqDiff, ne_eq, not_false_eq_true, upc] at p29
  refine Z_pop1 hk rfl dX4_readTrial_32 ?_
  refine Z_aload0 hk dX4_readTrial_33 ?_
  refine Z_getI hk fl_4_23 dX4_readTrial_34 ob_20.1 ob_20.2.1 ob_20.2.2.1 ob_20.2.2.2 ft_4_3 (fun v34 e34 a34 b34 => ?_)
  try simp only [f29_0, f29_1, f24_0, f24_1, f18_0, f18_1, f13_0, f13_1, f9_0, f9_1, e5, and_true, true_and, or_true, true_or, implies_true, upn, reduceIte, Nat.reduceEqDiff, ne_eq, not_false_eq_true, upc] at e34
  refine Z_if_ne hk (tgt := 48) dX4_readTrial_37 (by decide) (by omega) (by omega) (fun h37 => ?_) (fun h37 => ?_)
  · exact Z_vret hk hA hQ dX4_readTrial_48 ⟨rfl, rfl, rfl, (by exact ⟨(by (try simp only [f29_0, f29_1, f24_0, f24_1, f18_0, f18_1, f13_0, f13_1, f9_0, f9_1, and_true, true_and, or_true, true_or, implies_true, upn, reduceIte, Nat.reduceEqDiff, ne_eq, not_false_eq_true, upc]) <;> (omega)), (by intro c k0 k1 k2 k3; simp only [f29_0, f29_1, f24_0, f24_1, f18_0, f18_1, f13_0, f13_1, f9_0, f9_1, upc, upn, k0, k1, k2, k3, reduceIte, Nat.reduceEqDiff, ne_eq, not_false_eq_true]), (by intro i k0 k1 k2 k3 k4 k5; simp only [f29_0, f29_1, f24_0, f24_1, f18_0, f18_1, f13_0, f13_1, f9_0, f9_1, upc, upn, k0, k1, k2, k3, k4, k5, reduceIte, Nat.reduceEqDiff, ne_eq, not_false_eq_true]), (by intro i k0; simp only [f29_0, f29_1, f24_0, f24_1, f18_0, f18_1, f13_0, f13_1, f9_0, f9_1, upc, upn, k0, reduceIte, Nat.reduceEqDiff, ne_eq, not_false_eq_true]), (by (try simp only [f29_0, f29_1, f24_0, f24_1, f18_0, f18_1, f13_0, f13_1, f9_0, f9_1, e5, e34, and_true, true_and, or_true, true_or, implies_true, upn, reduceIte, Nat.reduceEqDiff, ne_eq, not_false_eq_true, upc, upc]) <;> (first | assumption | exact q2))⟩)⟩
  · refine Z_aload0 hk dX4_readTrial_40 ?_
    refine Z_getR hk fl_4_15 dX4_readTrial_41 ob_20.1 ob_20.2.1 ob_20.2.2.1 ob_20.2.2.2 ft_4_1 rs_20_1 ?_
    refine Z_iload1 hk dX4_readTrial_44 ?_
    refine Z_Vv hk (c_X3_addTrial_p21 κ.2.1 δ ad _ hA z (by (try simp only [f29_0, f29_1, f24_0, f24_1, f18_0, f18_1, f13_0, f13_1, f9_0, f9_1, and_true, true_and, or_true, true_or, implies_true, upn, reduceIte, Nat.reduceEqDiff, ne_eq, not_false_eq_true, upc]) <;> (omega)) (by (try simp only [f29_0, f29_1, f24_0, f24_1, f18_0, f18_1, f13_0, f13_1, f9_0, f9_1, and_true, true_and, or_true, true_or, implies_true, upn, reduceIte, Nat.reduceEqDiff, ne_eq, not_false_eq_true, upc]) <;> (exact q2)) (by (try simp only [f29_0, f29_1, f24_0, f24_1, f18_0, f18_1, f13_0, f13_1, f9_0, f9_1, and_true, true_and, or_true, true_or, implies_true, upn, reduceIte, Nat.reduceEqDiff, ne_eq, not_false_eq_true, upc]) <;> (omega))) ov_X3_addTrial ml_X4_106 dX4_readTrial_45 rfl ⟨by decide, by decide⟩ ob_21.1 (by decide) (by decide) rfl (Nat.le_of_ble_eq_true rfl) (fun m45 p45 => ?_)
    obtain ⟨p45, f45_0, f45_1, f45_2⟩ := p45
    try simp only [f45_0, f45_1, f45_2, f29_0, f29_1, f24_0, f24_1, f18_0, f18_1, f13_0, f13_1, f9_0, f9_1, e5, e34, and_true, true_and, or_true, true_or, implies_true, upn, reduceIte, Nat.reduceEqDiff, ne_eq, not_false_eq_true, upc] at p45
    exact Z_vret hk hA hQ dX4_readTrial_48 ⟨rfl, rfl, rfl, (by exact ⟨(by (try simp only [f45_0, f45_1, f45_2, f29_0, f29_1, f24_0, f24_1, f18_0, f18_1, f13_0, f13_1, f9_0, f9_1, and_true, true_and, or_true, true_or, implies_true, upn, reduceIte, Nat.reduceEqDiff, ne_eq, not_false_eq_true, upc]) <;> (omega)), (by intro c k0 k1 k2 k3; simp only [f45_0, f45_1, f45_2, f29_0, f29_1, f24_0, f24_1, f18_0, f18_1, f13_0, f13_1, f9_0, f9_1, upc, upn, k0, k1, k2, k3, reduceIte, Nat.reduceEqDiff, ne_eq, not_false_eq_true]), (by intro i k0 k1 k2 k3 k4 k5; simp only [f45_0, f45_1, f45_2, f29_0, f29_1, f24_0, f24_1, f18_0, f18_1, f13_0, f13_1, f9_0, f9_1, upc, upn, k0, k1, k2, k3, k4, k5, reduceIte, Nat.reduceEqDiff, ne_eq, not_false_eq_true]), (by intro i k0; simp only [f45_0, f45_1, f45_2, f29_0, f29_1, f24_0, f24_1, f18_0, f18_1, f13_0, f13_1, f9_0, f9_1, upc, upn, k0, reduceIte, Nat.reduceEqDiff, ne_eq, not_false_eq_true]), (by (try simp only [f45_0, f45_1, f45_2, f29_0, f29_1, f24_0, f24_1, f18_0, f18_1, f13_0, f13_1, f9_0, f9_1, e5, e34, and_true, true_and, or_true, true_or, implies_true, upn, reduceIte, Nat.reduceEqDiff, ne_eq, not_false_eq_true, upc, upc]) <;> (first | assumption | exact q2))⟩)⟩
set_option maxRecDepth 10000 in
theorem c_X4_readLook (l : Launch) (δ : Dp) (ad : Nat → Nat) (M : Mem) (hA : okA δ ad) (hz : NS δ) (q0 : 0 ≤ (M 20 6) ∧ (M 20 6) ≤ (M 20 7) ∧ (M 20 7) ≤ (M 20 2) ∧ (M 20 2) ≤ 700) (qw : -1 ≤ (M 20 8) ∧ (M 20 8) ≤ 1000) (q1 : 0 ≤ M 21 0 ∧ M 21 0 ≤ 6 ∧ 0 ≤ M 21 1 ∧ M 21 1 ≤ 4 ∧ 0 ≤ M 21 2 ∧ M 21 2 ≤ 8 ∧ -1 ≤ M 21 5 ∧ M 21 5 ≤ 5 ∧ 0 ≤ M 21 6 ∧ M 21 6 ≤ 700) (q2 : LK (M 24)) : Mv l δ yX4_readLook cX4_readLook 4 none 7 192 ad rs [.ref (ad 20)] M (fun M' => (0 ≤ (M' 20 6) ∧ (M' 20 6) ≤ (M' 20 7) ∧ (M' 20 7) ≤ (M' 20 2) ∧ (M' 20 2) ≤ 700 ∧ -1 ≤ (M' 20 8) ∧ (M' 20 8) ≤ 1000 ∧ 0 ≤ M' 21 0 ∧ M' 21 0 ≤ 6 ∧ 0 ≤ M' 21 1 ∧ M' 21 1 ≤ 4 ∧ 0 ≤ M' 21 2 ∧ M' 21 2 ≤ 8 ∧ -1 ≤ M' 21 5 ∧ M' 21 5 ≤ 5 ∧ 0 ≤ M' 21 6 ∧ M' 21 6 ≤ 700) ∧ (∀ c : Nat, c ≠ 20 → c ≠ 21 → c ≠ 24 → c ≠ 25 → c ≠ 26 → c ≠ 27 → M' c = M c) ∧ (∀ i : Nat, i ≠ 3 → i ≠ 4 → i ≠ 5 → i ≠ 6 → i ≠ 7 → i ≠ 8 → M' 20 i = M 20 i) ∧ (∀ i : Nat, M' 21 i = M 21 i) ∧ (LK (M' 24))) := by
  refine Mg.of (rm := rmN 7 192) (by decide) (Nat.le_of_ble_eq_true rfl) fun κ _ hk _ => ?_
  generalize hQ : Qg κ δ 121 (rmN 7 192).cells (rmN 7 192).slots _ = Q
  show Zj κ δ ad rs Q 4 (121, 0, 0) 0 [some (.ref (ad 20)), none, none, none] [] M
  refine Z_aload0 hk dX4_readLook_0 ?_
  refine Z_getR hk fl_4_15 dX4_readLook_1 ob_20.1 ob_20.2.1 ob_20.2.2.1 ob_20.2.2.2 ft_4_1 rs_20_1 ?_
  refine Z_getI hk fl_4_96 dX4_readLook_4 ob_21.1 ob_21.2.1 ob_21.2.2.1 ob_21.2.2.2 ft_3_1 (fun v4 e4 a4 b4 => ?_)
  refine Z_iconst hk dX4_readLook_7 ?_
  refine Z_icmp_ge hk (tgt := 21) dX4_readLook_8 (by decide) (by omega) (by omega) (by decide) (by decide) (fun h8 => ?_) (fun h8 => ?_)
  · have g21 := q2 (M 21 1 - 1).toNat (by omega)
    refine Z_aload0 hk dX4_readLook_21 ?_
    refine Z_aload0 hk dX4_readLook_22 ?_
    refine Z_getR hk fl_4_15 dX4_readLook_23 ob_20.1 ob_20.2.1 ob_20.2.2.1 ob_20.2.2.2 ft_4_1 rs_20_1 ?_
    refine Z_getR hk fl_4_109 dX4_readLook_26 ob_21.1 ob_21.2.1 ob_21.2.2.1 ob_21.2.2.2 ft_3_9 rs_21_9 ?_
    refine Z_aload0 hk dX4_readLook_29 ?_
    refine Z_getR hk fl_4_15 dX4_readLook_30 ob_20.1 ob_20.2.1 ob_20.2.2.1 ob_20.2.2.2 ft_4_1 rs_20_1 ?_
    refine Z_getI hk fl_4_96 dX4_readLook_33 ob_21.1 ob_21.2.1 ob_21.2.2.1 ob_21.2.2.2 ft_3_1 (fun v33 e33 a33 b33 => ?_)
    try simp only [e4, and_true, true_and, or_true, true_or, implies_true, upn, reduceIte, Nat.reduceEqDiff, ne_eq, not_false_eq_true, upc] at e33
    refine Z_iconst hk dX4_readLook_36 ?_
    refine Z_isub hk dX4_readLook_37 ?_
    refine Z_iald hk dX4_readLook_38 ar_24.1 ar_24.2.1 ar_24.2.2 (by omega) (by omega) (fun v38 e38 a38 b38 => ?_)
    try simp only [e4, e33, and_true, true_and, or_true, true_or, implies_true, upn, reduceIte, Nat.reduceEqDiff, ne_eq, not_false_eq_true, upc] at e38
    refine Z_iconst hk dX4_readLook_39 ?_
    refine Z_Vv hk (c_X4_refuseMore κ.2.1 δ ad _ hA v38 5 (by (omega)) (by (omega))) ov_X4_refuseMore ml_X4_85 dX4_readLook_40 rfl ⟨by decide, by decide⟩ ob_20.1 (by decide) (by decide) rfl (Nat.le_of_ble_eq_true rfl) (fun m40 p40 => ?_)
    obtain ⟨p40, f40_0, f40_1⟩ := p40
    try simp only [f40_0, f40_1, e4, e33, e38, and_true, true_and, or_true, true_or, implies_true, upn, reduceIte, Nat.reduceEqDiff, ne_eq, not_false_eq_true, upc] at p40
    refine Z_aload0 hk dX4_readLook_43 ?_
    refine Z_Vv hk (c_X4_readToken κ.2.1 δ ad _ hA  hz (by (try simp only [f40_0, f40_1, and_true, true_and, or_true, true_or, implies_true, upn, reduceIte, Nat.reduceEqDiff, ne_eq, not_false_eq_true, upc]) <;> (omega))) ov_X4_readToken ml_X4_40 dX4_readLook_44 rfl ⟨by decide, by decide⟩ ob_20.1 (by decide) (by decide) rfl (Nat.le_of_ble_eq_true rfl) (fun m44 p44 => ?_)
    obtain ⟨p44, f44_0, f44_1⟩ := p44
    try simp only [f44_0, f44_1, f40_0, f40_1, e4, e33, e38, and_true, true_and, or_true, true_or, implies_true, upn, reduceIte, Nat.reduceEqDiff, ne_eq, not_false_eq_true, upc] at p44
    refine Z_aload0 hk dX4_readLook_47 ?_
    refine Z_aload0 hk dX4_readLook_48 ?_
    refine Z_getR hk fl_4_15 dX4_readLook_49 ob_20.1 ob_20.2.1 ob_20.2.2.1 ob_20.2.2.2 ft_4_1 rs_20_1 ?_
    refine Z_Vi hk (c_X3_answersAtLatestLook_p21 κ.2.1 δ ad _ hA  (by (try simp only [f44_0, f44_1, f40_0, f40_1, and_true, true_and, or_true, true_or, implies_true, upn, reduceIte, Nat.reduceEqDiff, ne_eq, not_false_eq_true, upc]) <;> (omega)) (by (try simp only [f44_0, f44_1, f40_0, f40_1, and_true, true_and, or_true, true_or, implies_true, upn, reduceIte, Nat.reduceEqDiff, ne_eq, not_false_eq_true, upc]) <;> (exact q2))) ov_X3_answersAtLatestLook ml_X4_113 dX4_readLook_52 rfl ⟨by decide, by decide⟩ ob_21.1 (by decide) (by decide) rfl (Nat.le_of_ble_eq_true rfl) (fun r52 m52 p52 => ?_)
    obtain ⟨rfl, p52⟩ := p52
    try simp only [f44_0, f44_1, f40_0, f40_1, e4, e33, e38, and_true, true_and, or_true, true_or, implies_true, upn, reduceIte, Nat.reduceEqDiff, ne_eq, not_false_eq_true, upc] at p52
    refine Z_iconst hk dX4_readLook_55 ?_
    refine Z_iadd hk dX4_readLook_56 ?_
    refine Z_wI (fun w56 a56w b56w g56w => ?_)
    refine Z_bipush hk dX4_readLook_57 (by decide) ?_
    refine Z_Vi hk (c_X4_takeNumber κ.2.1 δ ad _ hA w56 30 hz (by (try simp only [f44_0, f44_1, f40_0, f40_1, and_true, true_and, or_true, true_or, implies_true, upn, reduceIte, Nat.reduceEqDiff, ne_eq, not_false_eq_true, upc]) <;> (omega)) (by (try simp only [f44_0, f44_1, f40_0, f40_1, and_true, true_and, or_true, true_or, implies_true, upn, reduceIte, Nat.reduceEqDiff, ne_eq, not_false_eq_true, upc]) <;> (omega)) (by (try simp only [f44_0, f44_1, f40_0, f40_1, and_true, true_and, or_true, true_or, implies_true, upn, reduceIte, Nat.reduceEqDiff, ne_eq, not_false_eq_true, upc]) <;> (omega)) (by (try simp only [f44_0, f44_1, f40_0, f40_1, and_true, true_and, or_true, true_or, implies_true, upn, reduceIte, Nat.reduceEqDiff, ne_eq, not_false_eq_true, upc]) <;> (omega))) ov_X4_takeNumber ml_X4_117 dX4_readLook_59 rfl ⟨by decide, by decide⟩ ob_20.1 (by decide) (by decide) rfl (Nat.le_of_ble_eq_true rfl) (fun r59 m59 p59 => ?_)
    obtain ⟨p59, f59_0, f59_1⟩ := p59
    try simp only [f59_0, f59_1, f44_0, f44_1, f40_0, f40_1, e4, e33, e38, and_true, true_and, or_true, true_or, implies_true, upn, reduceIte, Nat.reduceEqDiff, ne_eq, not_false_eq_true, upc] at p59
    refine Z_istore1 hk rfl (by decide) dX4_readLook_62 ?_
    refine Z_aload0 hk dX4_readLook_63 ?_
    refine Z_iconst hk dX4_readLook_64 ?_
    refine Z_Vv hk (c_X4_expectWord κ.2.1 δ ad _ hA 5 hz (by (try simp only [f59_0, f59_1, f44_0, f44_1, f40_0, f40_1, and_true, true_and, or_true, true_or, implies_true, upn, reduceIte, Nat.reduceEqDiff, ne_eq, not_false_eq_true, upc]) <;> (omega)) (by (try simp only [f59_0, f59_1, f44_0, f44_1, f40_0, f40_1, and_true, true_and, or_true, true_or, implies_true, upn, reduceIte, Nat.reduceEqDiff, ne_eq, not_false_eq_true, upc]) <;> (omega)) (by (try simp only [f59_0, f59_1, f44_0, f44_1, f40_0, f40_1, and_true, true_and, or_true, true_or, implies_true, upn, reduceIte, Nat.reduceEqDiff, ne_eq, not_false_eq_true, upc]) <;> (omega))) ov_X4_expectWord ml_X4_103 dX4_readLook_65 rfl ⟨by decide, by decide⟩ ob_20.1 (by decide) (by decide) rfl (Nat.le_of_ble_eq_true rfl) (fun m65 p65 => ?_)
    obtain ⟨p65, f65_0, f65_1⟩ := p65
    try simp only [f65_0, f65_1, f59_0, f59_1, f44_0, f44_1, f40_0, f40_1, e4, e33, e38, and_true, true_and, or_true, true_or, implies_true, upn, reduceIte, Nat.reduceEqDiff, ne_eq, not_false_eq_true, upc] at p65
    refine Z_aload0 hk dX4_readLook_68 ?_
    refine Z_iconst hk dX4_readLook_69 ?_
    refine Z_sipush hk dX4_readLook_70 (by decide) ?_
    refine Z_Vi hk (c_X4_takeNumber κ.2.1 δ ad _ hA 1 1000 hz (by (try simp only [f65_0, f65_1, f59_0, f59_1, f44_0, f44_1, f40_0, f40_1, and_true, true_and, or_true, true_or, implies_true, upn, reduceIte, Nat.reduceEqDiff, ne_eq, not_false_eq_true, upc]) <;> (omega)) (by (try simp only [f65_0, f65_1, f59_0, f59_1, f44_0, f44_1, f40_0, f40_1, and_true, true_and, or_true, true_or, implies_true, upn, reduceIte, Nat.reduceEqDiff, ne_eq, not_false_eq_true, upc]) <;> (omega)) (by (try simp only [f65_0, f65_1, f59_0, f59_1, f44_0, f44_1, f40_0, f40_1, and_true, true_and, or_true, true_or, implies_true, upn, reduceIte, Nat.reduceEqDiff, ne_eq, not_false_eq_true, upc]) <;> (omega)) (by (try simp only [f65_0, f65_1, f59_0, f59_1, f44_0, f44_1, f40_0, f40_1, and_true, true_and, or_true, true_or, implies_true, upn, reduceIte, Nat.reduceEqDiff, ne_eq, not_false_eq_true, upc]) <;> (omega))) ov_X4_takeNumber ml_X4_117 dX4_readLook_73 rfl ⟨by decide, by decide⟩ ob_20.1 (by decide) (by decide) rfl (Nat.le_of_ble_eq_true rfl) (fun r73 m73 p73 => ?_)
    obtain ⟨p73, f73_0, f73_1⟩ := p73
    try simp only [f73_0, f73_1, f65_0, f65_1, f59_0, f59_1, f44_0, f44_1, f40_0, f40_1, e4, e33, e38, and_true, true_and, or_true, true_or, implies_true, upn, reduceIte, Nat.reduceEqDiff, ne_eq, not_false_eq_true, upc] at p73
    refine Z_istore2 hk rfl (by decide) dX4_readLook_76 ?_
    refine Z_aload0 hk dX4_readLook_77 ?_
    refine Z_bipush hk dX4_readLook_78 (by decide) ?_
    refine Z_Vv hk (c_X4_expectWord κ.2.1 δ ad _ hA 6 hz (by (try simp only [f73_0, f73_1, f65_0, f65_1, f59_0, f59_1, f44_0, f44_1, f40_0, f40_1, and_true, true_and, or_true, true_or, implies_true, upn, reduceIte, Nat.reduceEqDiff, ne_eq, not_false_eq_true, upc]) <;> (omega)) (by (try simp only [f73_0, f73_1, f65_0, f65_1, f59_0, f59_1, f44_0, f44_1, f40_0, f40_1, and_true, true_and, or_true, true_or, implies_true, upn, reduceIte, Nat.reduceEqDiff, ne_eq, not_false_eq_true, upc]) <;> (omega)) (by (try simp only [f73_0, f73_1, f65_0, f65_1, f59_0, f59_1, f44_0, f44_1, f40_0, f40_1, and_true, true_and, or_true, true_or, implies_true, upn, reduceIte, Nat.reduceEqDiff, ne_eq, not_false_eq_true, upc]) <;> (omega))) ov_X4_expectWord ml_X4_103 dX4_readLook_80 rfl ⟨by decide, by decide⟩ ob_20.1 (by decide) (by decide) rfl (Nat.le_of_ble_eq_true rfl) (fun m80 p80 => ?_)
    obtain ⟨p80, f80_0, f80_1⟩ := p80
    try simp only [f80_0, f80_1, f73_0, f73_1, f65_0, f65_1, f59_0, f59_1, f44_0, f44_1, f40_0, f40_1, e4, e33, e38, and_true, true_and, or_true, true_or, implies_true, upn, reduceIte, Nat.reduceEqDiff, ne_eq, not_false_eq_true, upc] at p80
    refine Z_aload0 hk dX4_readLook_83 ?_
    refine Z_iload2 hk dX4_readLook_84 ?_
    refine Z_sipush hk dX4_readLook_85 (by decide) ?_
    refine Z_Vi hk (c_X4_takeNumber κ.2.1 δ ad _ hA r73 1000 hz (by (try simp only [f80_0, f80_1, f73_0, f73_1, f65_0, f65_1, f59_0, f59_1, f44_0, f44_1, f40_0, f40_1, and_true, true_and, or_true, true_or, implies_true, upn, reduceIte, Nat.reduceEqDiff, ne_eq, not_false_eq_true, upc]) <;> (omega)) (by (try simp only [f80_0, f80_1, f73_0, f73_1, f65_0, f65_1, f59_0, f59_1, f44_0, f44_1, f40_0, f40_1, and_true, true_and, or_true, true_or, implies_true, upn, reduceIte, Nat.reduceEqDiff, ne_eq, not_false_eq_true, upc]) <;> (omega)) (by (try simp only [f80_0, f80_1, f73_0, f73_1, f65_0, f65_1, f59_0, f59_1, f44_0, f44_1, f40_0, f40_1, and_true, true_and, or_true, true_or, implies_true, upn, reduceIte, Nat.reduceEqDiff, ne_eq, not_false_eq_true, upc]) <;> (omega)) (by (try simp only [f80_0, f80_1, f73_0, f73_1, f65_0, f65_1, f59_0, f59_1, f44_0, f44_1, f40_0, f40_1, and_true, true_and, or_true, true_or, implies_true, upn, reduceIte, Nat.reduceEqDiff, ne_eq, not_false_eq_true, upc]) <;> (omega))) ov_X4_takeNumber ml_X4_117 dX4_readLook_88 rfl ⟨by decide, by decide⟩ ob_20.1 (by decide) (by decide) rfl (Nat.le_of_ble_eq_true rfl) (fun r88 m88 p88 => ?_)
    obtain ⟨p88, f88_0, f88_1⟩ := p88
    try simp only [f88_0, f88_1, f80_0, f80_1, f73_0, f73_1, f65_0, f65_1, f59_0, f59_1, f44_0, f44_1, f40_0, f40_1, e4, e33, e38, and_true, true_and, or_true, true_or, implies_true, upn, reduceIte, Nat.reduceEqDiff, ne_eq, not_false_eq_true, upc] at p88
    refine Z_istore3 hk rfl (by decide) dX4_readLook_91 ?_
    refine Z_aload0 hk dX4_readLook_92 ?_
    refine Z_getI hk fl_4_23 dX4_readLook_93 ob_20.1 ob_20.2.1 ob_20.2.2.1 ob_20.2.2.2 ft_4_3 (fun v93 e93 a93 b93 => ?_)
    try simp only [f88_0, f88_1, f80_0, f80_1, f73_0, f73_1, f65_0, f65_1, f59_0, f59_1, f44_0, f44_1, f40_0, f40_1, e4, e33, e38, and_true, true_and, or_true, true_or, implies_true, upn, reduceIte, Nat.reduceEqDiff, ne_eq, not_false_eq_true, upc] at e93
    refine Z_if_ne hk (tgt := 109) dX4_readLook_96 (by decide) (by omega) (by omega) (fun h96 => ?_) (fun h96 => ?_)
    · exact Z_vret hk hA hQ dX4_readLook_109 ⟨rfl, rfl, rfl, (by exact ⟨(by (try simp only [f88_0, f88_1, f80_0, f80_1, f73_0, f73_1, f65_0, f65_1, f59_0, f59_1, f44_0, f44_1, f40_0, f40_1, and_true, true_and, or_true, true_or, implies_true, upn, reduceIte, Nat.reduceEqDiff, ne_eq, not_false_eq_true, upc]) <;> (omega)), (by intro c k0 k1 k2 k3 k4 k5; simp only [f88_0, f88_1, f80_0, f80_1, f73_0, f73_1, f65_0, f65_1, f59_0, f59_1, f44_0, f44_1, f40_0, f40_1, upc, upn, k0, k1, k2, k3, k4, k5, reduceIte, Nat.reduceEqDiff, ne_eq, not_false_eq_true]), (by intro i k0 k1 k2 k3 k4 k5; simp only [f88_0, f88_1, f80_0, f80_1, f73_0, f73_1, f65_0, f65_1, f59_0, f59_1, f44_0, f44_1, f40_0, f40_1, upc, upn, k0, k1, k2, k3, k4, k5, reduceIte, Nat.reduceEqDiff, ne_eq, not_false_eq_true]), (by intro i ; simp only [f88_0, f88_1, f80_0, f80_1, f73_0, f73_1, f65_0, f65_1, f59_0, f59_1, f44_0, f44_1, f40_0, f40_1, upc, upn, reduceIte, Nat.reduceEqDiff, ne_eq, not_false_eq_true]), (by (try simp only [f88_0, f88_1, f80_0, f80_1, f73_0, f73_1, f65_0, f65_1, f59_0, f59_1, f44_0, f44_1, f40_0, f40_1, e4, e33, e38, e93, and_true, true_and, or_true, true_or, implies_true, upn, reduceIte, Nat.reduceEqDiff, ne_eq, not_false_eq_true, upc, upc]) <;> (first | assumption | exact q2))⟩)⟩
    · refine Z_aload0 hk dX4_readLook_99 ?_
      refine Z_getR hk fl_4_15 dX4_readLook_100 ob_20.1 ob_20.2.1 ob_20.2.2.1 ob_20.2.2.2 ft_4_1 rs_20_1 ?_
      refine Z_iload1 hk dX4_readLook_103 ?_
      refine Z_iload2 hk dX4_readLook_104 ?_
      refine Z_iload3 hk dX4_readLook_105 ?_
      refine Z_Vv hk (c_X3_addLook_p21 κ.2.1 δ ad _ hA r59 r73 r88 (by (try simp only [f88_0, f88_1, f80_0, f80_1, f73_0, f73_1, f65_0, f65_1, f59_0, f59_1, f44_0, f44_1, f40_0, f40_1, and_true, true_and, or_true, true_or, implies_true, upn, reduceIte, Nat.reduceEqDiff, ne_eq, not_false_eq_true, upc]) <;> (omega)) (by (try simp only [f88_0, f88_1, f80_0, f80_1, f73_0, f73_1, f65_0, f65_1, f59_0, f59_1, f44_0, f44_1, f40_0, f40_1, and_true, true_and, or_true, true_or, implies_true, upn, reduceIte, Nat.reduceEqDiff, ne_eq, not_false_eq_true, upc]) <;> (exact q2)) (by (try simp only [f88_0, f88_1, f80_0, f80_1, f73_0, f73_1, f65_0, f65_1, f59_0, f59_1, f44_0, f44_1, f40_0, f40_1, and_true, true_and, or_true, true_or, implies_true, upn, reduceIte, Nat.reduceEqDiff, ne_eq, not_false_eq_true, upc]) <;> (omega)) (by (try simp only [f88_0, f88_1, f80_0, f80_1, f73_0, f73_1, f65_0, f65_1, f59_0, f59_1, f44_0, f44_1, f40_0, f40_1, and_true, true_and, or_true, true_or, implies_true, upn, reduceIte, Nat.reduceEqDiff, ne_eq, not_false_eq_true, upc]) <;> (omega)) (by (try simp only [f88_0, f88_1, f80_0, f80_1, f73_0, f73_1, f65_0, f65_1, f59_0, f59_1, f44_0, f44_1, f40_0, f40_1, and_true, true_and, or_true, true_or, implies_true, upn, reduceIte, Nat.reduceEqDiff, ne_eq, not_false_eq_true, upc]) <;> (omega))) ov_X3_addLook ml_X4_121 dX4_readLook_106 rfl ⟨by decide, by decide⟩ ob_21.1 (by decide) (by decide) rfl (Nat.le_of_ble_eq_true rfl) (fun m106 p106 => ?_)
      obtain ⟨p106, f106_0, f106_1⟩ := p106
      try simp only [f106_0, f106_1, f88_0, f88_1, f80_0, f80_1, f73_0, f73_1, f65_0, f65_1, f59_0, f59_1, f44_0, f44_1, f40_0, f40_1, e4, e33, e38, e93, and_true, true_and, or_true, true_or, implies_true, upn, reduceIte, Nat.reduceEqDiff, ne_eq, not_false_eq_true, upc] at p106
      exact Z_vret hk hA hQ dX4_readLook_109 ⟨rfl, rfl, rfl, (by exact ⟨(by (try simp only [f106_0, f106_1, f88_0, f88_1, f80_0, f80_1, f73_0, f73_1, f65_0, f65_1, f59_0, f59_1, f44_0, f44_1, f40_0, f40_1, and_true, true_and, or_true, true_or, implies_true, upn, reduceIte, Nat.reduceEqDiff, ne_eq, not_false_eq_true, upc]) <;> (omega)), (by intro c k0 k1 k2 k3 k4 k5; simp only [f106_0, f106_1, f88_0, f88_1, f80_0, f80_1, f73_0, f73_1, f65_0, f65_1, f59_0, f59_1, f44_0, f44_1, f40_0, f40_1, upc, upn, k0, k1, k2, k3, k4, k5, reduceIte, Nat.reduceEqDiff, ne_eq, not_false_eq_true]), (by intro i k0 k1 k2 k3 k4 k5; simp only [f106_0, f106_1, f88_0, f88_1, f80_0, f80_1, f73_0, f73_1, f65_0, f65_1, f59_0, f59_1, f44_0, f44_1, f40_0, f40_1, upc, upn, k0, k1, k2, k3, k4, k5, reduceIte, Nat.reduceEqDiff, ne_eq, not_false_eq_true]), (by intro i ; simp only [f106_0, f106_1, f88_0, f88_1, f80_0, f80_1, f73_0, f73_1, f65_0, f65_1, f59_0, f59_1, f44_0, f44_1, f40_0, f40_1, upc, upn, reduceIte, Nat.reduceEqDiff, ne_eq, not_false_eq_true]), (by (try simp only [f106_0, f106_1, f88_0, f88_1, f80_0, f80_1, f73_0, f73_1, f65_0, f65_1, f59_0, f59_1, f44_0, f44_1, f40_0, f40_1, e4, e33, e38, e93, and_true, true_and, or_true, true_or, implies_true, upn, reduceIte, Nat.reduceEqDiff, ne_eq, not_false_eq_true, upc, upc]) <;> (first | assumption | exact q2))⟩)⟩
  · refine Z_aload0 hk dX4_readLook_11 ?_
    refine Z_iconst hk dX4_readLook_12 ?_
    refine Z_aload0 hk dX4_readLook_13 ?_
    refine Z_getI hk fl_4_71 dX4_readLook_14 ob_20.1 ob_20.2.1 ob_20.2.2.1 ob_20.2.2.2 ft_4_6 (fun v14 e14 a14 b14 => ?_)
    try simp only [e4, and_true, true_and, or_true, true_or, implies_true, upn, reduceIte, Nat.reduceEqDiff, ne_eq, not_false_eq_true, upc] at e14
    refine Z_Vv hk (c_X4_fail κ.2.1 δ ad _ hA 1 v14 (by (omega)) (by (omega))) ov_X4_fail ml_X4_74 dX4_readLook_17 rfl ⟨by decide, by decide⟩ ob_20.1 (by decide) (by decide) rfl (Nat.le_of_ble_eq_true rfl) (fun m17 p17 => ?_)
    obtain ⟨p17, f17_0, f17_1⟩ := p17
    try simp only [f17_0, f17_1, e4, e14, and_true, true_and, or_true, true_or, implies_true, upn, reduceIte, Nat.reduceEqDiff, ne_eq, not_false_eq_true, upc] at p17
    exact Z_vret hk hA hQ dX4_readLook_20 ⟨rfl, rfl, rfl, (by exact ⟨(by (try simp only [f17_0, f17_1, and_true, true_and, or_true, true_or, implies_true, upn, reduceIte, Nat.reduceEqDiff, ne_eq, not_false_eq_true, upc]) <;> (omega)), (by intro c k0 k1 k2 k3 k4 k5; simp only [f17_0, f17_1, upc, upn, k0, k1, k2, k3, k4, k5, reduceIte, Nat.reduceEqDiff, ne_eq, not_false_eq_true]), (by intro i k0 k1 k2 k3 k4 k5; simp only [f17_0, f17_1, upc, upn, k0, k1, k2, k3, k4, k5, reduceIte, Nat.reduceEqDiff, ne_eq, not_false_eq_true]), (by intro i ; simp only [f17_0, f17_1, upc, upn, reduceIte, Nat.reduceEqDiff, ne_eq, not_false_eq_true]), (by (try simp only [f17_0, f17_1, e4, e14, and_true, true_and, or_true, true_or, implies_true, upn, reduceIte, Nat.reduceEqDiff, ne_eq, not_false_eq_true, upc, upc]) <;> (first | assumption | exact q2))⟩)⟩
set_option maxRecDepth 10000 in
theorem c_X4_readTies (l : Launch) (δ : Dp) (ad : Nat → Nat) (M : Mem) (hA : okA δ ad) (hz : NS δ) (q0 : 0 ≤ (M 20 6) ∧ (M 20 6) ≤ (M 20 7) ∧ (M 20 7) ≤ (M 20 2) ∧ (M 20 2) ≤ 700) (qw : -1 ≤ (M 20 8) ∧ (M 20 8) ≤ 1000) (q1 : 0 ≤ M 21 0 ∧ M 21 0 ≤ 6 ∧ 0 ≤ M 21 1 ∧ M 21 1 ≤ 4 ∧ 0 ≤ M 21 2 ∧ M 21 2 ≤ 8 ∧ -1 ≤ M 21 5 ∧ M 21 5 ≤ 5 ∧ 0 ≤ M 21 6 ∧ M 21 6 ≤ 700) : Mv l δ yX4_readTies cX4_readTies 1 none 6 168 ad rs [.ref (ad 20)] M (fun M' => (0 ≤ (M' 20 6) ∧ (M' 20 6) ≤ (M' 20 7) ∧ (M' 20 7) ≤ (M' 20 2) ∧ (M' 20 2) ≤ 700 ∧ -1 ≤ (M' 20 8) ∧ (M' 20 8) ≤ 1000) ∧ (∀ c : Nat, c ≠ 20 → c ≠ 21 → M' c = M c) ∧ (∀ i : Nat, i ≠ 3 → i ≠ 4 → i ≠ 5 → i ≠ 6 → i ≠ 7 → i ≠ 8 → M' 20 i = M 20 i) ∧ (∀ i : Nat, i ≠ 3 → M' 21 i = M 21 i)) := by
  refine Mg.of (rm := rmN 6 168) (by decide) (Nat.le_of_ble_eq_true rfl) fun κ _ hk _ => ?_
  generalize hQ : Qg κ δ 121 (rmN 6 168).cells (rmN 6 168).slots _ = Q
  show Zj κ δ ad rs Q 1 (121, 0, 0) 0 [some (.ref (ad 20))] [] M
  refine Z_aload0 hk dX4_readTies_0 ?_
  refine Z_Vv hk (c_X4_readToken κ.2.1 δ ad _ hA  hz (by (omega))) ov_X4_readToken ml_X4_40 dX4_readTies_1 rfl ⟨by decide, by decide⟩ ob_20.1 (by decide) (by decide) rfl (Nat.le_of_ble_eq_true rfl) (fun m1 p1 => ?_)
  obtain ⟨p1, f1_0, f1_1⟩ := p1
  try simp only [f1_0, f1_1, and_true, true_and, or_true, true_or, implies_true, upn, reduceIte, Nat.reduceEqDiff, ne_eq, not_false_eq_true, upc] at p1
  refine Z_aload0 hk dX4_readTies_4 ?_
  refine Z_getI hk fl_4_46 dX4_readTies_5 ob_20.1 ob_20.2.1 ob_20.2.2.1 ob_20.2.2.2 ft_4_8 (fun v5 e5 a5 b5 => ?_)
  try simp only [f1_0, f1_1, and_true, true_and, or_true, true_or, implies_true, upn, reduceIte, Nat.reduceEqDiff, ne_eq, not_false_eq_true, upc] at e5
  refine Z_bipush hk dX4_readTies_8 (by decide) ?_
  have J31 : ∀ (_ : Unit), (True) → Zj κ δ ad rs Q 1 (121, 0, 0) 31 [some (.ref (ad 20))] [] m1 := by
    intro _ h31
    try simp only [f1_0, f1_1, and_true, true_and, or_true, true_or, implies_true, upn, reduceIte, Nat.reduceEqDiff, ne_eq, not_false_eq_true, upc] at h31
    refine Z_aload0 hk dX4_readTies_31 ?_
    refine Z_getR hk fl_4_15 dX4_readTies_32 ob_20.1 ob_20.2.1 ob_20.2.2.1 ob_20.2.2.2 ft_4_1 rs_20_1 ?_
    refine Z_aload0 hk dX4_readTies_35 ?_
    refine Z_getI hk fl_4_46 dX4_readTies_36 ob_20.1 ob_20.2.1 ob_20.2.2.1 ob_20.2.2.2 ft_4_8 (fun v36 e36 a36 b36 => ?_)
    try simp only [f1_0, f1_1, e5, and_true, true_and, or_true, true_or, implies_true, upn, reduceIte, Nat.reduceEqDiff, ne_eq, not_false_eq_true, upc] at e36
    refine Z_putI hk hA fl_4_125 dX4_readTies_39 ob_21.1 ob_21.2.1 ob_21.2.2.1 ob_21.2.2.2 ft_3_3 (by omega) (by omega) ?_
    refine Z_nm (fun m39 em39 => ?_)
    refine Z_aload0 hk dX4_readTies_42 ?_
    refine Z_Vv hk (c_X4_readToken κ.2.1 δ ad _ hA  hz (by (try simp only [em39, f1_0, f1_1, and_true, true_and, or_true, true_or, implies_true, upn, reduceIte, Nat.reduceEqDiff, ne_eq, not_false_eq_true, upc]) <;> (omega))) ov_X4_readToken ml_X4_40 dX4_readTies_43 rfl ⟨by decide, by decide⟩ ob_20.1 (by decide) (by decide) rfl (Nat.le_of_ble_eq_true rfl) (fun m43 p43 => ?_)
    obtain ⟨p43, f43_0, f43_1⟩ := p43
    try simp only [f43_0, f43_1, em39, f1_0, f1_1, e5, e36, and_true, true_and, or_true, true_or, implies_true, upn, reduceIte, Nat.reduceEqDiff, ne_eq, not_false_eq_true, upc] at p43
    refine Z_goto hk (tgt := 58) dX4_readTies_46 (by decide) ?_
    exact Z_vret hk hA hQ dX4_readTies_58 ⟨rfl, rfl, rfl, (by exact ⟨(by (try simp only [f43_0, f43_1, em39, f1_0, f1_1, and_true, true_and, or_true, true_or, implies_true, upn, reduceIte, Nat.reduceEqDiff, ne_eq, not_false_eq_true, upc]) <;> (omega)), (by intro c k0 k1; simp only [f43_0, f43_1, em39, f1_0, f1_1, upc, upn, k0, k1, reduceIte, Nat.reduceEqDiff, ne_eq, not_false_eq_true]), (by intro i k0 k1 k2 k3 k4 k5; simp only [f43_0, f43_1, em39, f1_0, f1_1, upc, upn, k0, k1, k2, k3, k4, k5, reduceIte, Nat.reduceEqDiff, ne_eq, not_false_eq_true]), (by intro i k0; simp only [f43_0, f43_1, em39, f1_0, f1_1, upc, upn, k0, reduceIte, Nat.reduceEqDiff, ne_eq, not_false_eq_true])⟩)⟩
  refine Z_icmp_eq hk (tgt := 31) dX4_readTies_10 (by decide) (by omega) (by omega) (by decide) (by decide) (fun h10 => ?_) (fun h10 => ?_)
  · exact J31 () (by trivial)
  · refine Z_aload0 hk dX4_readTies_13 ?_
    refine Z_getI hk fl_4_46 dX4_readTies_14 ob_20.1 ob_20.2.1 ob_20.2.2.1 ob_20.2.2.2 ft_4_8 (fun v14 e14 a14 b14 => ?_)
    try simp only [f1_0, f1_1, e5, and_true, true_and, or_true, true_or, implies_true, upn, reduceIte, Nat.reduceEqDiff, ne_eq, not_false_eq_true, upc] at e14
    refine Z_bipush hk dX4_readTies_17 (by decide) ?_
    refine Z_icmp_eq hk (tgt := 31) dX4_readTies_19 (by decide) (by omega) (by omega) (by decide) (by decide) (fun h19 => ?_) (fun h19 => ?_)
    · exact J31 () (by trivial)
    · refine Z_aload0 hk dX4_readTies_22 ?_
      refine Z_getI hk fl_4_46 dX4_readTies_23 ob_20.1 ob_20.2.1 ob_20.2.2.1 ob_20.2.2.2 ft_4_8 (fun v23 e23 a23 b23 => ?_)
      try simp only [f1_0, f1_1, e5, e14, and_true, true_and, or_true, true_or, implies_true, upn, reduceIte, Nat.reduceEqDiff, ne_eq, not_false_eq_true, upc] at e23
      refine Z_bipush hk dX4_readTies_26 (by decide) ?_
      refine Z_icmp_ne hk (tgt := 49) dX4_readTies_28 (by decide) (by omega) (by omega) (by decide) (by decide) (fun h28 => ?_) (fun h28 => ?_)
      · refine Z_aload0 hk dX4_readTies_49 ?_
        refine Z_iconst hk dX4_readTies_50 ?_
        refine Z_aload0 hk dX4_readTies_51 ?_
        refine Z_getI hk fl_4_71 dX4_readTies_52 ob_20.1 ob_20.2.1 ob_20.2.2.1 ob_20.2.2.2 ft_4_6 (fun v52 e52 a52 b52 => ?_)
        try simp only [f1_0, f1_1, e5, e14, e23, and_true, true_and, or_true, true_or, implies_true, upn, reduceIte, Nat.reduceEqDiff, ne_eq, not_false_eq_true, upc] at e52
        refine Z_Vv hk (c_X4_fail κ.2.1 δ ad _ hA 1 v52 (by (try simp only [f1_0, f1_1, and_true, true_and, or_true, true_or, implies_true, upn, reduceIte, Nat.reduceEqDiff, ne_eq, not_false_eq_true, upc]) <;> (omega)) (by (try simp only [f1_0, f1_1, and_true, true_and, or_true, true_or, implies_true, upn, reduceIte, Nat.reduceEqDiff, ne_eq, not_false_eq_true, upc]) <;> (omega))) ov_X4_fail ml_X4_74 dX4_readTies_55 rfl ⟨by decide, by decide⟩ ob_20.1 (by decide) (by decide) rfl (Nat.le_of_ble_eq_true rfl) (fun m55 p55 => ?_)
        obtain ⟨p55, f55_0, f55_1⟩ := p55
        try simp only [f55_0, f55_1, f1_0, f1_1, e5, e14, e23, e52, and_true, true_and, or_true, true_or, implies_true, upn, reduceIte, Nat.reduceEqDiff, ne_eq, not_false_eq_true, upc] at p55
        exact Z_vret hk hA hQ dX4_readTies_58 ⟨rfl, rfl, rfl, (by exact ⟨(by (try simp only [f55_0, f55_1, f1_0, f1_1, and_true, true_and, or_true, true_or, implies_true, upn, reduceIte, Nat.reduceEqDiff, ne_eq, not_false_eq_true, upc]) <;> (omega)), (by intro c k0 k1; simp only [f55_0, f55_1, f1_0, f1_1, upc, upn, k0, k1, reduceIte, Nat.reduceEqDiff, ne_eq, not_false_eq_true]), (by intro i k0 k1 k2 k3 k4 k5; simp only [f55_0, f55_1, f1_0, f1_1, upc, upn, k0, k1, k2, k3, k4, k5, reduceIte, Nat.reduceEqDiff, ne_eq, not_false_eq_true]), (by intro i k0; simp only [f55_0, f55_1, f1_0, f1_1, upc, upn, k0, reduceIte, Nat.reduceEqDiff, ne_eq, not_false_eq_true])⟩)⟩
      · exact J31 () (by trivial)
set_option maxRecDepth 10000 in
theorem c_X4_readScale (l : Launch) (δ : Dp) (ad : Nat → Nat) (M : Mem) (hA : okA δ ad) (hz : NS δ) (q0 : 0 ≤ (M 20 6) ∧ (M 20 6) ≤ (M 20 7) ∧ (M 20 7) ≤ (M 20 2) ∧ (M 20 2) ≤ 700) (qw : -1 ≤ (M 20 8) ∧ (M 20 8) ≤ 1000) (q1 : 0 ≤ M 21 0 ∧ M 21 0 ≤ 6 ∧ 0 ≤ M 21 1 ∧ M 21 1 ≤ 4 ∧ 0 ≤ M 21 2 ∧ M 21 2 ≤ 8 ∧ -1 ≤ M 21 5 ∧ M 21 5 ≤ 5 ∧ 0 ≤ M 21 6 ∧ M 21 6 ≤ 700) : Mv l δ yX4_readScale cX4_readScale 1 none 6 168 ad rs [.ref (ad 20)] M (fun M' => (0 ≤ (M' 20 6) ∧ (M' 20 6) ≤ (M' 20 7) ∧ (M' 20 7) ≤ (M' 20 2) ∧ (M' 20 2) ≤ 700 ∧ -1 ≤ (M' 20 8) ∧ (M' 20 8) ≤ 1000) ∧ (∀ c : Nat, c ≠ 20 → c ≠ 21 → M' c = M c) ∧ (∀ i : Nat, i ≠ 3 → i ≠ 4 → i ≠ 5 → i ≠ 6 → i ≠ 7 → i ≠ 8 → M' 20 i = M 20 i) ∧ (∀ i : Nat, i ≠ 4 → M' 21 i = M 21 i)) := by
  refine Mg.of (rm := rmN 6 168) (by decide) (Nat.le_of_ble_eq_true rfl) fun κ _ hk _ => ?_
  generalize hQ : Qg κ δ 121 (rmN 6 168).cells (rmN 6 168).slots _ = Q
  show Zj κ δ ad rs Q 1 (121, 0, 0) 0 [some (.ref (ad 20))] [] M
  refine Z_aload0 hk dX4_readScale_0 ?_
  refine Z_Vv hk (c_X4_readToken κ.2.1 δ ad _ hA  hz (by (omega))) ov_X4_readToken ml_X4_40 dX4_readScale_1 rfl ⟨by decide, by decide⟩ ob_20.1 (by decide) (by decide) rfl (Nat.le_of_ble_eq_true rfl) (fun m1 p1 => ?_)
  obtain ⟨p1, f1_0, f1_1⟩ := p1
  try simp only [f1_0, f1_1, and_true, true_and, or_true, true_or, implies_true, upn, reduceIte, Nat.reduceEqDiff, ne_eq, not_false_eq_true, upc] at p1
  refine Z_aload0 hk dX4_readScale_4 ?_
  refine Z_getI hk fl_4_46 dX4_readScale_5 ob_20.1 ob_20.2.1 ob_20.2.2.1 ob_20.2.2.2 ft_4_8 (fun v5 e5 a5 b5 => ?_)
  try simp only [f1_0, f1_1, and_true, true_and, or_true, true_or, implies_true, upn, reduceIte, Nat.reduceEqDiff, ne_eq, not_false_eq_true, upc] at e5
  refine Z_bipush hk dX4_readScale_8 (by decide) ?_
  have J22 : ∀ (_ : Unit), (True) → Zj κ δ ad rs Q 1 (121, 0, 0) 22 [some (.ref (ad 20))] [] m1 := by
    intro _ h22
    try simp only [f1_0, f1_1, and_true, true_and, or_true, true_or, implies_true, upn, reduceIte, Nat.reduceEqDiff, ne_eq, not_false_eq_true, upc] at h22
    refine Z_aload0 hk dX4_readScale_22 ?_
    refine Z_getR hk fl_4_15 dX4_readScale_23 ob_20.1 ob_20.2.1 ob_20.2.2.1 ob_20.2.2.2 ft_4_1 rs_20_1 ?_
    refine Z_aload0 hk dX4_readScale_26 ?_
    refine Z_getI hk fl_4_46 dX4_readScale_27 ob_20.1 ob_20.2.1 ob_20.2.2.1 ob_20.2.2.2 ft_4_8 (fun v27 e27 a27 b27 => ?_)
    try simp only [f1_0, f1_1, e5, and_true, true_and, or_true, true_or, implies_true, upn, reduceIte, Nat.reduceEqDiff, ne_eq, not_false_eq_true, upc] at e27
    refine Z_bipush hk dX4_readScale_30 (by decide) ?_
    have J40 : ∀ (y1_40 : Int), (0 ≤ y1_40 ∧ y1_40 ≤ 1) → Zj κ δ ad rs Q 1 (121, 0, 0) 40 [some (.ref (ad 20))] [iv y1_40, .ref (ad 21)] m1 := by
      intro y1_40 h40
      try simp only [f1_0, f1_1, and_true, true_and, or_true, true_or, implies_true, upn, reduceIte, Nat.reduceEqDiff, ne_eq, not_false_eq_true, upc] at h40
      refine Z_putZ hk hA fl_4_128 dX4_readScale_40 ob_21.1 ob_21.2.1 ob_21.2.2.1 ob_21.2.2.2 ft_3_4 (by omega) (by omega) ?_
      refine Z_nm (fun m40 em40 => ?_)
      refine Z_aload0 hk dX4_readScale_43 ?_
      refine Z_Vv hk (c_X4_readToken κ.2.1 δ ad _ hA  hz (by (try simp only [em40, f1_0, f1_1, and_true, true_and, or_true, true_or, implies_true, upn, reduceIte, Nat.reduceEqDiff, ne_eq, not_false_eq_true, upc]) <;> (omega))) ov_X4_readToken ml_X4_40 dX4_readScale_44 rfl ⟨by decide, by decide⟩ ob_20.1 (by decide) (by decide) rfl (Nat.le_of_ble_eq_true rfl) (fun m44 p44 => ?_)
      obtain ⟨p44, f44_0, f44_1⟩ := p44
      try simp only [f44_0, f44_1, em40, f1_0, f1_1, e5, e27, and_true, true_and, or_true, true_or, implies_true, upn, reduceIte, Nat.reduceEqDiff, ne_eq, not_false_eq_true, upc] at p44
      refine Z_goto hk (tgt := 59) dX4_readScale_47 (by decide) ?_
      exact Z_vret hk hA hQ dX4_readScale_59 ⟨rfl, rfl, rfl, (by exact ⟨(by (try simp only [f44_0, f44_1, em40, f1_0, f1_1, and_true, true_and, or_true, true_or, implies_true, upn, reduceIte, Nat.reduceEqDiff, ne_eq, not_false_eq_true, upc]) <;> (omega)), (by intro c k0 k1; simp only [f44_0, f44_1, em40, f1_0, f1_1, upc, upn, k0, k1, reduceIte, Nat.reduceEqDiff, ne_eq, not_false_eq_true]), (by intro i k0 k1 k2 k3 k4 k5; simp only [f44_0, f44_1, em40, f1_0, f1_1, upc, upn, k0, k1, k2, k3, k4, k5, reduceIte, Nat.reduceEqDiff, ne_eq, not_false_eq_true]), (by intro i k0; simp only [f44_0, f44_1, em40, f1_0, f1_1, upc, upn, k0, reduceIte, Nat.reduceEqDiff, ne_eq, not_false_eq_true])⟩)⟩
    refine Z_icmp_ne hk (tgt := 39) dX4_readScale_32 (by decide) (by omega) (by omega) (by decide) (by decide) (fun h32 => ?_) (fun h32 => ?_)
    · refine Z_iconst hk dX4_readScale_39 ?_
      exact J40 _ (by (try simp only [f1_0, f1_1, and_true, true_and, or_true, true_or, implies_true, upn, reduceIte, Nat.reduceEqDiff, ne_eq, not_false_eq_true, upc]) <;> (omega))
    · refine Z_iconst hk dX4_readScale_35 ?_
      refine Z_goto hk (tgt := 40) dX4_readScale_36 (by decide) ?_
      exact J40 _ (by (try simp only [f1_0, f1_1, and_true, true_and, or_true, true_or, implies_true, upn, reduceIte, Nat.reduceEqDiff, ne_eq, not_false_eq_true, upc]) <;> (omega))
  refine Z_icmp_eq hk (tgt := 22) dX4_readScale_10 (by decide) (by omega) (by omega) (by decide) (by decide) (fun h10 => ?_) (fun h10 => ?_)
  · exact J22 () (by trivial)
  · refine Z_aload0 hk dX4_readScale_13 ?_
    refine Z_getI hk fl_4_46 dX4_readScale_14 ob_20.1 ob_20.2.1 ob_20.2.2.1 ob_20.2.2.2 ft_4_8 (fun v14 e14 a14 b14 => ?_)
    try simp only [f1_0, f1_1, e5, and_true, true_and, or_true, true_or, implies_true, upn, reduceIte, Nat.reduceEqDiff, ne_eq, not_false_eq_true, upc] at e14
    refine Z_bipush hk dX4_readScale_17 (by decide) ?_
    refine Z_icmp_ne hk (tgt := 50) dX4_readScale_19 (by decide) (by omega) (by omega) (by decide) (by decide) (fun h19 => ?_) (fun h19 => ?_)
    · refine Z_aload0 hk dX4_readScale_50 ?_
      refine Z_iconst hk dX4_readScale_51 ?_
      refine Z_aload0 hk dX4_readScale_52 ?_
      refine Z_getI hk fl_4_71 dX4_readScale_53 ob_20.1 ob_20.2.1 ob_20.2.2.1 ob_20.2.2.2 ft_4_6 (fun v53 e53 a53 b53 => ?_)
      try simp only [f1_0, f1_1, e5, e14, and_true, true_and, or_true, true_or, implies_true, upn, reduceIte, Nat.reduceEqDiff, ne_eq, not_false_eq_true, upc] at e53
      refine Z_Vv hk (c_X4_fail κ.2.1 δ ad _ hA 1 v53 (by (try simp only [f1_0, f1_1, and_true, true_and, or_true, true_or, implies_true, upn, reduceIte, Nat.reduceEqDiff, ne_eq, not_false_eq_true, upc]) <;> (omega)) (by (try simp only [f1_0, f1_1, and_true, true_and, or_true, true_or, implies_true, upn, reduceIte, Nat.reduceEqDiff, ne_eq, not_false_eq_true, upc]) <;> (omega))) ov_X4_fail ml_X4_74 dX4_readScale_56 rfl ⟨by decide, by decide⟩ ob_20.1 (by decide) (by decide) rfl (Nat.le_of_ble_eq_true rfl) (fun m56 p56 => ?_)
      obtain ⟨p56, f56_0, f56_1⟩ := p56
      try simp only [f56_0, f56_1, f1_0, f1_1, e5, e14, e53, and_true, true_and, or_true, true_or, implies_true, upn, reduceIte, Nat.reduceEqDiff, ne_eq, not_false_eq_true, upc] at p56
      exact Z_vret hk hA hQ dX4_readScale_59 ⟨rfl, rfl, rfl, (by exact ⟨(by (try simp only [f56_0, f56_1, f1_0, f1_1, and_true, true_and, or_true, true_or, implies_true, upn, reduceIte, Nat.reduceEqDiff, ne_eq, not_false_eq_true, upc]) <;> (omega)), (by intro c k0 k1; simp only [f56_0, f56_1, f1_0, f1_1, upc, upn, k0, k1, reduceIte, Nat.reduceEqDiff, ne_eq, not_false_eq_true]), (by intro i k0 k1 k2 k3 k4 k5; simp only [f56_0, f56_1, f1_0, f1_1, upc, upn, k0, k1, k2, k3, k4, k5, reduceIte, Nat.reduceEqDiff, ne_eq, not_false_eq_true]), (by intro i k0; simp only [f56_0, f56_1, f1_0, f1_1, upc, upn, k0, reduceIte, Nat.reduceEqDiff, ne_eq, not_false_eq_true])⟩)⟩
    · exact J22 () (by trivial)
set_option maxRecDepth 10000 in
theorem c_X4_readReference (l : Launch) (δ : Dp) (ad : Nat → Nat) (M : Mem) (hA : okA δ ad) (hz : NS δ) (q0 : 0 ≤ (M 20 6) ∧ (M 20 6) ≤ (M 20 7) ∧ (M 20 7) ≤ (M 20 2) ∧ (M 20 2) ≤ 700) (qw : -1 ≤ (M 20 8) ∧ (M 20 8) ≤ 1000) (q1 : 0 ≤ M 21 0 ∧ M 21 0 ≤ 6 ∧ 0 ≤ M 21 1 ∧ M 21 1 ≤ 4 ∧ 0 ≤ M 21 2 ∧ M 21 2 ≤ 8 ∧ -1 ≤ M 21 5 ∧ M 21 5 ≤ 5 ∧ 0 ≤ M 21 6 ∧ M 21 6 ≤ 700) : Mv l δ yX4_readReference cX4_readReference 2 none 8 214 ad rs [.ref (ad 20)] M (fun M' => (0 ≤ (M' 20 6) ∧ (M' 20 6) ≤ (M' 20 7) ∧ (M' 20 7) ≤ (M' 20 2) ∧ (M' 20 2) ≤ 700 ∧ -1 ≤ (M' 20 8) ∧ (M' 20 8) ≤ 1000 ∧ 0 ≤ M' 21 0 ∧ M' 21 0 ≤ 6 ∧ 0 ≤ M' 21 1 ∧ M' 21 1 ≤ 4 ∧ 0 ≤ M' 21 2 ∧ M' 21 2 ≤ 8 ∧ -1 ≤ M' 21 5 ∧ M' 21 5 ≤ 5 ∧ 0 ≤ M' 21 6 ∧ M' 21 6 ≤ 700) ∧ (∀ c : Nat, c ≠ 20 → c ≠ 21 → M' c = M c) ∧ (∀ i : Nat, i ≠ 3 → i ≠ 4 → i ≠ 5 → i ≠ 6 → i ≠ 7 → i ≠ 8 → M' 20 i = M 20 i) ∧ (∀ i : Nat, i ≠ 5 → M' 21 i = M 21 i)) := by
  refine Mg.of (rm := rmN 8 214) (by decide) (Nat.le_of_ble_eq_true rfl) fun κ _ hk _ => ?_
  generalize hQ : Qg κ δ 121 (rmN 8 214).cells (rmN 8 214).slots _ = Q
  show Zj κ δ ad rs Q 2 (121, 0, 0) 0 [some (.ref (ad 20)), none] [] M
  refine Z_aload0 hk dX4_readReference_0 ?_
  refine Z_Vv hk (c_X4_readToken κ.2.1 δ ad _ hA  hz (by (omega))) ov_X4_readToken ml_X4_40 dX4_readReference_1 rfl ⟨by decide, by decide⟩ ob_20.1 (by decide) (by decide) rfl (Nat.le_of_ble_eq_true rfl) (fun m1 p1 => ?_)
  obtain ⟨p1, f1_0, f1_1⟩ := p1
  try simp only [f1_0, f1_1, and_true, true_and, or_true, true_or, implies_true, upn, reduceIte, Nat.reduceEqDiff, ne_eq, not_false_eq_true, upc] at p1
  refine Z_aload0 hk dX4_readReference_4 ?_
  refine Z_iconst hk dX4_readReference_5 ?_
  refine Z_Vi hk (c_X4_takeProduct κ.2.1 δ ad _ hA (-1) hz (by (try simp only [f1_0, f1_1, and_true, true_and, or_true, true_or, implies_true, upn, reduceIte, Nat.reduceEqDiff, ne_eq, not_false_eq_true, upc]) <;> (omega)) (by (try simp only [f1_0, f1_1, and_true, true_and, or_true, true_or, implies_true, upn, reduceIte, Nat.reduceEqDiff, ne_eq, not_false_eq_true, upc]) <;> (omega)) (by (try simp only [f1_0, f1_1, and_true, true_and, or_true, true_or, implies_true, upn, reduceIte, Nat.reduceEqDiff, ne_eq, not_false_eq_true, upc]) <;> (omega)) (by (try simp only [f1_0, f1_1, and_true, true_and, or_true, true_or, implies_true, upn, reduceIte, Nat.reduceEqDiff, ne_eq, not_false_eq_true, upc]) <;> (omega))) ov_X4_takeProduct ml_X4_99 dX4_readReference_6 rfl ⟨by decide, by decide⟩ ob_20.1 (by decide) (by decide) rfl (Nat.le_of_ble_eq_true rfl) (fun r6 m6 p6 => ?_)
  obtain ⟨p6, f6_0, f6_1⟩ := p6
  try simp only [f6_0, f6_1, f1_0, f1_1, and_true, true_and, or_true, true_or, implies_true, upn, reduceIte, Nat.reduceEqDiff, ne_eq, not_false_eq_true, upc] at p6
  refine Z_istore1 hk rfl (by decide) dX4_readReference_9 ?_
  refine Z_aload0 hk dX4_readReference_10 ?_
  refine Z_getI hk fl_4_23 dX4_readReference_11 ob_20.1 ob_20.2.1 ob_20.2.2.1 ob_20.2.2.2 ft_4_3 (fun v11 e11 a11 b11 => ?_)
  try simp only [f6_0, f6_1, f1_0, f1_1, and_true, true_and, or_true, true_or, implies_true, upn, reduceIte, Nat.reduceEqDiff, ne_eq, not_false_eq_true, upc] at e11
  refine Z_if_ne hk (tgt := 25) dX4_readReference_14 (by decide) (by omega) (by omega) (fun h14 => ?_) (fun h14 => ?_)
  · exact Z_vret hk hA hQ dX4_readReference_25 ⟨rfl, rfl, rfl, (by exact ⟨(by (try simp only [f6_0, f6_1, f1_0, f1_1, and_true, true_and, or_true, true_or, implies_true, upn, reduceIte, Nat.reduceEqDiff, ne_eq, not_false_eq_true, upc]) <;> (omega)), (by intro c k0 k1; simp only [f6_0, f6_1, f1_0, f1_1, upc, upn, k0, k1, reduceIte, Nat.reduceEqDiff, ne_eq, not_false_eq_true]), (by intro i k0 k1 k2 k3 k4 k5; simp only [f6_0, f6_1, f1_0, f1_1, upc, upn, k0, k1, k2, k3, k4, k5, reduceIte, Nat.reduceEqDiff, ne_eq, not_false_eq_true]), (by intro i k0; simp only [f6_0, f6_1, f1_0, f1_1, upc, upn, k0, reduceIte, Nat.reduceEqDiff, ne_eq, not_false_eq_true])⟩)⟩
  · refine Z_aload0 hk dX4_readReference_17 ?_
    refine Z_getR hk fl_4_15 dX4_readReference_18 ob_20.1 ob_20.2.1 ob_20.2.2.1 ob_20.2.2.2 ft_4_1 rs_20_1 ?_
    refine Z_iload1 hk dX4_readReference_21 ?_
    refine Z_putI hk hA fl_4_132 dX4_readReference_22 ob_21.1 ob_21.2.1 ob_21.2.2.1 ob_21.2.2.2 ft_3_5 (by omega) (by omega) ?_
    refine Z_nm (fun m22 em22 => ?_)
    exact Z_vret hk hA hQ dX4_readReference_25 ⟨rfl, rfl, rfl, (by exact ⟨(by (try simp only [em22, f6_0, f6_1, f1_0, f1_1, and_true, true_and, or_true, true_or, implies_true, upn, reduceIte, Nat.reduceEqDiff, ne_eq, not_false_eq_true, upc]) <;> (omega)), (by intro c k0 k1; simp only [em22, f6_0, f6_1, f1_0, f1_1, upc, upn, k0, k1, reduceIte, Nat.reduceEqDiff, ne_eq, not_false_eq_true]), (by intro i k0 k1 k2 k3 k4 k5; simp only [em22, f6_0, f6_1, f1_0, f1_1, upc, upn, k0, k1, k2, k3, k4, k5, reduceIte, Nat.reduceEqDiff, ne_eq, not_false_eq_true]), (by intro i k0; simp only [em22, f6_0, f6_1, f1_0, f1_1, upc, upn, k0, reduceIte, Nat.reduceEqDiff, ne_eq, not_false_eq_true])⟩)⟩
