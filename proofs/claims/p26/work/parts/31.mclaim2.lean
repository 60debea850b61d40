theorem ef_le (c : Int) : ef c ≤ 1 := by unfold ef; split <;> (try split) <;> omega
theorem dpt_le (f : Nat → Int) (a n : Nat) : dpt f a n ≤ n := by
  induction n with
  | zero => exact Int.le_refl 0
  | succ n ih =>
    have := ef_le (f (a + n))
    show dpt f a n + ef (f (a + n)) ≤ ((n + 1 : Nat) : Int)
    push_cast
    omega
theorem ef_hi {c : Int} (h : 100 ≤ c) : ef c = 1 := by unfold ef; rw [if_pos h]
theorem ef_no : ef 16 = 0 := by unfold ef; rw [if_neg (by decide), if_pos rfl]
theorem ef_lo {c : Int} (h : c < 100) (h2 : c ≠ 16) : ef c = -1 := by unfold ef; rw [if_neg (by omega), if_neg h2]
set_option maxRecDepth 10000 in
theorem c_X9_scored (l : Launch) (δ : Dp) (ad : Nat → Nat) (M : Mem) (hA : okA δ ad) (k : Int) (s : Int) (p : Int) (q0 : 0 ≤ (M 48 65) ∧ (M 48 65) ≤ 6 ∧ 0 ≤ (M 48 66) ∧ (M 48 66) ≤ 4 ∧ -1 ≤ (M 48 76) ∧ (M 48 76) ≤ 5 ∧ 0 ≤ (M 48 77) ∧ (M 48 77) ≤ 8 ∧ 0 ≤ (M 48 84) ∧ (M 48 84) ≤ 250 ∧ -1 ≤ (M 48 91) ∧ (M 48 91) ≤ (M 48 84)) (q2 : AC (M 48 84) (M 104) (M 105) (M 106) (M 107) (M 108)) (i_k : -2147483648 ≤ k ∧ k ≤ 2147483647) (i_s : -2147483648 ≤ s ∧ s ≤ 2147483647) (i_p : -2147483648 ≤ p ∧ p ≤ 2147483647) : Mi l δ yX9_scored cX9_scored 5 (some (.int)) 4 97 ad rs [.ref (ad 48), iv k, iv s, iv p] M (fun r M' => (True) ∧ (∀ c : Nat, c ≠ 113 → c ≠ 114 → c ≠ 115 → c ≠ 116 → c ≠ 48 → M' c = M c) ∧ (∀ i : Nat, i ≠ 104 → M' 48 i = M 48 i)) := by
  refine Mg.of (rm := rmN 4 97) (by decide) (Nat.le_of_ble_eq_true rfl) fun κ _ hk _ => ?_
  generalize hQ : Qg κ δ 121 (rmN 4 97).cells (rmN 4 97).slots _ = Q
  show Zj κ δ ad rs Q 5 (121, 0, 0) 0 [some (.ref (ad 48)), some (iv k), some (iv s), some (iv p), none] [] M
  refine Z_iload1 hk dX9_scored_0 ?_
  refine Z_Si hk (c_X9_isTaster κ.2.1 δ ad _ hA k (by (omega))) os_X9_isTaster ml_X9_473 dX9_scored_1 rfl ⟨by decide, by decide⟩ rfl (Nat.le_of_ble_eq_true rfl) (fun r1 m1 p1 => ?_)
  obtain ⟨rfl, p1⟩ := p1
  refine Z_if_eq hk (tgt := 42) dX9_scored_4 (by decide) (by omega) (by omega) (fun h4 => ?_) (fun h4 => ?_)
  · refine Z_iconst hk dX9_scored_42 ?_
    exact Z_iret hk hA hQ dX9_scored_43 ⟨rfl, rfl, _, rfl, (by exact ⟨(by (trivial)), (by intro c k0 k1 k2 k3 k4; rfl), (by intro i k0; rfl)⟩)⟩
  · refine Z_iload2 hk dX9_scored_7 ?_
    refine Z_i2l hk dX9_scored_8 (by omega) (by omega) ?_
    refine Z_lconst0 hk dX9_scored_9 ?_
    refine Z_ldc2_w hk (n := 9) (mem_g (by decide +kernel)) dX9_scored_10 ?_
    refine Z_Si hk (c_X9_isIn κ.2.1 δ ad _ hA s 0 (9) (by (omega)) (by (omega)) (by (omega))) os_X9_isIn ml_X9_285 dX9_scored_13 rfl ⟨by decide, by decide⟩ rfl (Nat.le_of_ble_eq_true rfl) (fun r13 m13 p13 => ?_)
    obtain ⟨rfl, p13⟩ := p13
    refine Z_if_eq hk (tgt := 42) dX9_scored_16 (by decide) (by omega) (by omega) (fun h16 => ?_) (fun h16 => ?_)
    · refine Z_iconst hk dX9_scored_42 ?_
      exact Z_iret hk hA hQ dX9_scored_43 ⟨rfl, rfl, _, rfl, (by exact ⟨(by (trivial)), (by intro c k0 k1 k2 k3 k4; rfl), (by intro i k0; rfl)⟩)⟩
    · refine Z_iload3 hk dX9_scored_19 ?_
      refine Z_i2l hk dX9_scored_20 (by omega) (by omega) ?_
      refine Z_lconst0 hk dX9_scored_21 ?_
      refine Z_aload0 hk dX9_scored_22 ?_
      refine Z_getI hk fl_9_433 dX9_scored_23 ob_48.1 ob_48.2.1 ob_48.2.2.1 ob_48.2.2.2 ft_9_65 (fun v23 e23 a23 b23 => ?_)
      refine Z_iconst hk dX9_scored_26 ?_
      refine Z_isub hk dX9_scored_27 ?_
      refine Z_i2l hk dX9_scored_28 (by omega) (by omega) ?_
      refine Z_Si hk (c_X9_isIn κ.2.1 δ ad _ hA p 0 (v23 - 1) (by (omega)) (by (omega)) (by (omega))) os_X9_isIn ml_X9_285 dX9_scored_29 rfl ⟨by decide, by decide⟩ rfl (Nat.le_of_ble_eq_true rfl) (fun r29 m29 p29 => ?_)
      obtain ⟨rfl, p29⟩ := p29
      refine Z_if_eq hk (tgt := 42) dX9_scored_32 (by decide) (by omega) (by omega) (fun h32 => ?_) (fun h32 => ?_)
      · refine Z_iconst hk dX9_scored_42 ?_
        exact Z_iret hk hA hQ dX9_scored_43 ⟨rfl, rfl, _, rfl, (by exact ⟨(by (trivial)), (by intro c k0 k1 k2 k3 k4; rfl), (by intro i k0; rfl)⟩)⟩
      · refine Z_aload0 hk dX9_scored_35 ?_
        refine Z_getZ hk fl_9_448 dX9_scored_36 ob_48.1 ob_48.2.1 ob_48.2.2.1 ob_48.2.2.2 ft_9_92 (fun v36 e36 a36 b36 => ?_)
        try simp only [e23, and_true, true_and, or_true, true_or, implies_true, upn, reduceIte, Nat.reduceEqDiff, ne_eq, not_false_eq_true, upc] at e36
        refine Z_if_ne hk (tgt := 44) dX9_scored_39 (by decide) (by omega) (by omega) (fun h39 => ?_) (fun h39 => ?_)
        · refine Z_aload0 hk dX9_scored_44 ?_
          refine Z_Vv hk (c_X9_gathers κ.2.1 δ ad _ hA  (by (omega)) (by (exact q2)) (by (omega))) ov_X9_gathers ml_X9_588 dX9_scored_45 rfl ⟨by decide, by decide⟩ ob_48.1 (by decide) (by decide) rfl (Nat.le_of_ble_eq_true rfl) (fun m45 p45 => ?_)
          obtain ⟨p45, f45_0, f45_1, f45_2, f45_3⟩ := p45
          try simp only [f45_0, f45_1, f45_2, f45_3, e23, e36, and_true, true_and, or_true, true_or, implies_true, upn, reduceIte, Nat.reduceEqDiff, ne_eq, not_false_eq_true, upc] at p45
          refine Z_aload0 hk dX9_scored_48 ?_
          refine Z_iload1 hk dX9_scored_49 ?_
          refine Z_iload2 hk dX9_scored_50 ?_
          refine Z_iload3 hk dX9_scored_51 ?_
          refine Z_Vi hk (c_X9_scoreAct κ.2.1 δ ad _ hA k s p (by (try simp only [f45_0, f45_1, f45_2, f45_3, and_true, true_and, or_true, true_or, implies_true, upn, reduceIte, Nat.reduceEqDiff, ne_eq, not_false_eq_true, upc]) <;> (omega)) (by (try simp only [f45_0, f45_1, f45_2, f45_3, and_true, true_and, or_true, true_or, implies_true, upn, reduceIte, Nat.reduceEqDiff, ne_eq, not_false_eq_true, upc]) <;> (omega)) (by (try simp only [f45_0, f45_1, f45_2, f45_3, and_true, true_and, or_true, true_or, implies_true, upn, reduceIte, Nat.reduceEqDiff, ne_eq, not_false_eq_true, upc]) <;> (exact f45_2))) ov_X9_scoreAct ml_X9_591 dX9_scored_52 rfl ⟨by decide, by decide⟩ ob_48.1 (by decide) (by decide) rfl (Nat.le_of_ble_eq_true rfl) (fun r52 m52 p52 => ?_)
          obtain ⟨rfl, p52⟩ := p52
          try simp only [f45_0, f45_1, f45_2, f45_3, e23, e36, and_true, true_and, or_true, true_or, implies_true, upn, reduceIte, Nat.reduceEqDiff, ne_eq, not_false_eq_true, upc] at p52
          refine Z_istore4 hk rfl (by decide) dX9_scored_55 ?_
          refine Z_iload4 hk dX9_scored_57 ?_
          refine Z_iconst hk dX9_scored_59 ?_
          refine Z_icmp_ne hk (tgt := 67) dX9_scored_60 (by decide) (by omega) (by omega) (by decide) (by decide) (fun h60 => ?_) (fun h60 => ?_)
          · refine Z_aload0 hk dX9_scored_67 ?_
            refine Z_iload4 hk dX9_scored_68 ?_
            refine Z_Vi hk (c_X9_scaled κ.2.1 δ ad _ hA r52 (by (try simp only [f45_0, f45_1, f45_2, f45_3, and_true, true_and, or_true, true_or, implies_true, upn, reduceIte, Nat.reduceEqDiff, ne_eq, not_false_eq_true, upc]) <;> (omega)) (by (try simp only [f45_0, f45_1, f45_2, f45_3, and_true, true_and, or_true, true_or, implies_true, upn, reduceIte, Nat.reduceEqDiff, ne_eq, not_false_eq_true, upc]) <;> (omega)) (by (try simp only [f45_0, f45_1, f45_2, f45_3, and_true, true_and, or_true, true_or, implies_true, upn, reduceIte, Nat.reduceEqDiff, ne_eq, not_false_eq_true, upc]) <;> (exact q2)) (by (try simp only [f45_0, f45_1, f45_2, f45_3, and_true, true_and, or_true, true_or, implies_true, upn, reduceIte, Nat.reduceEqDiff, ne_eq, not_false_eq_true, upc]) <;> (exact f45_3))) ov_X9_scaled ml_X9_595 dX9_scored_70 rfl ⟨by decide, by decide⟩ ob_48.1 (by decide) (by decide) rfl (Nat.le_of_ble_eq_true rfl) (fun r70 m70 p70 => ?_)
            obtain ⟨rfl, p70⟩ := p70
            try simp only [f45_0, f45_1, f45_2, f45_3, e23, e36, and_true, true_and, or_true, true_or, implies_true, upn, reduceIte, Nat.reduceEqDiff, ne_eq, not_false_eq_true, upc] at p70
            exact Z_iret hk hA hQ dX9_scored_73 ⟨rfl, rfl, _, rfl, (by exact ⟨(by (try simp only [f45_0, f45_1, f45_2, f45_3, and_true, true_and, or_true, true_or, implies_true, upn, reduceIte, Nat.reduceEqDiff, ne_eq, not_false_eq_true, upc]) <;> (trivial)), (by intro c k0 k1 k2 k3 k4; simp only [f45_0, f45_1, f45_2, f45_3, upc, upn, k0, k1, k2, k3, k4, reduceIte, Nat.reduceEqDiff, ne_eq, not_false_eq_true]), (by intro i k0; simp only [f45_0, f45_1, f45_2, f45_3, upc, upn, k0, reduceIte, Nat.reduceEqDiff, ne_eq, not_false_eq_true])⟩)⟩
          · refine Z_iconst hk dX9_scored_63 ?_
            refine Z_goto hk (tgt := 73) dX9_scored_64 (by decide) ?_
            exact Z_iret hk hA hQ dX9_scored_73 ⟨rfl, rfl, _, rfl, (by exact ⟨(by (try simp only [f45_0, f45_1, f45_2, f45_3, and_true, true_and, or_true, true_or, implies_true, upn, reduceIte, Nat.reduceEqDiff, ne_eq, not_false_eq_true, upc]) <;> (trivial)), (by intro c k0 k1 k2 k3 k4; simp only [f45_0, f45_1, f45_2, f45_3, upc, upn, k0, k1, k2, k3, k4, reduceIte, Nat.reduceEqDiff, ne_eq, not_false_eq_true]), (by intro i k0; simp only [f45_0, f45_1, f45_2, f45_3, upc, upn, k0, reduceIte, Nat.reduceEqDiff, ne_eq, not_false_eq_true])⟩)⟩
        · refine Z_iconst hk dX9_scored_42 ?_
          exact Z_iret hk hA hQ dX9_scored_43 ⟨rfl, rfl, _, rfl, (by exact ⟨(by (trivial)), (by intro c k0 k1 k2 k3 k4; rfl), (by intro i k0; rfl)⟩)⟩
set_option maxRecDepth 10000 in
theorem c_X9_mean (l : Launch) (δ : Dp) (ad : Nat → Nat) (M : Mem) (hA : okA δ ad) (p : Int) (q0 : 0 ≤ (M 48 65) ∧ (M 48 65) ≤ 6 ∧ 0 ≤ (M 48 66) ∧ (M 48 66) ≤ 4 ∧ -1 ≤ (M 48 76) ∧ (M 48 76) ≤ 5 ∧ 0 ≤ (M 48 77) ∧ (M 48 77) ≤ 8 ∧ 0 ≤ (M 48 84) ∧ (M 48 84) ≤ 250 ∧ -1 ≤ (M 48 91) ∧ (M 48 91) ≤ (M 48 84)) (q2 : AC (M 48 84) (M 104) (M 105) (M 106) (M 107) (M 108)) (i_p : -2147483648 ≤ p ∧ p ≤ 2147483647) : Mi l δ yX9_mean cX9_mean 2 (some (.int)) 4 97 ad rs [.ref (ad 48), iv p] M (fun r M' => (True) ∧ (∀ c : Nat, c ≠ 113 → c ≠ 114 → c ≠ 115 → c ≠ 116 → c ≠ 48 → M' c = M c) ∧ (∀ i : Nat, i ≠ 104 → M' 48 i = M 48 i)) := by
  refine Mg.of (rm := rmN 4 97) (by decide) (Nat.le_of_ble_eq_true rfl) fun κ _ hk _ => ?_
  generalize hQ : Qg κ δ 121 (rmN 4 97).cells (rmN 4 97).slots _ = Q
  show Zj κ δ ad rs Q 2 (121, 0, 0) 0 [some (.ref (ad 48)), some (iv p)] [] M
  refine Z_iload1 hk dX9_mean_0 ?_
  refine Z_i2l hk dX9_mean_1 (by omega) (by omega) ?_
  refine Z_lconst0 hk dX9_mean_2 ?_
  refine Z_aload0 hk dX9_mean_3 ?_
  refine Z_getI hk fl_9_433 dX9_mean_4 ob_48.1 ob_48.2.1 ob_48.2.2.1 ob_48.2.2.2 ft_9_65 (fun v4 e4 a4 b4 => ?_)
  refine Z_iconst hk dX9_mean_7 ?_
  refine Z_isub hk dX9_mean_8 ?_
  refine Z_i2l hk dX9_mean_9 (by omega) (by omega) ?_
  refine Z_Si hk (c_X9_isIn κ.2.1 δ ad _ hA p 0 (v4 - 1) (by (omega)) (by (omega)) (by (omega))) os_X9_isIn ml_X9_285 dX9_mean_10 rfl ⟨by decide, by decide⟩ rfl (Nat.le_of_ble_eq_true rfl) (fun r10 m10 p10 => ?_)
  obtain ⟨rfl, p10⟩ := p10
  refine Z_if_eq hk (tgt := 23) dX9_mean_13 (by decide) (by omega) (by omega) (fun h13 => ?_) (fun h13 => ?_)
  · refine Z_iconst hk dX9_mean_23 ?_
    exact Z_iret hk hA hQ dX9_mean_24 ⟨rfl, rfl, _, rfl, (by exact ⟨(by (trivial)), (by intro c k0 k1 k2 k3 k4; rfl), (by intro i k0; rfl)⟩)⟩
  · refine Z_aload0 hk dX9_mean_16 ?_
    refine Z_getZ hk fl_9_448 dX9_mean_17 ob_48.1 ob_48.2.1 ob_48.2.2.1 ob_48.2.2.2 ft_9_92 (fun v17 e17 a17 b17 => ?_)
    try simp only [e4, and_true, true_and, or_true, true_or, implies_true, upn, reduceIte, Nat.reduceEqDiff, ne_eq, not_false_eq_true, upc] at e17
    refine Z_if_ne hk (tgt := 25) dX9_mean_20 (by decide) (by omega) (by omega) (fun h20 => ?_) (fun h20 => ?_)
    · refine Z_aload0 hk dX9_mean_25 ?_
      refine Z_Vv hk (c_X9_gathers κ.2.1 δ ad _ hA  (by (omega)) (by (exact q2)) (by (omega))) ov_X9_gathers ml_X9_588 dX9_mean_26 rfl ⟨by decide, by decide⟩ ob_48.1 (by decide) (by decide) rfl (Nat.le_of_ble_eq_true rfl) (fun m26 p26 => ?_)
      obtain ⟨p26, f26_0, f26_1, f26_2, f26_3⟩ := p26
      try simp only [f26_0, f26_1, f26_2, f26_3, e4, e17, and_true, true_and, or_true, true_or, implies_true, upn, reduceIte, Nat.reduceEqDiff, ne_eq, not_false_eq_true, upc] at p26
      refine Z_aload0 hk dX9_mean_29 ?_
      refine Z_iload1 hk dX9_mean_30 ?_
      refine Z_Vi hk (c_X9_meanOf κ.2.1 δ ad _ hA p (by (try simp only [f26_0, f26_1, f26_2, f26_3, and_true, true_and, or_true, true_or, implies_true, upn, reduceIte, Nat.reduceEqDiff, ne_eq, not_false_eq_true, upc]) <;> (omega)) (by (try simp only [f26_0, f26_1, f26_2, f26_3, and_true, true_and, or_true, true_or, implies_true, upn, reduceIte, Nat.reduceEqDiff, ne_eq, not_false_eq_true, upc]) <;> (omega)) (by (try simp only [f26_0, f26_1, f26_2, f26_3, and_true, true_and, or_true, true_or, implies_true, upn, reduceIte, Nat.reduceEqDiff, ne_eq, not_false_eq_true, upc]) <;> (exact q2)) (by (try simp only [f26_0, f26_1, f26_2, f26_3, and_true, true_and, or_true, true_or, implies_true, upn, reduceIte, Nat.reduceEqDiff, ne_eq, not_false_eq_true, upc]) <;> (exact f26_2)) (by (try simp only [f26_0, f26_1, f26_2, f26_3, and_true, true_and, or_true, true_or, implies_true, upn, reduceIte, Nat.reduceEqDiff, ne_eq, not_false_eq_true, upc]) <;> (exact f26_3))) ov_X9_meanOf ml_X9_609 dX9_mean_31 rfl ⟨by decide, by decide⟩ ob_48.1 (by decide) (by decide) rfl (Nat.le_of_ble_eq_true rfl) (fun r31 m31 p31 => ?_)
      obtain ⟨rfl, p31⟩ := p31
      try simp only [f26_0, f26_1, f26_2, f26_3, e4, e17, and_true, true_and, or_true, true_or, implies_true, upn, reduceIte, Nat.reduceEqDiff, ne_eq, not_false_eq_true, upc] at p31
      exact Z_iret hk hA hQ dX9_mean_34 ⟨rfl, rfl, _, rfl, (by exact ⟨(by (try simp only [f26_0, f26_1, f26_2, f26_3, and_true, true_and, or_true, true_or, implies_true, upn, reduceIte, Nat.reduceEqDiff, ne_eq, not_false_eq_true, upc]) <;> (trivial)), (by intro c k0 k1 k2 k3 k4; simp only [f26_0, f26_1, f26_2, f26_3, upc, upn, k0, k1, k2, k3, k4, reduceIte, Nat.reduceEqDiff, ne_eq, not_false_eq_true]), (by intro i k0; simp only [f26_0, f26_1, f26_2, f26_3, upc, upn, k0, reduceIte, Nat.reduceEqDiff, ne_eq, not_false_eq_true])⟩)⟩
    · refine Z_iconst hk dX9_mean_23 ?_
      exact Z_iret hk hA hQ dX9_mean_24 ⟨rfl, rfl, _, rfl, (by exact ⟨(by (trivial)), (by intro c k0 k1 k2 k3 k4; rfl), (by intro i k0; rfl)⟩)⟩
set_option maxRecDepth 10000 in
theorem c_X9_drift (l : Launch) (δ : Dp) (ad : Nat → Nat) (M : Mem) (hA : okA δ ad) (s : Int) (q0 : 0 ≤ (M 48 65) ∧ (M 48 65) ≤ 6 ∧ 0 ≤ (M 48 66) ∧ (M 48 66) ≤ 4 ∧ -1 ≤ (M 48 76) ∧ (M 48 76) ≤ 5 ∧ 0 ≤ (M 48 77) ∧ (M 48 77) ≤ 8 ∧ 0 ≤ (M 48 84) ∧ (M 48 84) ≤ 250 ∧ -1 ≤ (M 48 91) ∧ (M 48 91) ≤ (M 48 84)) (q2 : AC (M 48 84) (M 104) (M 105) (M 106) (M 107) (M 108)) (i_s : -2147483648 ≤ s ∧ s ≤ 2147483647) : Mi l δ yX9_drift cX9_drift 2 (some (.int)) 4 97 ad rs [.ref (ad 48), iv s] M (fun r M' => (True) ∧ (∀ c : Nat, c ≠ 113 → c ≠ 114 → c ≠ 115 → c ≠ 116 → c ≠ 48 → M' c = M c) ∧ (∀ i : Nat, i ≠ 104 → M' 48 i = M 48 i)) := by
  refine Mg.of (rm := rmN 4 97) (by decide) (Nat.le_of_ble_eq_true rfl) fun κ _ hk _ => ?_
  generalize hQ : Qg κ δ 121 (rmN 4 97).cells (rmN 4 97).slots _ = Q
  show Zj κ δ ad rs Q 2 (121, 0, 0) 0 [some (.ref (ad 48)), some (iv s)] [] M
  refine Z_iload1 hk dX9_drift_0 ?_
  refine Z_i2l hk dX9_drift_1 (by omega) (by omega) ?_
  refine Z_lconst0 hk dX9_drift_2 ?_
  refine Z_ldc2_w hk (n := 9) (mem_g (by decide +kernel)) dX9_drift_3 ?_
  refine Z_Si hk (c_X9_isIn κ.2.1 δ ad _ hA s 0 (9) (by (omega)) (by (omega)) (by (omega))) os_X9_isIn ml_X9_285 dX9_drift_6 rfl ⟨by decide, by decide⟩ rfl (Nat.le_of_ble_eq_true rfl) (fun r6 m6 p6 => ?_)
  obtain ⟨rfl, p6⟩ := p6
  refine Z_if_eq hk (tgt := 19) dX9_drift_9 (by decide) (by omega) (by omega) (fun h9 => ?_) (fun h9 => ?_)
  · refine Z_ldc_w hk (n := -1000000000) (mem_g (by decide +kernel)) dX9_drift_19 ?_
    exact Z_iret hk hA hQ dX9_drift_22 ⟨rfl, rfl, _, rfl, (by exact ⟨(by (trivial)), (by intro c k0 k1 k2 k3 k4; rfl), (by intro i k0; rfl)⟩)⟩
  · refine Z_aload0 hk dX9_drift_12 ?_
    refine Z_getZ hk fl_9_448 dX9_drift_13 ob_48.1 ob_48.2.1 ob_48.2.2.1 ob_48.2.2.2 ft_9_92 (fun v13 e13 a13 b13 => ?_)
    refine Z_if_ne hk (tgt := 23) dX9_drift_16 (by decide) (by omega) (by omega) (fun h16 => ?_) (fun h16 => ?_)
    · refine Z_aload0 hk dX9_drift_23 ?_
      refine Z_Vv hk (c_X9_gathers κ.2.1 δ ad _ hA  (by (omega)) (by (exact q2)) (by (omega))) ov_X9_gathers ml_X9_588 dX9_drift_24 rfl ⟨by decide, by decide⟩ ob_48.1 (by decide) (by decide) rfl (Nat.le_of_ble_eq_true rfl) (fun m24 p24 => ?_)
      obtain ⟨p24, f24_0, f24_1, f24_2, f24_3⟩ := p24
      try simp only [f24_0, f24_1, f24_2, f24_3, e13, and_true, true_and, or_true, true_or, implies_true, upn, reduceIte, Nat.reduceEqDiff, ne_eq, not_false_eq_true, upc] at p24
      refine Z_aload0 hk dX9_drift_27 ?_
      refine Z_getR hk fl_9_227 dX9_drift_28 ob_48.1 ob_48.2.1 ob_48.2.2.1 ob_48.2.2.2 ft_9_105 rs_48_105 ?_
      refine Z_iload1 hk dX9_drift_31 ?_
      refine Z_iald hk dX9_drift_32 ar_116.1 ar_116.2.1 ar_116.2.2 (by omega) (by omega) (fun v32 e32 a32 b32 => ?_)
      try simp only [f24_0, f24_1, f24_2, f24_3, e13, and_true, true_and, or_true, true_or, implies_true, upn, reduceIte, Nat.reduceEqDiff, ne_eq, not_false_eq_true, upc] at e32
      exact Z_iret hk hA hQ dX9_drift_33 ⟨rfl, rfl, _, rfl, (by exact ⟨(by (try simp only [f24_0, f24_1, f24_2, f24_3, and_true, true_and, or_true, true_or, implies_true, upn, reduceIte, Nat.reduceEqDiff, ne_eq, not_false_eq_true, upc]) <;> (trivial)), (by intro c k0 k1 k2 k3 k4; simp only [f24_0, f24_1, f24_2, f24_3, upc, upn, k0, k1, k2, k3, k4, reduceIte, Nat.reduceEqDiff, ne_eq, not_false_eq_true]), (by intro i k0; simp only [f24_0, f24_1, f24_2, f24_3, upc, upn, k0, reduceIte, Nat.reduceEqDiff, ne_eq, not_false_eq_true])⟩)⟩
    · refine Z_ldc_w hk (n := -1000000000) (mem_g (by decide +kernel)) dX9_drift_19 ?_
      exact Z_iret hk hA hQ dX9_drift_22 ⟨rfl, rfl, _, rfl, (by exact ⟨(by (trivial)), (by intro c k0 k1 k2 k3 k4; rfl), (by intro i k0; rfl)⟩)⟩
set_option maxRecDepth 10000 in
theorem c_X9_clip (l : Launch) (δ : Dp) (ad : Nat → Nat) (M : Mem) (hA : okA δ ad) (v : Int) (i_v : -9223372036854775808 ≤ v ∧ v ≤ 9223372036854775807) : Mj l δ yX9_clip cX9_clip 2 (some (.long)) 0 0 ad rs [jv v] M (fun r M' => M = M' ∧ (-9223372036854775808 ≤ r ∧ r ≤ 9223372036854775807)) := by
  refine Mg.of (rm := rmN 0 0) (by decide) (Nat.le_of_ble_eq_true rfl) fun κ _ hk _ => ?_
  generalize hQ : Qg κ δ 121 (rmN 0 0).cells (rmN 0 0).slots _ = Q
  show Zj κ δ ad rs Q 2 (121, 0, 0) 0 [some (jv v), none] [] M
  refine Z_lload0 hk dX9_clip_0 ?_
  refine Z_ldc2_w hk (n := 1000000000) (mem_g (by decide +kernel)) dX9_clip_1 ?_
  refine Z_lcmp hk dX9_clip_4 (by omega) (by omega) (by omega) (by omega) (fun v4 e4 => ?_)
  refine Z_if_le hk (tgt := 14) dX9_clip_5 (by decide) (by omega) (by omega) (fun h5 => ?_) (fun h5 => ?_)
  · refine Z_lload0 hk dX9_clip_14 ?_
    refine Z_ldc2_w hk (n := -1000000000) (mem_g (by decide +kernel)) dX9_clip_15 ?_
    refine Z_lcmp hk dX9_clip_18 (by omega) (by omega) (by decide) (by decide) (fun v18 e18 => ?_)
    refine Z_if_ge hk (tgt := 28) dX9_clip_19 (by decide) (by omega) (by omega) (fun h19 => ?_) (fun h19 => ?_)
    · refine Z_lload0 hk dX9_clip_28 ?_
      exact Z_lret hk hA hQ dX9_clip_29 ⟨rfl, rfl, _, rfl, (by exact ⟨rfl, (by omega)⟩)⟩
    · refine Z_ldc2_w hk (n := -1000000000) (mem_g (by decide +kernel)) dX9_clip_22 ?_
      refine Z_goto hk (tgt := 29) dX9_clip_25 (by decide) ?_
      exact Z_lret hk hA hQ dX9_clip_29 ⟨rfl, rfl, _, rfl, (by exact ⟨rfl, (by omega)⟩)⟩
  · refine Z_ldc2_w hk (n := 1000000000) (mem_g (by decide +kernel)) dX9_clip_8 ?_
    refine Z_goto hk (tgt := 29) dX9_clip_11 (by decide) ?_
    exact Z_lret hk hA hQ dX9_clip_29 ⟨rfl, rfl, _, rfl, (by exact ⟨rfl, (by omega)⟩)⟩
set_option maxRecDepth 10000 in
theorem c_X9_floor (l : Launch) (δ : Dp) (ad : Nat → Nat) (M : Mem) (hA : okA δ ad) (v : Int) (b : Int) (i_v : -9223372036854775808 ≤ v ∧ v ≤ 9223372036854775807) (i_b : -9223372036854775808 ≤ b ∧ b ≤ 9223372036854775807) : Mj l δ yX9_floor cX9_floor 6 (some (.long)) 0 0 ad rs [jv v, jv b] M (fun r M' => M = M' ∧ (-9223372036854775808 ≤ r ∧ r ≤ 9223372036854775807)) := by
  refine Mg.of (rm := rmN 0 0) (by decide) (Nat.le_of_ble_eq_true rfl) fun κ _ hk _ => ?_
  generalize hQ : Qg κ δ 121 (rmN 0 0).cells (rmN 0 0).slots _ = Q
  show Zj κ δ ad rs Q 6 (121, 0, 0) 0 [some (jv v), none, some (jv b), none, none, none] [] M
  refine Z_lload2 hk dX9_floor_0 ?_
  refine Z_lconst0 hk dX9_floor_1 ?_
  refine Z_lcmp hk dX9_floor_2 (by omega) (by omega) (by decide) (by decide) (fun v2 e2 => ?_)
  refine Z_if_ne hk (tgt := 8) dX9_floor_3 (by decide) (by omega) (by omega) (fun h3 => ?_) (fun h3 => ?_)
  · refine Z_lload0 hk dX9_floor_8 ?_
    refine Z_lload2 hk dX9_floor_9 ?_
    refine Z_ldiv hk dX9_floor_10 (by omega) (by omega) (by omega) (by omega) (by omega) ?_
    refine Z_wJ (fun w10 a10w b10w g10w => ?_)
    refine Z_lstore4 hk rfl (by decide) dX9_floor_11 ?_
    refine Z_lload0 hk dX9_floor_13 ?_
    refine Z_lload2 hk dX9_floor_14 ?_
    refine Z_lrem hk dX9_floor_15 (by omega) (by omega) (by omega) (by omega) (by omega) ?_
    refine Z_wJ (fun w15 a15w b15w g15w => ?_)
    refine Z_lconst0 hk dX9_floor_16 ?_
    refine Z_lcmp hk dX9_floor_17 (by omega) (by omega) (by decide) (by decide) (fun v17 e17 => ?_)
    refine Z_if_eq hk (tgt := 53) dX9_floor_18 (by decide) (by omega) (by omega) (fun h18 => ?_) (fun h18 => ?_)
    · refine Z_lload4 hk dX9_floor_53 ?_
      exact Z_lret hk hA hQ dX9_floor_55 ⟨rfl, rfl, _, rfl, (by exact ⟨rfl, (by omega)⟩)⟩
    · refine Z_lload0 hk dX9_floor_21 ?_
      refine Z_lconst0 hk dX9_floor_22 ?_
      refine Z_lcmp hk dX9_floor_23 (by omega) (by omega) (by decide) (by decide) (fun v23 e23 => ?_)
      have J32 : ∀ (y0_32 : Int), (0 ≤ y0_32 ∧ y0_32 ≤ 1) → Zj κ δ ad rs Q 6 (121, 0, 0) 32 [some (jv v), none, some (jv b), none, some (jv w10), none] [iv y0_32] M := by
        intro y0_32 h32
        refine Z_lload2 hk dX9_floor_32 ?_
        refine Z_lconst0 hk dX9_floor_33 ?_
        refine Z_lcmp hk dX9_floor_34 (by omega) (by omega) (by decide) (by decide) (fun v34 e34 => ?_)
        have J43 : ∀ (y1_43 : Int), (0 ≤ y1_43 ∧ y1_43 ≤ 1) → Zj κ δ ad rs Q 6 (121, 0, 0) 43 [some (jv v), none, some (jv b), none, some (jv w10), none] [iv y1_43, iv y0_32] M := by
          intro y1_43 h43
          refine Z_icmp_eq hk (tgt := 53) dX9_floor_43 (by decide) (by omega) (by omega) (by omega) (by omega) (fun h43 => ?_) (fun h43 => ?_)
          · refine Z_lload4 hk dX9_floor_53 ?_
            exact Z_lret hk hA hQ dX9_floor_55 ⟨rfl, rfl, _, rfl, (by exact ⟨rfl, (by omega)⟩)⟩
          · refine Z_lload4 hk dX9_floor_46 ?_
            refine Z_lconst1 hk dX9_floor_48 ?_
            refine Z_lsub hk dX9_floor_49 ?_
            refine Z_wJ (fun w49 a49w b49w g49w => ?_)
            refine Z_goto hk (tgt := 55) dX9_floor_50 (by decide) ?_
            exact Z_lret hk hA hQ dX9_floor_55 ⟨rfl, rfl, _, rfl, (by exact ⟨rfl, (by omega)⟩)⟩
        refine Z_if_ge hk (tgt := 42) dX9_floor_35 (by decide) (by omega) (by omega) (fun h35 => ?_) (fun h35 => ?_)
        · refine Z_iconst hk dX9_floor_42 ?_
          exact J43 _ (by omega)
        · refine Z_iconst hk dX9_floor_38 ?_
          refine Z_goto hk (tgt := 43) dX9_floor_39 (by decide) ?_
          exact J43 _ (by omega)
      refine Z_if_ge hk (tgt := 31) dX9_floor_24 (by decide) (by omega) (by omega) (fun h24 => ?_) (fun h24 => ?_)
      · refine Z_iconst hk dX9_floor_31 ?_
        exact J32 _ (by omega)
      · refine Z_iconst hk dX9_floor_27 ?_
        refine Z_goto hk (tgt := 32) dX9_floor_28 (by decide) ?_
        exact J32 _ (by omega)
  · refine Z_lconst0 hk dX9_floor_6 ?_
    exact Z_lret hk hA hQ dX9_floor_7 ⟨rfl, rfl, _, rfl, (by exact ⟨rfl, (by omega)⟩)⟩
set_option maxRecDepth 10000 in
theorem c_X9_piles (l : Launch) (δ : Dp) (ad : Nat → Nat) (M : Mem) (hA : okA δ ad) (v : Int) (q0 : 0 ≤ (M 48 107) ∧ (M 48 107) < 800) (i_v : -9223372036854775808 ≤ v ∧ v ≤ 9223372036854775807) : Mv l δ yX9_piles cX9_piles 3 none 0 0 ad rs [.ref (ad 48), jv v] M (fun M' => ((M' 48 107) = (M 48 107) + 1) ∧ (∀ c : Nat, c ≠ 117 → c ≠ 48 → M' c = M c) ∧ (∀ i : Nat, i ≠ 107 → M' 48 i = M 48 i)) := by
  refine Mg.of (rm := rmN 0 0) (by decide) (Nat.le_of_ble_eq_true rfl) fun κ _ hk _ => ?_
  generalize hQ : Qg κ δ 121 (rmN 0 0).cells (rmN 0 0).slots _ = Q
  show Zj κ δ ad rs Q 3 (121, 0, 0) 0 [some (.ref (ad 48)), some (jv v), none] [] M
  refine Z_aload0 hk dX9_piles_0 ?_
  refine Z_getR hk fl_9_230 dX9_piles_1 ob_48.1 ob_48.2.1 ob_48.2.2.1 ob_48.2.2.2 ft_9_106 rs_48_106 ?_
  refine Z_aload0 hk dX9_piles_4 ?_
  refine Z_getI hk fl_9_617 dX9_piles_5 ob_48.1 ob_48.2.1 ob_48.2.2.1 ob_48.2.2.2 ft_9_107 (fun v5 e5 a5 b5 => ?_)
  refine Z_lload1 hk dX9_piles_8 ?_
  refine Z_last hk hA dX9_piles_9 ar_117.1 ar_117.2.1 ar_117.2.2 (by omega) (by omega) (by omega) (by omega) ?_
  refine Z_nm (fun m9 em9 => ?_)
  refine Z_aload0 hk dX9_piles_10 ?_
  refine Z_dup1 hk rfl dX9_piles_11 ?_
  refine Z_getI hk fl_9_617 dX9_piles_12 ob_48.1 ob_48.2.1 ob_48.2.2.1 ob_48.2.2.2 ft_9_107 (fun v12 e12 a12 b12 => ?_)
  try simp only [em9, e5, and_true, true_and, or_true, true_or, implies_true, upn, reduceIte, Nat.reduceEqDiff, ne_eq, not_false_eq_true, upc] at e12
  refine Z_iconst hk dX9_piles_15 ?_
  refine Z_iadd hk dX9_piles_16 ?_
  refine Z_putI hk hA fl_9_617 dX9_piles_17 ob_48.1 ob_48.2.1 ob_48.2.2.1 ob_48.2.2.2 ft_9_107 (by omega) (by omega) ?_
  refine Z_nm (fun m17 em17 => ?_)
  exact Z_vret hk hA hQ dX9_piles_20 ⟨rfl, rfl, rfl, (by exact ⟨(by (try simp only [em17, em9, and_true, true_and, or_true, true_or, implies_true, upn, reduceIte, Nat.reduceEqDiff, ne_eq, not_false_eq_true, upc]) <;> (omega)), (by intro c k0 k1; simp only [em17, em9, upc, upn, k0, k1, reduceIte, Nat.reduceEqDiff, ne_eq, not_false_eq_true]), (by intro i k0; simp only [em17, em9, upc, upn, k0, reduceIte, Nat.reduceEqDiff, ne_eq, not_false_eq_true])⟩)⟩
set_option maxHeartbeats 1000000 in
set_option maxRecDepth 10000 in
theorem c_X9_joins (l : Launch) (δ : Dp) (ad : Nat → Nat) (M : Mem) (hA : okA δ ad) (w : Int) (q0 : 2 ≤ (M 48 107) ∧ (M 48 107) ≤ 800) (i_w : -2147483648 ≤ w ∧ w ≤ 2147483647) : Mv l δ yX9_joins cX9_joins 6 none 1 25 ad rs [.ref (ad 48), iv w] M (fun M' => ((M' 48 107) = (M 48 107) - 1) ∧ (∀ c : Nat, c ≠ 117 → c ≠ 48 → M' c = M c) ∧ (∀ i : Nat, i ≠ 107 → M' 48 i = M 48 i)) := by
  refine Mg.of (rm := rmN 1 25) (by decide) (Nat.le_of_ble_eq_true rfl) fun κ _ hk _ => ?_
  generalize hQ : Qg κ δ 121 (rmN 1 25).cells (rmN 1 25).slots _ = Q
  show Zj κ δ ad rs Q 6 (121, 0, 0) 0 [some (.ref (ad 48)), some (iv w), none, none, none, none] [] M
  refine Z_aload0 hk dX9_joins_0 ?_
  refine Z_getR hk fl_9_230 dX9_joins_1 ob_48.1 ob_48.2.1 ob_48.2.2.1 ob_48.2.2.2 ft_9_106 rs_48_106 ?_
  refine Z_aload0 hk dX9_joins_4 ?_
  refine Z_getI hk fl_9_617 dX9_joins_5 ob_48.1 ob_48.2.1 ob_48.2.2.1 ob_48.2.2.2 ft_9_107 (fun v5 e5 a5 b5 => ?_)
  refine Z_iconst hk dX9_joins_8 ?_
  refine Z_isub hk dX9_joins_9 ?_
  refine Z_lald hk dX9_joins_10 ar_117.1 ar_117.2.1 ar_117.2.2 (by omega) (by omega) (fun v10 e10 a10 b10 => ?_)
  try simp only [e5, and_true, true_and, or_true, true_or, implies_true, upn, reduceIte, Nat.reduceEqDiff, ne_eq, not_false_eq_true, upc] at e10
  refine Z_lstore2 hk rfl (by decide) dX9_joins_11 ?_
  refine Z_aload0 hk dX9_joins_12 ?_
  refine Z_getR hk fl_9_230 dX9_joins_13 ob_48.1 ob_48.2.1 ob_48.2.2.1 ob_48.2.2.2 ft_9_106 rs_48_106 ?_
  refine Z_aload0 hk dX9_joins_16 ?_
  refine Z_getI hk fl_9_617 dX9_joins_17 ob_48.1 ob_48.2.1 ob_48.2.2.1 ob_48.2.2.2 ft_9_107 (fun v17 e17 a17 b17 => ?_)
  try simp only [e5, e10, and_true, true_and, or_true, true_or, implies_true, upn, reduceIte, Nat.reduceEqDiff, ne_eq, not_false_eq_true, upc] at e17
  refine Z_iconst hk dX9_joins_20 ?_
  refine Z_isub hk dX9_joins_21 ?_
  refine Z_lald hk dX9_joins_22 ar_117.1 ar_117.2.1 ar_117.2.2 (by omega) (by omega) (fun v22 e22 a22 b22 => ?_)
  try simp only [e5, e10, e17, and_true, true_and, or_true, true_or, implies_true, upn, reduceIte, Nat.reduceEqDiff, ne_eq, not_false_eq_true, upc] at e22
  refine Z_lstore4 hk rfl (by decide) dX9_joins_23 ?_
  refine Z_aload0 hk dX9_joins_25 ?_
  refine Z_dup1 hk rfl dX9_joins_26 ?_
  refine Z_getI hk fl_9_617 dX9_joins_27 ob_48.1 ob_48.2.1 ob_48.2.2.1 ob_48.2.2.2 ft_9_107 (fun v27 e27 a27 b27 => ?_)
  try simp only [e5, e10, e17, e22, and_true, true_and, or_true, true_or, implies_true, upn, reduceIte, Nat.reduceEqDiff, ne_eq, not_false_eq_true, upc] at e27
  refine Z_iconst hk dX9_joins_30 ?_
  refine Z_isub hk dX9_joins_31 ?_
  refine Z_putI hk hA fl_9_617 dX9_joins_32 ob_48.1 ob_48.2.1 ob_48.2.2.1 ob_48.2.2.2 ft_9_107 (by omega) (by omega) ?_
  refine Z_nm (fun m32 em32 => ?_)
  refine Z_iload1 hk dX9_joins_35 ?_
  rcases (show (w < 1 ∨ 14 < w) ∨ w = 1 ∨ w = 2 ∨ w = 3 ∨ w = 4 ∨ w = 5 ∨ w = 6 ∨ w = 7 ∨ w = 8 ∨ w = 9 ∨ w = 10 ∨ w = 11 ∨ w = 12 ∨ w = 13 ∨ w = 14 from by omega) with h36 | h36 | h36 | h36 | h36 | h36 | h36 | h36 | h36 | h36 | h36 | h36 | h36 | h36 | h36
  · refine Z_tableOut hk dX9_joins_36 (tgt := 271) (by decide) (by omega) (by omega) h36 ?_
    refine Z_aload0 hk dX9_joins_271 ?_
    refine Z_lload4 hk dX9_joins_272 ?_
    refine Z_lload2 hk dX9_joins_274 ?_
    refine Z_ladd hk dX9_joins_275 ?_
    refine Z_wJ (fun w275 a275w b275w g275w => ?_)
    refine Z_lconst0 hk dX9_joins_276 ?_
    refine Z_lcmp hk dX9_joins_277 (by omega) (by omega) (by decide) (by decide) (fun v277 e277 => ?_)
    have J286 : ∀ (y1_286 : Int), (-9223372036854775808 ≤ y1_286 ∧ y1_286 ≤ 9223372036854775807) → Zj κ δ ad rs Q 6 (121, 0, 0) 286 [some (.ref (ad 48)), some (iv w), some (jv v10), none, some (jv v22), none] [jv y1_286, .ref (ad 48)] m32 := by
      intro y1_286 h286
      try simp only [em32, and_true, true_and, or_true, true_or, implies_true, upn, reduceIte, Nat.reduceEqDiff, ne_eq, not_false_eq_true, upc] at h286
      refine Z_Vv hk (c_X9_piles κ.2.1 δ ad _ hA y1_286 (by (try simp only [em32, and_true, true_and, or_true, true_or, implies_true, upn, reduceIte, Nat.reduceEqDiff, ne_eq, not_false_eq_true, upc]) <;> (omega)) (by (try simp only [em32, and_true, true_and, or_true, true_or, implies_true, upn, reduceIte, Nat.reduceEqDiff, ne_eq, not_false_eq_true, upc]) <;> (omega))) ov_X9_piles ml_X9_624 dX9_joins_286 rfl ⟨by decide, by decide⟩ ob_48.1 (by decide) (by decide) rfl (Nat.le_of_ble_eq_true rfl) (fun m286 p286 => ?_)
      obtain ⟨p286, f286_0, f286_1⟩ := p286
      try simp only [f286_0, f286_1, em32, e5, e10, e17, e22, e27, and_true, true_and, or_true, true_or, implies_true, upn, reduceIte, Nat.reduceEqDiff, ne_eq, not_false_eq_true, upc] at p286
      exact Z_vret hk hA hQ dX9_joins_289 ⟨rfl, rfl, rfl, (by exact ⟨(by (try simp only [f286_0, f286_1, em32, and_true, true_and, or_true, true_or, implies_true, upn, reduceIte, Nat.reduceEqDiff, ne_eq, not_false_eq_true, upc]) <;> (omega)), (by intro c k0 k1; simp only [f286_0, f286_1, em32, upc, upn, k0, k1, reduceIte, Nat.reduceEqDiff, ne_eq, not_false_eq_true]), (by intro i k0; simp only [f286_0, f286_1, em32, upc, upn, k0, reduceIte, Nat.reduceEqDiff, ne_eq, not_false_eq_true])⟩)⟩
    refine Z_if_le hk (tgt := 285) dX9_joins_278 (by decide) (by omega) (by omega) (fun h278 => ?_) (fun h278 => ?_)
    · refine Z_lconst0 hk dX9_joins_285 ?_
      exact J286 _ (by (try simp only [em32, and_true, true_and, or_true, true_or, implies_true, upn, reduceIte, Nat.reduceEqDiff, ne_eq, not_false_eq_true, upc]) <;> (omega))
    · refine Z_lconst1 hk dX9_joins_281 ?_
      refine Z_goto hk (tgt := 286) dX9_joins_282 (by decide) ?_
      exact J286 _ (by (try simp only [em32, and_true, true_and, or_true, true_or, implies_true, upn, reduceIte, Nat.reduceEqDiff, ne_eq, not_false_eq_true, upc]) <;> (omega))
  · refine Z_tableIn hk dX9_joins_36 h36 (by decide) (by decide) (by decide) (by decide) (off := 72) rfl (tgt := 108) (by decide) ?_
    refine Z_aload0 hk dX9_joins_108 ?_
    refine Z_lload4 hk dX9_joins_109 ?_
    refine Z_lload2 hk dX9_joins_111 ?_
    refine Z_ladd hk dX9_joins_112 ?_
    refine Z_wJ (fun w112 a112w b112w g112w => ?_)
    refine Z_Sj hk (c_X9_clip κ.2.1 δ ad _ hA w112 (by (try simp only [em32, and_true, true_and, or_true, true_or, implies_true, upn, reduceIte, Nat.reduceEqDiff, ne_eq, not_false_eq_true, upc]) <;> (omega))) os_X9_clip ml_X9_620 dX9_joins_113 rfl ⟨by decide, by decide⟩ rfl (Nat.le_of_ble_eq_true rfl) (fun r113 m113 p113 => ?_)
    obtain ⟨rfl, p113⟩ := p113
    try simp only [em32, e5, e10, e17, e22, e27, and_true, true_and, or_true, true_or, implies_true, upn, reduceIte, Nat.reduceEqDiff, ne_eq, not_false_eq_true, upc] at p113
    refine Z_Vv hk (c_X9_piles κ.2.1 δ ad _ hA r113 (by (try simp only [em32, and_true, true_and, or_true, true_or, implies_true, upn, reduceIte, Nat.reduceEqDiff, ne_eq, not_false_eq_true, upc]) <;> (omega)) (by (try simp only [em32, and_true, true_and, or_true, true_or, implies_true, upn, reduceIte, Nat.reduceEqDiff, ne_eq, not_false_eq_true, upc]) <;> (omega))) ov_X9_piles ml_X9_624 dX9_joins_116 rfl ⟨by decide, by decide⟩ ob_48.1 (by decide) (by decide) rfl (Nat.le_of_ble_eq_true rfl) (fun m116 p116 => ?_)
    obtain ⟨p116, f116_0, f116_1⟩ := p116
    try simp only [f116_0, f116_1, em32, e5, e10, e17, e22, e27, and_true, true_and, or_true, true_or, implies_true, upn, reduceIte, Nat.reduceEqDiff, ne_eq, not_false_eq_true, upc] at p116
    refine Z_goto hk (tgt := 289) dX9_joins_119 (by decide) ?_
    exact Z_vret hk hA hQ dX9_joins_289 ⟨rfl, rfl, rfl, (by exact ⟨(by (try simp only [f116_0, f116_1, em32, and_true, true_and, or_true, true_or, implies_true, upn, reduceIte, Nat.reduceEqDiff, ne_eq, not_false_eq_true, upc]) <;> (omega)), (by intro c k0 k1; simp only [f116_0, f116_1, em32, upc, upn, k0, k1, reduceIte, Nat.reduceEqDiff, ne_eq, not_false_eq_true]), (by intro i k0; simp only [f116_0, f116_1, em32, upc, upn, k0, reduceIte, Nat.reduceEqDiff, ne_eq, not_false_eq_true])⟩)⟩
  · refine Z_tableIn hk dX9_joins_36 h36 (by decide) (by decide) (by decide) (by decide) (off := 86) rfl (tgt := 122) (by decide) ?_
    refine Z_aload0 hk dX9_joins_122 ?_
    refine Z_lload4 hk dX9_joins_123 ?_
    refine Z_lload2 hk dX9_joins_125 ?_
    refine Z_lsub hk dX9_joins_126 ?_
    refine Z_wJ (fun w126 a126w b126w g126w => ?_)
    refine Z_Sj hk (c_X9_clip κ.2.1 δ ad _ hA w126 (by (try simp only [em32, and_true, true_and, or_true, true_or, implies_true, upn, reduceIte, Nat.reduceEqDiff, ne_eq, not_false_eq_true, upc]) <;> (omega))) os_X9_clip ml_X9_620 dX9_joins_127 rfl ⟨by decide, by decide⟩ rfl (Nat.le_of_ble_eq_true rfl) (fun r127 m127 p127 => ?_)
    obtain ⟨rfl, p127⟩ := p127
    try simp only [em32, e5, e10, e17, e22, e27, and_true, true_and, or_true, true_or, implies_true, upn, reduceIte, Nat.reduceEqDiff, ne_eq, not_false_eq_true, upc] at p127
    refine Z_Vv hk (c_X9_piles κ.2.1 δ ad _ hA r127 (by (try simp only [em32, and_true, true_and, or_true, true_or, implies_true, upn, reduceIte, Nat.reduceEqDiff, ne_eq, not_false_eq_true, upc]) <;> (omega)) (by (try simp only [em32, and_true, true_and, or_true, true_or, implies_true, upn, reduceIte, Nat.reduceEqDiff, ne_eq, not_false_eq_true, upc]) <;> (omega))) ov_X9_piles ml_X9_624 dX9_joins_130 rfl ⟨by decide, by decide⟩ ob_48.1 (by decide) (by decide) rfl (Nat.le_of_ble_eq_true rfl) (fun m130 p130 => ?_)
    obtain ⟨p130, f130_0, f130_1⟩ := p130
    try simp only [f130_0, f130_1, em32, e5, e10, e17, e22, e27, and_true, true_and, or_true, true_or, implies_true, upn, reduceIte, Nat.reduceEqDiff, ne_eq, not_false_eq_true, upc] at p130
    refine Z_goto hk (tgt := 289) dX9_joins_133 (by decide) ?_
    exact Z_vret hk hA hQ dX9_joins_289 ⟨rfl, rfl, rfl, (by exact ⟨(by (try simp only [f130_0, f130_1, em32, and_true, true_and, or_true, true_or, implies_true, upn, reduceIte, Nat.reduceEqDiff, ne_eq, not_false_eq_true, upc]) <;> (omega)), (by intro c k0 k1; simp only [f130_0, f130_1, em32, upc, upn, k0, k1, reduceIte, Nat.reduceEqDiff, ne_eq, not_false_eq_true]), (by intro i k0; simp only [f130_0, f130_1, em32, upc, upn, k0, reduceIte, Nat.reduceEqDiff, ne_eq, not_false_eq_true])⟩)⟩
  · refine Z_tableIn hk dX9_joins_36 h36 (by decide) (by decide) (by decide) (by decide) (off := 100) rfl (tgt := 136) (by decide) ?_
    refine Z_aload0 hk dX9_joins_136 ?_
    refine Z_lload4 hk dX9_joins_137 ?_
    refine Z_lload2 hk dX9_joins_139 ?_
    refine Z_lmul hk dX9_joins_140 ?_
    refine Z_wJ (fun w140 a140w b140w g140w => ?_)
    refine Z_Sj hk (c_X9_clip κ.2.1 δ ad _ hA w140 (by (try simp only [em32, and_true, true_and, or_true, true_or, implies_true, upn, reduceIte, Nat.reduceEqDiff, ne_eq, not_false_eq_true, upc]) <;> (omega))) os_X9_clip ml_X9_620 dX9_joins_141 rfl ⟨by decide, by decide⟩ rfl (Nat.le_of_ble_eq_true rfl) (fun r141 m141 p141 => ?_)
    obtain ⟨rfl, p141⟩ := p141
    try simp only [em32, e5, e10, e17, e22, e27, and_true, true_and, or_true, true_or, implies_true, upn, reduceIte, Nat.reduceEqDiff, ne_eq, not_false_eq_true, upc] at p141
    refine Z_Vv hk (c_X9_piles κ.2.1 δ ad _ hA r141 (by (try simp only [em32, and_true, true_and, or_true, true_or, implies_true, upn, reduceIte, Nat.reduceEqDiff, ne_eq, not_false_eq_true, upc]) <;> (omega)) (by (try simp only [em32, and_true, true_and, or_true, true_or, implies_true, upn, reduceIte, Nat.reduceEqDiff, ne_eq, not_false_eq_true, upc]) <;> (omega))) ov_X9_piles ml_X9_624 dX9_joins_144 rfl ⟨by decide, by decide⟩ ob_48.1 (by decide) (by decide) rfl (Nat.le_of_ble_eq_true rfl) (fun m144 p144 => ?_)
    obtain ⟨p144, f144_0, f144_1⟩ := p144
    try simp only [f144_0, f144_1, em32, e5, e10, e17, e22, e27, and_true, true_and, or_true, true_or, implies_true, upn, reduceIte, Nat.reduceEqDiff, ne_eq, not_false_eq_true, upc] at p144
    refine Z_goto hk (tgt := 289) dX9_joins_147 (by decide) ?_
    exact Z_vret hk hA hQ dX9_joins_289 ⟨rfl, rfl, rfl, (by exact ⟨(by (try simp only [f144_0, f144_1, em32, and_true, true_and, or_true, true_or, implies_true, upn, reduceIte, Nat.reduceEqDiff, ne_eq, not_false_eq_true, upc]) <;> (omega)), (by intro c k0 k1; simp only [f144_0, f144_1, em32, upc, upn, k0, k1, reduceIte, Nat.reduceEqDiff, ne_eq, not_false_eq_true]), (by intro i k0; simp only [f144_0, f144_1, em32, upc, upn, k0, reduceIte, Nat.reduceEqDiff, ne_eq, not_false_eq_true])⟩)⟩
  · refine Z_tableIn hk dX9_joins_36 h36 (by decide) (by decide) (by decide) (by decide) (off := 114) rfl (tgt := 150) (by decide) ?_
    refine Z_aload0 hk dX9_joins_150 ?_
    refine Z_lload4 hk dX9_joins_151 ?_
    refine Z_lload2 hk dX9_joins_153 ?_
    refine Z_Sj hk (c_X9_floor κ.2.1 δ ad _ hA v22 v10 (by (try simp only [em32, and_true, true_and, or_true, true_or, implies_true, upn, reduceIte, Nat.reduceEqDiff, ne_eq, not_false_eq_true, upc]) <;> (omega)) (by (try simp only [em32, and_true, true_and, or_true, true_or, implies_true, upn, reduceIte, Nat.reduceEqDiff, ne_eq, not_false_eq_true, upc]) <;> (omega))) os_X9_floor ml_X9_628 dX9_joins_154 rfl ⟨by decide, by decide⟩ rfl (Nat.le_of_ble_eq_true rfl) (fun r154 m154 p154 => ?_)
    obtain ⟨rfl, p154⟩ := p154
    try simp only [em32, e5, e10, e17, e22, e27, and_true, true_and, or_true, true_or, implies_true, upn, reduceIte, Nat.reduceEqDiff, ne_eq, not_false_eq_true, upc] at p154
    refine Z_Vv hk (c_X9_piles κ.2.1 δ ad _ hA r154 (by (try simp only [em32, and_true, true_and, or_true, true_or, implies_true, upn, reduceIte, Nat.reduceEqDiff, ne_eq, not_false_eq_true, upc]) <;> (omega)) (by (try simp only [em32, and_true, true_and, or_true, true_or, implies_true, upn, reduceIte, Nat.reduceEqDiff, ne_eq, not_false_eq_true, upc]) <;> (omega))) ov_X9_piles ml_X9_624 dX9_joins_157 rfl ⟨by decide, by decide⟩ ob_48.1 (by decide) (by decide) rfl (Nat.le_of_ble_eq_true rfl) (fun m157 p157 => ?_)
    obtain ⟨p157, f157_0, f157_1⟩ := p157
    try simp only [f157_0, f157_1, em32, e5, e10, e17, e22, e27, and_true, true_and, or_true, true_or, implies_true, upn, reduceIte, Nat.reduceEqDiff, ne_eq, not_false_eq_true, upc] at p157
    refine Z_goto hk (tgt := 289) dX9_joins_160 (by decide) ?_
    exact Z_vret hk hA hQ dX9_joins_289 ⟨rfl, rfl, rfl, (by exact ⟨(by (try simp only [f157_0, f157_1, em32, and_true, true_and, or_true, true_or, implies_true, upn, reduceIte, Nat.reduceEqDiff, ne_eq, not_false_eq_true, upc]) <;> (omega)), (by intro c k0 k1; simp only [f157_0, f157_1, em32, upc, upn, k0, k1, reduceIte, Nat.reduceEqDiff, ne_eq, not_false_eq_true]), (by intro i k0; simp only [f157_0, f157_1, em32, upc, upn, k0, reduceIte, Nat.reduceEqDiff, ne_eq, not_false_eq_true])⟩)⟩
  · refine Z_tableIn hk dX9_joins_36 h36 (by decide) (by decide) (by decide) (by decide) (off := 127) rfl (tgt := 163) (by decide) ?_
    refine Z_aload0 hk dX9_joins_163 ?_
    refine Z_lload4 hk dX9_joins_164 ?_
    refine Z_lload2 hk dX9_joins_166 ?_
    refine Z_lcmp hk dX9_joins_167 (by omega) (by omega) (by omega) (by omega) (fun v167 e167 => ?_)
    have J177 : ∀ (y1_177 : Int), (-9223372036854775808 ≤ y1_177 ∧ y1_177 ≤ 9223372036854775807) → Zj κ δ ad rs Q 6 (121, 0, 0) 177 [some (.ref (ad 48)), some (iv w), some (jv v10), none, some (jv v22), none] [jv y1_177, .ref (ad 48)] m32 := by
      intro y1_177 h177
      try simp only [em32, and_true, true_and, or_true, true_or, implies_true, upn, reduceIte, Nat.reduceEqDiff, ne_eq, not_false_eq_true, upc] at h177
      refine Z_Vv hk (c_X9_piles κ.2.1 δ ad _ hA y1_177 (by (try simp only [em32, and_true, true_and, or_true, true_or, implies_true, upn, reduceIte, Nat.reduceEqDiff, ne_eq, not_false_eq_true, upc]) <;> (omega)) (by (try simp only [em32, and_true, true_and, or_true, true_or, implies_true, upn, reduceIte, Nat.reduceEqDiff, ne_eq, not_false_eq_true, upc]) <;> (omega))) ov_X9_piles ml_X9_624 dX9_joins_177 rfl ⟨by decide, by decide⟩ ob_48.1 (by decide) (by decide) rfl (Nat.le_of_ble_eq_true rfl) (fun m177 p177 => ?_)
      obtain ⟨p177, f177_0, f177_1⟩ := p177
      try simp only [f177_0, f177_1, em32, e5, e10, e17, e22, e27, and_true, true_and, or_true, true_or, implies_true, upn, reduceIte, Nat.reduceEqDiff, ne_eq, not_false_eq_true, upc] at p177
      refine Z_goto hk (tgt := 289) dX9_joins_180 (by decide) ?_
      exact Z_vret hk hA hQ dX9_joins_289 ⟨rfl, rfl, rfl, (by exact ⟨(by (try simp only [f177_0, f177_1, em32, and_true, true_and, or_true, true_or, implies_true, upn, reduceIte, Nat.reduceEqDiff, ne_eq, not_false_eq_true, upc]) <;> (omega)), (by intro c k0 k1; simp only [f177_0, f177_1, em32, upc, upn, k0, k1, reduceIte, Nat.reduceEqDiff, ne_eq, not_false_eq_true]), (by intro i k0; simp only [f177_0, f177_1, em32, upc, upn, k0, reduceIte, Nat.reduceEqDiff, ne_eq, not_false_eq_true])⟩)⟩
    refine Z_if_ge hk (tgt := 176) dX9_joins_168 (by decide) (by omega) (by omega) (fun h168 => ?_) (fun h168 => ?_)
    · refine Z_lload2 hk dX9_joins_176 ?_
      exact J177 _ (by (try simp only [em32, and_true, true_and, or_true, true_or, implies_true, upn, reduceIte, Nat.reduceEqDiff, ne_eq, not_false_eq_true, upc]) <;> (omega))
    · refine Z_lload4 hk dX9_joins_171 ?_
      refine Z_goto hk (tgt := 177) dX9_joins_173 (by decide) ?_
      exact J177 _ (by (try simp only [em32, and_true, true_and, or_true, true_or, implies_true, upn, reduceIte, Nat.reduceEqDiff, ne_eq, not_false_eq_true, upc]) <;> (omega))
  · refine Z_tableIn hk dX9_joins_36 h36 (by decide) (by decide) (by decide) (by decide) (off := 147) rfl (tgt := 183) (by decide) ?_
    refine Z_aload0 hk dX9_joins_183 ?_
    refine Z_lload4 hk dX9_joins_184 ?_
    refine Z_lload2 hk dX9_joins_186 ?_
    refine Z_lcmp hk dX9_joins_187 (by omega) (by omega) (by omega) (by omega) (fun v187 e187 => ?_)
    have J197 : ∀ (y1_197 : Int), (-9223372036854775808 ≤ y1_197 ∧ y1_197 ≤ 9223372036854775807) → Zj κ δ ad rs Q 6 (121, 0, 0) 197 [some (.ref (ad 48)), some (iv w), some (jv v10), none, some (jv v22), none] [jv y1_197, .ref (ad 48)] m32 := by
      intro y1_197 h197
      try simp only [em32, and_true, true_and, or_true, true_or, implies_true, upn, reduceIte, Nat.reduceEqDiff, ne_eq, not_false_eq_true, upc] at h197
      refine Z_Vv hk (c_X9_piles κ.2.1 δ ad _ hA y1_197 (by (try simp only [em32, and_true, true_and, or_true, true_or, implies_true, upn, reduceIte, Nat.reduceEqDiff, ne_eq, not_false_eq_true, upc]) <;> (omega)) (by (try simp only [em32, and_true, true_and, or_true, true_or, implies_true, upn, reduceIte, Nat.reduceEqDiff, ne_eq, not_false_eq_true, upc]) <;> (omega))) ov_X9_piles ml_X9_624 dX9_joins_197 rfl ⟨by decide, by decide⟩ ob_48.1 (by decide) (by decide) rfl (Nat.le_of_ble_eq_true rfl) (fun m197 p197 => ?_)
      obtain ⟨p197, f197_0, f197_1⟩ := p197
      try simp only [f197_0, f197_1, em32, e5, e10, e17, e22, e27, and_true, true_and, or_true, true_or, implies_true, upn, reduceIte, Nat.reduceEqDiff, ne_eq, not_false_eq_true, upc] at p197
      refine Z_goto hk (tgt := 289) dX9_joins_200 (by decide) ?_
      exact Z_vret hk hA hQ dX9_joins_289 ⟨rfl, rfl, rfl, (by exact ⟨(by (try simp only [f197_0, f197_1, em32, and_true, true_and, or_true, true_or, implies_true, upn, reduceIte, Nat.reduceEqDiff, ne_eq, not_false_eq_true, upc]) <;> (omega)), (by intro c k0 k1; simp only [f197_0, f197_1, em32, upc, upn, k0, k1, reduceIte, Nat.reduceEqDiff, ne_eq, not_false_eq_true]), (by intro i k0; simp only [f197_0, f197_1, em32, upc, upn, k0, reduceIte, Nat.reduceEqDiff, ne_eq, not_false_eq_true])⟩)⟩
    refine Z_if_le hk (tgt := 196) dX9_joins_188 (by decide) (by omega) (by omega) (fun h188 => ?_) (fun h188 => ?_)
    · refine Z_lload2 hk dX9_joins_196 ?_
      exact J197 _ (by (try simp only [em32, and_true, true_and, or_true, true_or, implies_true, upn, reduceIte, Nat.reduceEqDiff, ne_eq, not_false_eq_true, upc]) <;> (omega))
    · refine Z_lload4 hk dX9_joins_191 ?_
      refine Z_goto hk (tgt := 197) dX9_joins_193 (by decide) ?_
      exact J197 _ (by (try simp only [em32, and_true, true_and, or_true, true_or, implies_true, upn, reduceIte, Nat.reduceEqDiff, ne_eq, not_false_eq_true, upc]) <;> (omega))
  · refine Z_tableIn hk dX9_joins_36 h36 (by decide) (by decide) (by decide) (by decide) (off := 235) rfl (tgt := 271) (by decide) ?_
    refine Z_aload0 hk dX9_joins_271 ?_
    refine Z_lload4 hk dX9_joins_272 ?_
    refine Z_lload2 hk dX9_joins_274 ?_
    refine Z_ladd hk dX9_joins_275 ?_
    refine Z_wJ (fun w275 a275w b275w g275w => ?_)
    refine Z_lconst0 hk dX9_joins_276 ?_
    refine Z_lcmp hk dX9_joins_277 (by omega) (by omega) (by decide) (by decide) (fun v277 e277 => ?_)
    have J286 : ∀ (y1_286 : Int), (-9223372036854775808 ≤ y1_286 ∧ y1_286 ≤ 9223372036854775807) → Zj κ δ ad rs Q 6 (121, 0, 0) 286 [some (.ref (ad 48)), some (iv w), some (jv v10), none, some (jv v22), none] [jv y1_286, .ref (ad 48)] m32 := by
      intro y1_286 h286
      try simp only [em32, and_true, true_and, or_true, true_or, implies_true, upn, reduceIte, Nat.reduceEqDiff, ne_eq, not_false_eq_true, upc] at h286
      refine Z_Vv hk (c_X9_piles κ.2.1 δ ad _ hA y1_286 (by (try simp only [em32, and_true, true_and, or_true, true_or, implies_true, upn, reduceIte, Nat.reduceEqDiff, ne_eq, not_false_eq_true, upc]) <;> (omega)) (by (try simp only [em32, and_true, true_and, or_true, true_or, implies_true, upn, reduceIte, Nat.reduceEqDiff, ne_eq, not_false_eq_true, upc]) <;> (omega))) ov_X9_piles ml_X9_624 dX9_joins_286 rfl ⟨by decide, by decide⟩ ob_48.1 (by decide) (by decide) rfl (Nat.le_of_ble_eq_true rfl) (fun m286 p286 => ?_)
      obtain ⟨p286, f286_0, f286_1⟩ := p286
      try simp only [f286_0, f286_1, em32, e5, e10, e17, e22, e27, and_true, true_and, or_true, true_or, implies_true, upn, reduceIte, Nat.reduceEqDiff, ne_eq, not_false_eq_true, upc] at p286
      exact Z_vret hk hA hQ dX9_joins_289 ⟨rfl, rfl, rfl, (by exact ⟨(by (try simp only [f286_0, f286_1, em32, and_true, true_and, or_true, true_or, implies_true, upn, reduceIte, Nat.reduceEqDiff, ne_eq, not_false_eq_true, upc]) <;> (omega)), (by intro c k0 k1; simp only [f286_0, f286_1, em32, upc, upn, k0, k1, reduceIte, Nat.reduceEqDiff, ne_eq, not_false_eq_true]), (by intro i k0; simp only [f286_0, f286_1, em32, upc, upn, k0, reduceIte, Nat.reduceEqDiff, ne_eq, not_false_eq_true])⟩)⟩
    refine Z_if_le hk (tgt := 285) dX9_joins_278 (by decide) (by omega) (by omega) (fun h278 => ?_) (fun h278 => ?_)
    · refine Z_lconst0 hk dX9_joins_285 ?_
      exact J286 _ (by (try simp only [em32, and_true, true_and, or_true, true_or, implies_true, upn, reduceIte, Nat.reduceEqDiff, ne_eq, not_false_eq_true, upc]) <;> (omega))
    · refine Z_lconst1 hk dX9_joins_281 ?_
      refine Z_goto hk (tgt := 286) dX9_joins_282 (by decide) ?_
      exact J286 _ (by (try simp only [em32, and_true, true_and, or_true, true_or, implies_true, upn, reduceIte, Nat.reduceEqDiff, ne_eq, not_false_eq_true, upc]) <;> (omega))
  · refine Z_tableIn hk dX9_joins_36 h36 (by decide) (by decide) (by decide) (by decide) (off := 235) rfl (tgt := 271) (by decide) ?_
    refine Z_aload0 hk dX9_joins_271 ?_
    refine Z_lload4 hk dX9_joins_272 ?_
    refine Z_lload2 hk dX9_joins_274 ?_
    refine Z_ladd hk dX9_joins_275 ?_
    refine Z_wJ (fun w275 a275w b275w g275w => ?_)
    refine Z_lconst0 hk dX9_joins_276 ?_
    refine Z_lcmp hk dX9_joins_277 (by omega) (by omega) (by decide) (by decide) (fun v277 e277 => ?_)
    have J286 : ∀ (y1_286 : Int), (-9223372036854775808 ≤ y1_286 ∧ y1_286 ≤ 9223372036854775807) → Zj κ δ ad rs Q 6 (121, 0, 0) 286 [some (.ref (ad 48)), some (iv w), some (jv v10), none, some (jv v22), none] [jv y1_286, .ref (ad 48)] m32 := by
      intro y1_286 h286
      try simp only [em32, and_true, true_and, or_true, true_or, implies_true, upn, reduceIte, Nat.reduceEqDiff, ne_eq, not_false_eq_true, upc] at h286
      refine Z_Vv hk (c_X9_piles κ.2.1 δ ad _ hA y1_286 (by (try simp only [em32, and_true, true_and, or_true, true_or, implies_true, upn, reduceIte, Nat.reduceEqDiff, ne_eq, not_false_eq_true, upc]) <;> (omega)) (by (try simp only [em32, and_true, true_and, or_true, true_or, implies_true, upn, reduceIte, Nat.reduceEqDiff, ne_eq, not_false_eq_true, upc]) <;> (omega))) ov_X9_piles ml_X9_624 dX9_joins_286 rfl ⟨by decide, by decide⟩ ob_48.1 (by decide) (by decide) rfl (Nat.le_of_ble_eq_true rfl) (fun m286 p286 => ?_)
      obtain ⟨p286, f286_0, f286_1⟩ := p286
      try simp only [f286_0, f286_1, em32, e5, e10, e17, e22, e27, and_true, true_and, or_true, true_or, implies_true, upn, reduceIte, Nat.reduceEqDiff, ne_eq, not_false_eq_true, upc] at p286
      exact Z_vret hk hA hQ dX9_joins_289 ⟨rfl, rfl, rfl, (by exact ⟨(by (try simp only [f286_0, f286_1, em32, and_true, true_and, or_true, true_or, implies_true, upn, reduceIte, Nat.reduceEqDiff, ne_eq, not_false_eq_true, upc]) <;> (omega)), (by intro c k0 k1; simp only [f286_0, f286_1, em32, upc, upn, k0, k1, reduceIte, Nat.reduceEqDiff, ne_eq, not_false_eq_true]), (by intro i k0; simp only [f286_0, f286_1, em32, upc, upn, k0, reduceIte, Nat.reduceEqDiff, ne_eq, not_false_eq_true])⟩)⟩
    refine Z_if_le hk (tgt := 285) dX9_joins_278 (by decide) (by omega) (by omega) (fun h278 => ?_) (fun h278 => ?_)
    · refine Z_lconst0 hk dX9_joins_285 ?_
      exact J286 _ (by (try simp only [em32, and_true, true_and, or_true, true_or, implies_true, upn, reduceIte, Nat.reduceEqDiff, ne_eq, not_false_eq_true, upc]) <;> (omega))
    · refine Z_lconst1 hk dX9_joins_281 ?_
      refine Z_goto hk (tgt := 286) dX9_joins_282 (by decide) ?_
      exact J286 _ (by (try simp only [em32, and_true, true_and, or_true, true_or, implies_true, upn, reduceIte, Nat.reduceEqDiff, ne_eq, not_false_eq_true, upc]) <;> (omega))
  · refine Z_tableIn hk dX9_joins_36 h36 (by decide) (by decide) (by decide) (by decide) (off := 235) rfl (tgt := 271) (by decide) ?_
    refine Z_aload0 hk dX9_joins_271 ?_
    refine Z_lload4 hk dX9_joins_272 ?_
    refine Z_lload2 hk dX9_joins_274 ?_
    refine Z_ladd hk dX9_joins_275 ?_
    refine Z_wJ (fun w275 a275w b275w g275w => ?_)
    refine Z_lconst0 hk dX9_joins_276 ?_
    refine Z_lcmp hk dX9_joins_277 (by omega) (by omega) (by decide) (by decide) (fun v277 e277 => ?_)
    have J286 : ∀ (y1_286 : Int), (-9223372036854775808 ≤ y1_286 ∧ y1_286 ≤ 9223372036854775807) → Zj κ δ ad rs Q 6 (121, 0, 0) 286 [some (.ref (ad 48)), some (iv w), some (jv v10), none, some (jv v22), none] [jv y1_286, .ref (ad 48)] m32 := by
      intro y1_286 h286
      try simp only [em32, and_true, true_and, or_true, true_or, implies_true, upn, reduceIte, Nat.reduceEqDiff, ne_eq, not_false_eq_true, upc] at h286
      refine Z_Vv hk (c_X9_piles κ.2.1 δ ad _ hA y1_286 (by (try simp only [em32, and_true, true_and, or_true, true_or, implies_true, upn, reduceIte, Nat.reduceEqDiff, ne_eq, not_false_eq_true, upc]) <;> (omega)) (by (try simp only [em32, and_true, true_and, or_true, true_or, implies_true, upn, reduceIte, Nat.reduceEqDiff, ne_eq, not_false_eq_true, upc]) <;> (omega))) ov_X9_piles ml_X9_624 dX9_joins_286 rfl ⟨by decide, by decide⟩ ob_48.1 (by decide) (by decide) rfl (Nat.le_of_ble_eq_true rfl) (fun m286 p286 => ?_)
      obtain ⟨p286, f286_0, f286_1⟩ := p286
      try simp only [f286_0, f286_1, em32, e5, e10, e17, e22, e27, and_true, true_and, or_true, true_or, implies_true, upn, reduceIte, Nat.reduceEqDiff, ne_eq, not_false_eq_true, upc] at p286
      exact Z_vret hk hA hQ dX9_joins_289 ⟨rfl, rfl, rfl, (by exact ⟨(by (try simp only [f286_0, f286_1, em32, and_true, true_and, or_true, true_or, implies_true, upn, reduceIte, Nat.reduceEqDiff, ne_eq, not_false_eq_true, upc]) <;> (omega)), (by intro c k0 k1; simp only [f286_0, f286_1, em32, upc, upn, k0, k1, reduceIte, Nat.reduceEqDiff, ne_eq, not_false_eq_true]), (by intro i k0; simp only [f286_0, f286_1, em32, upc, upn, k0, reduceIte, Nat.reduceEqDiff, ne_eq, not_false_eq_true])⟩)⟩
    refine Z_if_le hk (tgt := 285) dX9_joins_278 (by decide) (by omega) (by omega) (fun h278 => ?_) (fun h278 => ?_)
    · refine Z_lconst0 hk dX9_joins_285 ?_
      exact J286 _ (by (try simp only [em32, and_true, true_and, or_true, true_or, implies_true, upn, reduceIte, Nat.reduceEqDiff, ne_eq, not_false_eq_true, upc]) <;> (omega))
    · refine Z_lconst1 hk dX9_joins_281 ?_
      refine Z_goto hk (tgt := 286) dX9_joins_282 (by decide) ?_
      exact J286 _ (by (try simp only [em32, and_true, true_and, or_true, true_or, implies_true, upn, reduceIte, Nat.reduceEqDiff, ne_eq, not_false_eq_true, upc]) <;> (omega))
  · refine Z_tableIn hk dX9_joins_36 h36 (by decide) (by decide) (by decide) (by decide) (off := 235) rfl (tgt := 271) (by decide) ?_
    refine Z_aload0 hk dX9_joins_271 ?_
    refine Z_lload4 hk dX9_joins_272 ?_
    refine Z_lload2 hk dX9_joins_274 ?_
    refine Z_ladd hk dX9_joins_275 ?_
    refine Z_wJ (fun w275 a275w b275w g275w => ?_)
    refine Z_lconst0 hk dX9_joins_276 ?_
    refine Z_lcmp hk dX9_joins_277 (by omega) (by omega) (by decide) (by decide) (fun v277 e277 => ?_)
    have J286 : ∀ (y1_286 : Int), (-9223372036854775808 ≤ y1_286 ∧ y1_286 ≤ 9223372036854775807) → Zj κ δ ad rs Q 6 (121, 0, 0) 286 [some (.ref (ad 48)), some (iv w), some (jv v10), none, some (jv v22), none] [jv y1_286, .ref (ad 48)] m32 := by
      intro y1_286 h286
      try simp only [em32, and_true, true_and, or_true, true_or, implies_true, upn, reduceIte, Nat.reduceEqDiff, ne_eq, not_false_eq_true, upc] at h286
      refine Z_Vv hk (c_X9_piles κ.2.1 δ ad _ hA y1_286 (by (try simp only [em32, and_true, true_and, or_true, true_or, implies_true, upn, reduceIte, Nat.reduceEqDiff, ne_eq, not_false_eq_true, upc]) <;> (omega)) (by (try simp only [em32, and_true, true_and, or_true, true_or, implies_true, upn, reduceIte, Nat.reduceEqDiff, ne_eq, not_false_eq_true, upc]) <;> (omega))) ov_X9_piles ml_X9_624 dX9_joins_286 rfl ⟨by decide, by decide⟩ ob_48.1 (by decide) (by decide) rfl (Nat.le_of_ble_eq_true rfl) (fun m286 p286 => ?_)
      obtain ⟨p286, f286_0, f286_1⟩ := p286
      try simp only [f286_0, f286_1, em32, e5, e10, e17, e22, e27, and_true, true_and, or_true, true_or, implies_true, upn, reduceIte, Nat.reduceEqDiff, ne_eq, not_false_eq_true, upc] at p286
      exact Z_vret hk hA hQ dX9_joins_289 ⟨rfl, rfl, rfl, (by exact ⟨(by (try simp only [f286_0, f286_1, em32, and_true, true_and, or_true, true_or, implies_true, upn, reduceIte, Nat.reduceEqDiff, ne_eq, not_false_eq_true, upc]) <;> (omega)), (by intro c k0 k1; simp only [f286_0, f286_1, em32, upc, upn, k0, k1, reduceIte, Nat.reduceEqDiff, ne_eq, not_false_eq_true]), (by intro i k0; simp only [f286_0, f286_1, em32, upc, upn, k0, reduceIte, Nat.reduceEqDiff, ne_eq, not_false_eq_true])⟩)⟩
    refine Z_if_le hk (tgt := 285) dX9_joins_278 (by decide) (by omega) (by omega) (fun h278 => ?_) (fun h278 => ?_)
    · refine Z_lconst0 hk dX9_joins_285 ?_
      exact J286 _ (by (try simp only [em32, and_true, true_and, or_true, true_or, implies_true, upn, reduceIte, Nat.reduceEqDiff, ne_eq, not_false_eq_true, upc]) <;> (omega))
    · refine Z_lconst1 hk dX9_joins_281 ?_
      refine Z_goto hk (tgt := 286) dX9_joins_282 (by decide) ?_
      exact J286 _ (by (try simp only [em32, and_true, true_and, or_true, true_or, implies_true, upn, reduceIte, Nat.reduceEqDiff, ne_eq, not_false_eq_true, upc]) <;> (omega))
  · refine Z_tableIn hk dX9_joins_36 h36 (by decide) (by decide) (by decide) (by decide) (off := 167) rfl (tgt := 203) (by decide) ?_
    refine Z_aload0 hk dX9_joins_203 ?_
    refine Z_lload4 hk dX9_joins_204 ?_
    refine Z_lload2 hk dX9_joins_206 ?_
    refine Z_lcmp hk dX9_joins_207 (by omega) (by omega) (by omega) (by omega) (fun v207 e207 => ?_)
    have J216 : ∀ (y1_216 : Int), (-9223372036854775808 ≤ y1_216 ∧ y1_216 ≤ 9223372036854775807) → Zj κ δ ad rs Q 6 (121, 0, 0) 216 [some (.ref (ad 48)), some (iv w), some (jv v10), none, some (jv v22), none] [jv y1_216, .ref (ad 48)] m32 := by
      intro y1_216 h216
      try simp only [em32, and_true, true_and, or_true, true_or, implies_true, upn, reduceIte, Nat.reduceEqDiff, ne_eq, not_false_eq_true, upc] at h216
      refine Z_Vv hk (c_X9_piles κ.2.1 δ ad _ hA y1_216 (by (try simp only [em32, and_true, true_and, or_true, true_or, implies_true, upn, reduceIte, Nat.reduceEqDiff, ne_eq, not_false_eq_true, upc]) <;> (omega)) (by (try simp only [em32, and_true, true_and, or_true, true_or, implies_true, upn, reduceIte, Nat.reduceEqDiff, ne_eq, not_false_eq_true, upc]) <;> (omega))) ov_X9_piles ml_X9_624 dX9_joins_216 rfl ⟨by decide, by decide⟩ ob_48.1 (by decide) (by decide) rfl (Nat.le_of_ble_eq_true rfl) (fun m216 p216 => ?_)
      obtain ⟨p216, f216_0, f216_1⟩ := p216
      try simp only [f216_0, f216_1, em32, e5, e10, e17, e22, e27, and_true, true_and, or_true, true_or, implies_true, upn, reduceIte, Nat.reduceEqDiff, ne_eq, not_false_eq_true, upc] at p216
      refine Z_goto hk (tgt := 289) dX9_joins_219 (by decide) ?_
      exact Z_vret hk hA hQ dX9_joins_289 ⟨rfl, rfl, rfl, (by exact ⟨(by (try simp only [f216_0, f216_1, em32, and_true, true_and, or_true, true_or, implies_true, upn, reduceIte, Nat.reduceEqDiff, ne_eq, not_false_eq_true, upc]) <;> (omega)), (by intro c k0 k1; simp only [f216_0, f216_1, em32, upc, upn, k0, k1, reduceIte, Nat.reduceEqDiff, ne_eq, not_false_eq_true]), (by intro i k0; simp only [f216_0, f216_1, em32, upc, upn, k0, reduceIte, Nat.reduceEqDiff, ne_eq, not_false_eq_true])⟩)⟩
    refine Z_if_ge hk (tgt := 215) dX9_joins_208 (by decide) (by omega) (by omega) (fun h208 => ?_) (fun h208 => ?_)
    · refine Z_lconst0 hk dX9_joins_215 ?_
      exact J216 _ (by (try simp only [em32, and_true, true_and, or_true, true_or, implies_true, upn, reduceIte, Nat.reduceEqDiff, ne_eq, not_false_eq_true, upc]) <;> (omega))
    · refine Z_lconst1 hk dX9_joins_211 ?_
      refine Z_goto hk (tgt := 216) dX9_joins_212 (by decide) ?_
      exact J216 _ (by (try simp only [em32, and_true, true_and, or_true, true_or, implies_true, upn, reduceIte, Nat.reduceEqDiff, ne_eq, not_false_eq_true, upc]) <;> (omega))
  · refine Z_tableIn hk dX9_joins_36 h36 (by decide) (by decide) (by decide) (by decide) (off := 186) rfl (tgt := 222) (by decide) ?_
    refine Z_aload0 hk dX9_joins_222 ?_
    refine Z_lload4 hk dX9_joins_223 ?_
    refine Z_lload2 hk dX9_joins_225 ?_
    refine Z_lcmp hk dX9_joins_226 (by omega) (by omega) (by omega) (by omega) (fun v226 e226 => ?_)
    have J235 : ∀ (y1_235 : Int), (-9223372036854775808 ≤ y1_235 ∧ y1_235 ≤ 9223372036854775807) → Zj κ δ ad rs Q 6 (121, 0, 0) 235 [some (.ref (ad 48)), some (iv w), some (jv v10), none, some (jv v22), none] [jv y1_235, .ref (ad 48)] m32 := by
      intro y1_235 h235
      try simp only [em32, and_true, true_and, or_true, true_or, implies_true, upn, reduceIte, Nat.reduceEqDiff, ne_eq, not_false_eq_true, upc] at h235
      refine Z_Vv hk (c_X9_piles κ.2.1 δ ad _ hA y1_235 (by (try simp only [em32, and_true, true_and, or_true, true_or, implies_true, upn, reduceIte, Nat.reduceEqDiff, ne_eq, not_false_eq_true, upc]) <;> (omega)) (by (try simp only [em32, and_true, true_and, or_true, true_or, implies_true, upn, reduceIte, Nat.reduceEqDiff, ne_eq, not_false_eq_true, upc]) <;> (omega))) ov_X9_piles ml_X9_624 dX9_joins_235 rfl ⟨by decide, by decide⟩ ob_48.1 (by decide) (by decide) rfl (Nat.le_of_ble_eq_true rfl) (fun m235 p235 => ?_)
      obtain ⟨p235, f235_0, f235_1⟩ := p235
      try simp only [f235_0, f235_1, em32, e5, e10, e17, e22, e27, and_true, true_and, or_true, true_or, implies_true, upn, reduceIte, Nat.reduceEqDiff, ne_eq, not_false_eq_true, upc] at p235
      refine Z_goto hk (tgt := 289) dX9_joins_238 (by decide) ?_
      exact Z_vret hk hA hQ dX9_joins_289 ⟨rfl, rfl, rfl, (by exact ⟨(by (try simp only [f235_0, f235_1, em32, and_true, true_and, or_true, true_or, implies_true, upn, reduceIte, Nat.reduceEqDiff, ne_eq, not_false_eq_true, upc]) <;> (omega)), (by intro c k0 k1; simp only [f235_0, f235_1, em32, upc, upn, k0, k1, reduceIte, Nat.reduceEqDiff, ne_eq, not_false_eq_true]), (by intro i k0; simp only [f235_0, f235_1, em32, upc, upn, k0, reduceIte, Nat.reduceEqDiff, ne_eq, not_false_eq_true])⟩)⟩
    refine Z_if_le hk (tgt := 234) dX9_joins_227 (by decide) (by omega) (by omega) (fun h227 => ?_) (fun h227 => ?_)
    · refine Z_lconst0 hk dX9_joins_234 ?_
      exact J235 _ (by (try simp only [em32, and_true, true_and, or_true, true_or, implies_true, upn, reduceIte, Nat.reduceEqDiff, ne_eq, not_false_eq_true, upc]) <;> (omega))
    · refine Z_lconst1 hk dX9_joins_230 ?_
      refine Z_goto hk (tgt := 235) dX9_joins_231 (by decide) ?_
      exact J235 _ (by (try simp only [em32, and_true, true_and, or_true, true_or, implies_true, upn, reduceIte, Nat.reduceEqDiff, ne_eq, not_false_eq_true, upc]) <;> (omega))
  · refine Z_tableIn hk dX9_joins_36 h36 (by decide) (by decide) (by decide) (by decide) (off := 205) rfl (tgt := 241) (by decide) ?_
    refine Z_aload0 hk dX9_joins_241 ?_
    refine Z_lload4 hk dX9_joins_242 ?_
    refine Z_lload2 hk dX9_joins_244 ?_
    refine Z_lcmp hk dX9_joins_245 (by omega) (by omega) (by omega) (by omega) (fun v245 e245 => ?_)
    have J254 : ∀ (y1_254 : Int), (-9223372036854775808 ≤ y1_254 ∧ y1_254 ≤ 9223372036854775807) → Zj κ δ ad rs Q 6 (121, 0, 0) 254 [some (.ref (ad 48)), some (iv w), some (jv v10), none, some (jv v22), none] [jv y1_254, .ref (ad 48)] m32 := by
      intro y1_254 h254
      try simp only [em32, and_true, true_and, or_true, true_or, implies_true, upn, reduceIte, Nat.reduceEqDiff, ne_eq, not_false_eq_true, upc] at h254
      refine Z_Vv hk (c_X9_piles κ.2.1 δ ad _ hA y1_254 (by (try simp only [em32, and_true, true_and, or_true, true_or, implies_true, upn, reduceIte, Nat.reduceEqDiff, ne_eq, not_false_eq_true, upc]) <;> (omega)) (by (try simp only [em32, and_true, true_and, or_true, true_or, implies_true, upn, reduceIte, Nat.reduceEqDiff, ne_eq, not_false_eq_true, upc]) <;> (omega))) ov_X9_piles ml_X9_624 dX9_joins_254 rfl ⟨by decide, by decide⟩ ob_48.1 (by decide) (by decide) rfl (Nat.le_of_ble_eq_true rfl) (fun m254 p254 => ?_)
      obtain ⟨p254, f254_0, f254_1⟩ := p254
      try simp only [f254_0, f254_1, em32, e5, e10, e17, e22, e27, and_true, true_and, or_true, true_or, implies_true, upn, reduceIte, Nat.reduceEqDiff, ne_eq, not_false_eq_true, upc] at p254
      refine Z_goto hk (tgt := 289) dX9_joins_257 (by decide) ?_
      exact Z_vret hk hA hQ dX9_joins_289 ⟨rfl, rfl, rfl, (by exact ⟨(by (try simp only [f254_0, f254_1, em32, and_true, true_and, or_true, true_or, implies_true, upn, reduceIte, Nat.reduceEqDiff, ne_eq, not_false_eq_true, upc]) <;> (omega)), (by intro c k0 k1; simp only [f254_0, f254_1, em32, upc, upn, k0, k1, reduceIte, Nat.reduceEqDiff, ne_eq, not_false_eq_true]), (by intro i k0; simp only [f254_0, f254_1, em32, upc, upn, k0, reduceIte, Nat.reduceEqDiff, ne_eq, not_false_eq_true])⟩)⟩
    refine Z_if_ne hk (tgt := 253) dX9_joins_246 (by decide) (by omega) (by omega) (fun h246 => ?_) (fun h246 => ?_)
    · refine Z_lconst0 hk dX9_joins_253 ?_
      exact J254 _ (by (try simp only [em32, and_true, true_and, or_true, true_or, implies_true, upn, reduceIte, Nat.reduceEqDiff, ne_eq, not_false_eq_true, upc]) <;> (omega))
    · refine Z_lconst1 hk dX9_joins_249 ?_
      refine Z_goto hk (tgt := 254) dX9_joins_250 (by decide) ?_
      exact J254 _ (by (try simp only [em32, and_true, true_and, or_true, true_or, implies_true, upn, reduceIte, Nat.reduceEqDiff, ne_eq, not_false_eq_true, upc]) <;> (omega))
  · refine Z_tableIn hk dX9_joins_36 h36 (by decide) (by decide) (by decide) (by decide) (off := 224) rfl (tgt := 260) (by decide) ?_
    refine Z_aload0 hk dX9_joins_260 ?_
    refine Z_lload4 hk dX9_joins_261 ?_
    refine Z_lload2 hk dX9_joins_263 ?_
    refine Z_lmul hk dX9_joins_264 ?_
    refine Z_wJ (fun w264 a264w b264w g264w => ?_)
    refine Z_Vv hk (c_X9_piles κ.2.1 δ ad _ hA w264 (by (try simp only [em32, and_true, true_and, or_true, true_or, implies_true, upn, reduceIte, Nat.reduceEqDiff, ne_eq, not_false_eq_true, upc]) <;> (omega)) (by (try simp only [em32, and_true, true_and, or_true, true_or, implies_true, upn, reduceIte, Nat.reduceEqDiff, ne_eq, not_false_eq_true, upc]) <;> (omega))) ov_X9_piles ml_X9_624 dX9_joins_265 rfl ⟨by decide, by decide⟩ ob_48.1 (by decide) (by decide) rfl (Nat.le_of_ble_eq_true rfl) (fun m265 p265 => ?_)
    obtain ⟨p265, f265_0, f265_1⟩ := p265
    try simp only [f265_0, f265_1, em32, e5, e10, e17, e22, e27, and_true, true_and, or_true, true_or, implies_true, upn, reduceIte, Nat.reduceEqDiff, ne_eq, not_false_eq_true, upc] at p265
    refine Z_goto hk (tgt := 289) dX9_joins_268 (by decide) ?_
    exact Z_vret hk hA hQ dX9_joins_289 ⟨rfl, rfl, rfl, (by exact ⟨(by (try simp only [f265_0, f265_1, em32, and_true, true_and, or_true, true_or, implies_true, upn, reduceIte, Nat.reduceEqDiff, ne_eq, not_false_eq_true, upc]) <;> (omega)), (by intro c k0 k1; simp only [f265_0, f265_1, em32, upc, upn, k0, k1, reduceIte, Nat.reduceEqDiff, ne_eq, not_false_eq_true]), (by intro i k0; simp only [f265_0, f265_1, em32, upc, upn, k0, reduceIte, Nat.reduceEqDiff, ne_eq, not_false_eq_true])⟩)⟩
set_option maxHeartbeats 2000000 in
set_option maxRecDepth 10000 in
theorem c_X9_claim (l : Launch) (δ : Dp) (ad : Nat → Nat) (M : Mem) (hA : okA δ ad) (k : Int) (q0 : 0 ≤ (M 48 65) ∧ (M 48 65) ≤ 6 ∧ 0 ≤ (M 48 66) ∧ (M 48 66) ≤ 4 ∧ -1 ≤ (M 48 76) ∧ (M 48 76) ≤ 5 ∧ 0 ≤ (M 48 77) ∧ (M 48 77) ≤ 8 ∧ 0 ≤ (M 48 84) ∧ (M 48 84) ≤ 250 ∧ -1 ≤ (M 48 91) ∧ (M 48 91) ≤ (M 48 84)) (q2 : AC (M 48 84) (M 104) (M 105) (M 106) (M 107) (M 108)) (q3 : LK (M 97)) (q4 : KB (M 99)) (q5 : KB (M 100)) (q6 : CP (M 48 77) (M 101) (M 82)) (i_k : -2147483648 ≤ k ∧ k ≤ 2147483647) : Mi l δ yX9_claim cX9_claim 4 (some (.int)) 5 123 ad rs [.ref (ad 48), iv k] M (fun r M' => (-1 ≤ r ∧ r ≤ 1) ∧ (∀ c : Nat, c ≠ 110 → c ≠ 111 → c ≠ 112 → c ≠ 113 → c ≠ 114 → c ≠ 115 → c ≠ 116 → c ≠ 117 → c ≠ 48 → M' c = M c) ∧ (∀ i : Nat, i ≠ 94 → i ≠ 95 → i ≠ 96 → i ≠ 97 → i ≠ 98 → i ≠ 104 → i ≠ 107 → M' 48 i = M 48 i)) := by
  refine Mg.of (rm := rmN 5 123) (by decide) (Nat.le_of_ble_eq_true rfl) fun κ _ hk _ => ?_
  generalize hQ : Qg κ δ 121 (rmN 5 123).cells (rmN 5 123).slots _ = Q
  show Zj κ δ ad rs Q 4 (121, 0, 0) 0 [some (.ref (ad 48)), some (iv k), none, none] [] M
  refine Z_iload1 hk dX9_claim_0 ?_
  refine Z_i2l hk dX9_claim_1 (by omega) (by omega) ?_
  refine Z_lconst0 hk dX9_claim_2 ?_
  refine Z_aload0 hk dX9_claim_3 ?_
  refine Z_getI hk fl_9_442 dX9_claim_4 ob_48.1 ob_48.2.1 ob_48.2.2.1 ob_48.2.2.2 ft_9_77 (fun v4 e4 a4 b4 => ?_)
  refine Z_iconst hk dX9_claim_7 ?_
  refine Z_isub hk dX9_claim_8 ?_
  refine Z_i2l hk dX9_claim_9 (by omega) (by omega) ?_
  refine Z_Si hk (c_X9_isIn κ.2.1 δ ad _ hA k 0 (v4 - 1) (by (omega)) (by (omega)) (by (omega))) os_X9_isIn ml_X9_285 dX9_claim_10 rfl ⟨by decide, by decide⟩ rfl (Nat.le_of_ble_eq_true rfl) (fun r10 m10 p10 => ?_)
  obtain ⟨rfl, p10⟩ := p10
  refine Z_if_eq hk (tgt := 23) dX9_claim_13 (by decide) (by omega) (by omega) (fun h13 => ?_) (fun h13 => ?_)
  · refine Z_iconst hk dX9_claim_23 ?_
    exact Z_iret hk hA hQ dX9_claim_24 ⟨rfl, rfl, _, rfl, (by exact ⟨(by (omega)), (by intro c k0 k1 k2 k3 k4 k5 k6 k7 k8; rfl), (by intro i k0 k1 k2 k3 k4 k5 k6; rfl)⟩)⟩
  · refine Z_aload0 hk dX9_claim_16 ?_
    refine Z_getZ hk fl_9_448 dX9_claim_17 ob_48.1 ob_48.2.1 ob_48.2.2.1 ob_48.2.2.2 ft_9_92 (fun v17 e17 a17 b17 => ?_)
    try simp only [e4, and_true, true_and, or_true, true_or, implies_true, upn, reduceIte, Nat.reduceEqDiff, ne_eq, not_false_eq_true, upc] at e17
    refine Z_if_ne hk (tgt := 25) dX9_claim_20 (by decide) (by omega) (by omega) (fun h20 => ?_) (fun h20 => ?_)
    · refine Z_aload0 hk dX9_claim_25 ?_
      refine Z_iconst hk dX9_claim_26 ?_
      refine Z_putI hk hA fl_9_617 dX9_claim_27 ob_48.1 ob_48.2.1 ob_48.2.2.1 ob_48.2.2.2 ft_9_107 (by decide) (by decide) ?_
      refine Z_nm (fun m27 em27 => ?_)
      refine Z_aload0 hk dX9_claim_30 ?_
      refine Z_Vv hk (c_X9_gathers κ.2.1 δ ad _ hA  (by (try simp only [em27, and_true, true_and, or_true, true_or, implies_true, upn, reduceIte, Nat.reduceEqDiff, ne_eq, not_false_eq_true, upc]) <;> (omega)) (by (try simp only [em27, and_true, true_and, or_true, true_or, implies_true, upn, reduceIte, Nat.reduceEqDiff, ne_eq, not_false_eq_true, upc]) <;> (exact q2)) (by (try simp only [em27, and_true, true_and, or_true, true_or, implies_true, upn, reduceIte, Nat.reduceEqDiff, ne_eq, not_false_eq_true, upc]) <;> (omega))) ov_X9_gathers ml_X9_588 dX9_claim_31 rfl ⟨by decide, by decide⟩ ob_48.1 (by decide) (by decide) rfl (Nat.le_of_ble_eq_true rfl) (fun m31 p31 => ?_)
      obtain ⟨p31, f31_0, f31_1, f31_2, f31_3⟩ := p31
      try simp only [f31_0, f31_1, f31_2, f31_3, em27, e4, e17, and_true, true_and, or_true, true_or, implies_true, upn, reduceIte, Nat.reduceEqDiff, ne_eq, not_false_eq_true, upc] at p31
      have sa34 : SA (M 48 84) (M 104) (m31 113) := by
        have z := f31_2
        rw [em27] at z
        exact z
      obtain ⟨c1, c2, c3, c4⟩ := q6 k.toNat (by omega)
      refine Z_iload1 hk dX9_claim_34 ?_
      have J50 : ∀ (y0_50 : Int), (y0_50 = cq (M 101) k.toNat) → Zj κ δ ad rs Q 4 (121, 0, 0) 50 [some (.ref (ad 48)), some (iv k), none, none] [iv y0_50] m31 := by
        intro y0_50 h50
        try simp only [f31_0, f31_1, f31_2, f31_3, em27, and_true, true_and, or_true, true_or, implies_true, upn, reduceIte, Nat.reduceEqDiff, ne_eq, not_false_eq_true, upc] at h50
        have J51 : ∀ (n : Nat) (x2_51 : Int) (m51 : Mem), (((cq (M 101) k.toNat ≤ x2_51 ∧ x2_51 ≤ M 101 k.toNat ∧ 0 ≤ (m51 48 107)) ∧ (m51 48 107) = dpt (M 82) (800 + (cq (M 101) k.toNat).toNat) (x2_51 - cq (M 101) k.toNat).toNat) ∧ (∀ c : Nat, c ≠ 110 → c ≠ 111 → c ≠ 112 → c ≠ 117 → c ≠ 48 → m51 c = m31 c) ∧ (∀ i : Nat, i ≠ 94 → i ≠ 95 → i ≠ 96 → i ≠ 97 → i ≠ 98 → i ≠ 107 → m51 48 i = m31 48 i)) → (M 101 k.toNat - x2_51) < (n : Int) → Zj κ δ ad rs Q 4 (121, 0, 0) 51 [some (.ref (ad 48)), some (iv k), some (iv x2_51), none] [] m51 := by
          intro n
          induction n with
          | zero => intro x2_51 m51 h51 hm51; exfalso; obtain ⟨h51, -⟩ := h51; omega
          | succ n ih51 =>
            intro x2_51 m51 h51 hm51
            obtain ⟨h51, f51_0, f51_1⟩ := h51
            try simp only [f51_0, f51_1, f31_0, f31_1, f31_2, f31_3, em27, and_true, true_and, or_true, true_or, implies_true, upn, reduceIte, Nat.reduceEqDiff, ne_eq, not_false_eq_true, upc] at h51 hm51
            have dl := dpt_le (M 82) (800 + (cq (M 101) k.toNat).toNat) (x2_51 - cq (M 101) k.toNat).toNat
            refine Z_iload2 hk dX9_claim_51 ?_
            refine Z_aload0 hk dX9_claim_52 ?_
            refine Z_getR hk fl_9_179 dX9_claim_53 ob_48.1 ob_48.2.1 ob_48.2.2.1 ob_48.2.2.2 ft_9_78 rs_48_78 ?_
            refine Z_iload1 hk dX9_claim_56 ?_
            refine Z_iald hk dX9_claim_57 ar_101.1 ar_101.2.1 ar_101.2.2 (by omega) (by omega) (fun v57 e57 a57 b57 => ?_)
            try simp only [f51_0, f51_1, f31_0, f31_1, f31_2, f31_3, em27, e4, e17, and_true, true_and, or_true, true_or, implies_true, upn, reduceIte, Nat.reduceEqDiff, ne_eq, not_false_eq_true, upc] at e57
            refine Z_icmp_ge hk (tgt := 364) dX9_claim_58 (by decide) (by omega) (by omega) (by omega) (by omega) (fun h58 => ?_) (fun h58 => ?_)
            · refine Z_aload0 hk dX9_claim_364 ?_
              refine Z_getR hk fl_9_230 dX9_claim_365 ob_48.1 ob_48.2.1 ob_48.2.2.1 ob_48.2.2.2 ft_9_106 rs_48_106 ?_
              refine Z_iconst hk dX9_claim_368 ?_
              refine Z_lald hk dX9_claim_369 ar_117.1 ar_117.2.1 ar_117.2.2 (by omega) (by omega) (fun v369 e369 a369 b369 => ?_)
              try simp only [f51_0, f51_1, f31_0, f31_1, f31_2, f31_3, em27, e4, e17, e57, and_true, true_and, or_true, true_or, implies_true, upn, reduceIte, Nat.reduceEqDiff, ne_eq, not_false_eq_true, upc] at e369
              refine Z_lconst1 hk dX9_claim_370 ?_
              refine Z_lcmp hk dX9_claim_371 (by omega) (by omega) (by decide) (by decide) (fun v371 e371 => ?_)
              refine Z_if_ne hk (tgt := 379) dX9_claim_372 (by decide) (by omega) (by omega) (fun h372 => ?_) (fun h372 => ?_)
              · refine Z_iconst hk dX9_claim_379 ?_
                exact Z_iret hk hA hQ dX9_claim_380 ⟨rfl, rfl, _, rfl, (by exact ⟨(by (try simp only [f51_0, f51_1, f31_0, f31_1, f31_2, f31_3, em27, and_true, true_and, or_true, true_or, implies_true, upn, reduceIte, Nat.reduceEqDiff, ne_eq, not_false_eq_true, upc]) <;> (omega)), (by intro c k0 k1 k2 k3 k4 k5 k6 k7 k8; simp only [f51_0, f51_1, f31_0, f31_1, f31_2, f31_3, em27, upc, upn, k0, k1, k2, k3, k4, k5, k6, k7, k8, reduceIte, Nat.reduceEqDiff, ne_eq, not_false_eq_true]), (by intro i k0 k1 k2 k3 k4 k5 k6; simp only [f51_0, f51_1, f31_0, f31_1, f31_2, f31_3, em27, upc, upn, k0, k1, k2, k3, k4, k5, k6, reduceIte, Nat.reduceEqDiff, ne_eq, not_false_eq_true])⟩)⟩
              · refine Z_iconst hk dX9_claim_375 ?_
                refine Z_goto hk (tgt := 380) dX9_claim_376 (by decide) ?_
                exact Z_iret hk hA hQ dX9_claim_380 ⟨rfl, rfl, _, rfl, (by exact ⟨(by (try simp only [f51_0, f51_1, f31_0, f31_1, f31_2, f31_3, em27, and_true, true_and, or_true, true_or, implies_true, upn, reduceIte, Nat.reduceEqDiff, ne_eq, not_false_eq_true, upc]) <;> (omega)), (by intro c k0 k1 k2 k3 k4 k5 k6 k7 k8; simp only [f51_0, f51_1, f31_0, f31_1, f31_2, f31_3, em27, upc, upn, k0, k1, k2, k3, k4, k5, k6, k7, k8, reduceIte, Nat.reduceEqDiff, ne_eq, not_false_eq_true]), (by intro i k0 k1 k2 k3 k4 k5 k6; simp only [f51_0, f51_1, f31_0, f31_1, f31_2, f31_3, em27, upc, upn, k0, k1, k2, k3, k4, k5, k6, reduceIte, Nat.reduceEqDiff, ne_eq, not_false_eq_true])⟩)⟩
            · refine Z_aload0 hk dX9_claim_61 ?_
              refine Z_getR hk fl_9_114 dX9_claim_62 ob_48.1 ob_48.2.1 ob_48.2.2.1 ob_48.2.2.2 ft_9_42 rs_48_42 ?_
              refine Z_sipush hk dX9_claim_65 (by decide) ?_
              refine Z_iload2 hk dX9_claim_68 ?_
              refine Z_iadd hk dX9_claim_69 ?_
              refine Z_iald hk dX9_claim_70 ar_82.1 ar_82.2.1 ar_82.2.2 (by omega) (by omega) (fun v70 e70 a70 b70 => ?_)
              try simp only [f51_0, f51_1, f31_0, f31_1, f31_2, f31_3, em27, e4, e17, e57, and_true, true_and, or_true, true_or, implies_true, upn, reduceIte, Nat.reduceEqDiff, ne_eq, not_false_eq_true, upc] at e70
              refine Z_istore3 hk rfl (by decide) dX9_claim_71 ?_
              have hix : M 82 (800 + (cq (M 101) k.toNat).toNat + (x2_51 - cq (M 101) k.toNat).toNat) = v70 := by
                rw [e70]
                congr 1
                omega
              obtain ⟨d1, d2, d3⟩ := c4 (x2_51 - cq (M 101) k.toNat).toNat (by omega)
              rw [hix] at d1 d2 d3
              unfold okc at d1
              refine Z_iload3 hk dX9_claim_72 ?_
              refine Z_sipush hk dX9_claim_73 (by decide) ?_
              have J358 : ∀ (m358 : Mem), (((m358 48 107) = m51 48 107 + ef v70 ∧ 0 ≤ (m358 48 107)) ∧ (∀ c : Nat, c ≠ 110 → c ≠ 111 → c ≠ 112 → c ≠ 117 → c ≠ 48 → m358 c = m51 c) ∧ (∀ i : Nat, i ≠ 94 → i ≠ 95 → i ≠ 96 → i ≠ 97 → i ≠ 98 → i ≠ 107 → m358 48 i = m51 48 i)) → Zj κ δ ad rs Q 4 (121, 0, 0) 358 [some (.ref (ad 48)), some (iv k), some (iv x2_51), some (iv v70)] [] m358 := by
                intro m358 h358
                obtain ⟨h358, f358_0, f358_1⟩ := h358
                try simp only [f358_0, f358_1, f51_0, f51_1, f31_0, f31_1, f31_2, f31_3, em27, and_true, true_and, or_true, true_or, implies_true, upn, reduceIte, Nat.reduceEqDiff, ne_eq, not_false_eq_true, upc] at h358
                refine Z_iinc2 hk rfl (by decide) dX9_claim_358 ?_
                refine Z_goto hk (tgt := 51) dX9_claim_361 (by decide) ?_
                refine Z_drop3 ?_
                exact ih51 _ _ (by exact ⟨(by (exact ⟨(by omega), (by rw [show (x2_51 + 1 - cq (M 101) k.toNat).toNat = (x2_51 - cq (M 101) k.toNat).toNat + 1 from by omega]; show _ = dpt (M 82) (800 + (cq (M 101) k.toNat).toNat) (x2_51 - cq (M 101) k.toNat).toNat + ef (M 82 (800 + (cq (M 101) k.toNat).toNat + (x2_51 - cq (M 101) k.toNat).toNat)); rw [hix]; omega)⟩)), (by intro c k0 k1 k2 k3 k4; simp only [f358_0, f358_1, f51_0, f51_1, f31_0, f31_1, f31_2, f31_3, em27, upc, upn, k0, k1, k2, k3, k4, reduceIte, Nat.reduceEqDiff, ne_eq, not_false_eq_true]), (by intro i k0 k1 k2 k3 k4 k5; simp only [f358_0, f358_1, f51_0, f51_1, f31_0, f31_1, f31_2, f31_3, em27, upc, upn, k0, k1, k2, k3, k4, k5, reduceIte, Nat.reduceEqDiff, ne_eq, not_false_eq_true])⟩) (by (try simp only [f358_0, f358_1, f51_0, f51_1, f31_0, f31_1, f31_2, f31_3, em27, and_true, true_and, or_true, true_or, implies_true, upn, reduceIte, Nat.reduceEqDiff, ne_eq, not_false_eq_true, upc]) <;> (omega))
              refine Z_icmp_lt hk (tgt := 92) dX9_claim_76 (by decide) (by omega) (by omega) (by decide) (by decide) (fun h76 => ?_) (fun h76 => ?_)
              · refine Z_iload3 hk dX9_claim_92 ?_
                refine Z_sipush hk dX9_claim_93 (by decide) ?_
                refine Z_icmp_lt hk (tgt := 124) dX9_claim_96 (by decide) (by omega) (by omega) (by decide) (by decide) (fun h96 => ?_) (fun h96 => ?_)
                · refine Z_iload3 hk dX9_claim_124 ?_
                  refine Z_sipush hk dX9_claim_125 (by decide) ?_
                  refine Z_icmp_lt hk (tgt := 149) dX9_claim_128 (by decide) (by omega) (by omega) (by decide) (by decide) (fun h128 => ?_) (fun h128 => ?_)
                  · refine Z_iload3 hk dX9_claim_149 ?_
                    refine Z_sipush hk dX9_claim_150 (by decide) ?_
                    refine Z_icmp_lt hk (tgt := 173) dX9_claim_153 (by decide) (by omega) (by omega) (by decide) (by decide) (fun h153 => ?_) (fun h153 => ?_)
                    · refine Z_iload3 hk dX9_claim_173 ?_
                      refine Z_sipush hk dX9_claim_174 (by decide) ?_
                      refine Z_icmp_lt hk (tgt := 199) dX9_claim_177 (by decide) (by omega) (by omega) (by decide) (by decide) (fun h177 => ?_) (fun h177 => ?_)
                      · refine Z_iload3 hk dX9_claim_199 ?_
                        refine Z_sipush hk dX9_claim_200 (by decide) ?_
                        refine Z_icmp_lt hk (tgt := 225) dX9_claim_203 (by decide) (by omega) (by omega) (by decide) (by decide) (fun h203 => ?_) (fun h203 => ?_)
                        · refine Z_iload3 hk dX9_claim_225 ?_
                          refine Z_sipush hk dX9_claim_226 (by decide) ?_
                          refine Z_icmp_lt hk (tgt := 251) dX9_claim_229 (by decide) (by omega) (by omega) (by decide) (by decide) (fun h229 => ?_) (fun h229 => ?_)
                          · refine Z_iload3 hk dX9_claim_251 ?_
                            refine Z_bipush hk dX9_claim_252 (by decide) ?_
                            refine Z_icmp_lt hk (tgt := 274) dX9_claim_254 (by decide) (by omega) (by omega) (by decide) (by decide) (fun h254 => ?_) (fun h254 => ?_)
                            · refine Z_iload3 hk dX9_claim_274 ?_
                              refine Z_bipush hk dX9_claim_275 (by decide) ?_
                              refine Z_icmp_lt hk (tgt := 297) dX9_claim_277 (by decide) (by omega) (by omega) (by decide) (by decide) (fun h277 => ?_) (fun h277 => ?_)
                              · refine Z_iload3 hk dX9_claim_297 ?_
                                refine Z_bipush hk dX9_claim_298 (by decide) ?_
                                refine Z_icmp_lt hk (tgt := 320) dX9_claim_300 (by decide) (by omega) (by omega) (by decide) (by decide) (fun h300 => ?_) (fun h300 => ?_)
                                · refine Z_iload3 hk dX9_claim_320 ?_
                                  refine Z_bipush hk dX9_claim_321 (by decide) ?_
                                  refine Z_icmp_ne hk (tgt := 353) dX9_claim_323 (by decide) (by omega) (by omega) (by decide) (by decide) (fun h323 => ?_) (fun h323 => ?_)
                                  · refine Z_aload0 hk dX9_claim_353 ?_
                                    refine Z_iload3 hk dX9_claim_354 ?_
                                    refine Z_Vv hk (c_X9_joins κ.2.1 δ ad _ hA v70 (by (try simp only [f51_0, f51_1, f31_0, f31_1, f31_2, f31_3, em27, and_true, true_and, or_true, true_or, implies_true, upn, reduceIte, Nat.reduceEqDiff, ne_eq, not_false_eq_true, upc]) <;> (omega)) (by (try simp only [f51_0, f51_1, f31_0, f31_1, f31_2, f31_3, em27, and_true, true_and, or_true, true_or, implies_true, upn, reduceIte, Nat.reduceEqDiff, ne_eq, not_false_eq_true, upc]) <;> (omega))) ov_X9_joins ml_X9_631 dX9_claim_355 rfl ⟨by decide, by decide⟩ ob_48.1 (by decide) (by decide) rfl (Nat.le_of_ble_eq_true rfl) (fun m355 p355 => ?_)
                                    obtain ⟨p355, f355_0, f355_1⟩ := p355
                                    try simp only [f355_0, f355_1, f51_0, f51_1, f31_0, f31_1, f31_2, f31_3, em27, e4, e17, e57, e70, and_true, true_and, or_true, true_or, implies_true, upn, reduceIte, Nat.reduceEqDiff, ne_eq, not_false_eq_true, upc] at p355
                                    exact J358 _ (by exact ⟨(by (rw [ef_lo (by omega) (by omega)]; (try simp only [f355_0, f355_1, f51_0, f51_1, f31_0, f31_1, f31_2, f31_3, em27, e4, e17, e57, e70, and_true, true_and, or_true, true_or, implies_true, upn, reduceIte, Nat.reduceEqDiff, ne_eq, not_false_eq_true, upc, upc]) <;> omega)), (by intro c k0 k1 k2 k3 k4; simp only [f355_0, f355_1, f51_0, f51_1, f31_0, f31_1, f31_2, f31_3, em27, upc, upn, k0, k1, k2, k3, k4, reduceIte, Nat.reduceEqDiff, ne_eq, not_false_eq_true]), (by intro i k0 k1 k2 k3 k4 k5; simp only [f355_0, f355_1, f51_0, f51_1, f31_0, f31_1, f31_2, f31_3, em27, upc, upn, k0, k1, k2, k3, k4, k5, reduceIte, Nat.reduceEqDiff, ne_eq, not_false_eq_true])⟩)
                                  · refine Z_aload0 hk dX9_claim_326 ?_
                                    refine Z_getR hk fl_9_230 dX9_claim_327 ob_48.1 ob_48.2.1 ob_48.2.2.1 ob_48.2.2.2 ft_9_106 rs_48_106 ?_
                                    refine Z_aload0 hk dX9_claim_330 ?_
                                    refine Z_getI hk fl_9_617 dX9_claim_331 ob_48.1 ob_48.2.1 ob_48.2.2.1 ob_48.2.2.2 ft_9_107 (fun v331 e331 a331 b331 => ?_)
                                    try simp only [f51_0, f51_1, f31_0, f31_1, f31_2, f31_3, em27, e4, e17, e57, e70, and_true, true_and, or_true, true_or, implies_true, upn, reduceIte, Nat.reduceEqDiff, ne_eq, not_false_eq_true, upc] at e331
                                    refine Z_iconst hk dX9_claim_334 ?_
                                    refine Z_isub hk dX9_claim_335 ?_
                                    refine Z_lconst1 hk dX9_claim_336 ?_
                                    refine Z_aload0 hk dX9_claim_337 ?_
                                    refine Z_getR hk fl_9_230 dX9_claim_338 ob_48.1 ob_48.2.1 ob_48.2.2.1 ob_48.2.2.2 ft_9_106 rs_48_106 ?_
                                    refine Z_aload0 hk dX9_claim_341 ?_
                                    refine Z_getI hk fl_9_617 dX9_claim_342 ob_48.1 ob_48.2.1 ob_48.2.2.1 ob_48.2.2.2 ft_9_107 (fun v342 e342 a342 b342 => ?_)
                                    try simp only [f51_0, f51_1, f31_0, f31_1, f31_2, f31_3, em27, e4, e17, e57, e70, e331, and_true, true_and, or_true, true_or, implies_true, upn, reduceIte, Nat.reduceEqDiff, ne_eq, not_false_eq_true, upc] at e342
                                    refine Z_iconst hk dX9_claim_345 ?_
                                    refine Z_isub hk dX9_claim_346 ?_
                                    refine Z_lald hk dX9_claim_347 ar_117.1 ar_117.2.1 ar_117.2.2 (by omega) (by omega) (fun v347 e347 a347 b347 => ?_)
                                    try simp only [f51_0, f51_1, f31_0, f31_1, f31_2, f31_3, em27, e4, e17, e57, e70, e331, e342, and_true, true_and, or_true, true_or, implies_true, upn, reduceIte, Nat.reduceEqDiff, ne_eq, not_false_eq_true, upc] at e347
                                    refine Z_lsub hk dX9_claim_348 ?_
                                    refine Z_wJ (fun w348 a348w b348w g348w => ?_)
                                    refine Z_last hk hA dX9_claim_349 ar_117.1 ar_117.2.1 ar_117.2.2 (by omega) (by omega) (by omega) (by omega) ?_
                                    refine Z_nm (fun m349 em349 => ?_)
                                    refine Z_goto hk (tgt := 358) dX9_claim_350 (by decide) ?_
                                    exact J358 _ (by exact ⟨(by (rw [show ef v70 = 0 from (by rw [show v70 = 16 from by omega]; exact ef_no)]; (try simp only [em349, f51_0, f51_1, f31_0, f31_1, f31_2, f31_3, em27, e4, e17, e57, e70, e331, e342, e347, and_true, true_and, or_true, true_or, implies_true, upn, reduceIte, Nat.reduceEqDiff, ne_eq, not_false_eq_true, upc, upc]) <;> omega)), (by intro c k0 k1 k2 k3 k4; simp only [em349, f51_0, f51_1, f31_0, f31_1, f31_2, f31_3, em27, upc, upn, k0, k1, k2, k3, k4, reduceIte, Nat.reduceEqDiff, ne_eq, not_false_eq_true]), (by intro i k0 k1 k2 k3 k4 k5; simp only [em349, f51_0, f51_1, f31_0, f31_1, f31_2, f31_3, em27, upc, upn, k0, k1, k2, k3, k4, k5, reduceIte, Nat.reduceEqDiff, ne_eq, not_false_eq_true])⟩)
                                · refine Z_aload0 hk dX9_claim_303 ?_
                                  refine Z_aload0 hk dX9_claim_304 ?_
                                  refine Z_iload3 hk dX9_claim_305 ?_
                                  refine Z_bipush hk dX9_claim_306 (by decide) ?_
                                  refine Z_isub hk dX9_claim_308 ?_
                                  refine Z_iconst hk dX9_claim_309 ?_
                                  refine Z_Vi hk (c_X9_told κ.2.1 δ ad _ hA (v70 - 100) 0 (by (try simp only [f51_0, f51_1, f31_0, f31_1, f31_2, f31_3, em27, and_true, true_and, or_true, true_or, implies_true, upn, reduceIte, Nat.reduceEqDiff, ne_eq, not_false_eq_true, upc]) <;> (omega)) (by (try simp only [f51_0, f51_1, f31_0, f31_1, f31_2, f31_3, em27, and_true, true_and, or_true, true_or, implies_true, upn, reduceIte, Nat.reduceEqDiff, ne_eq, not_false_eq_true, upc]) <;> (omega)) (by (try simp only [f51_0, f51_1, f31_0, f31_1, f31_2, f31_3, em27, and_true, true_and, or_true, true_or, implies_true, upn, reduceIte, Nat.reduceEqDiff, ne_eq, not_false_eq_true, upc]) <;> (exact q2)) (by (try simp only [f51_0, f51_1, f31_0, f31_1, f31_2, f31_3, em27, and_true, true_and, or_true, true_or, implies_true, upn, reduceIte, Nat.reduceEqDiff, ne_eq, not_false_eq_true, upc]) <;> (exact q3)) (by (try simp only [f51_0, f51_1, f31_0, f31_1, f31_2, f31_3, em27, and_true, true_and, or_true, true_or, implies_true, upn, reduceIte, Nat.reduceEqDiff, ne_eq, not_false_eq_true, upc]) <;> (exact q4)) (by (try simp only [f51_0, f51_1, f31_0, f31_1, f31_2, f31_3, em27, and_true, true_and, or_true, true_or, implies_true, upn, reduceIte, Nat.reduceEqDiff, ne_eq, not_false_eq_true, upc]) <;> (exact q5)) (by (try simp only [f51_0, f51_1, f31_0, f31_1, f31_2, f31_3, em27, and_true, true_and, or_true, true_or, implies_true, upn, reduceIte, Nat.reduceEqDiff, ne_eq, not_false_eq_true, upc]) <;> (omega))) ov_X9_told ml_X9_582 dX9_claim_310 rfl ⟨by decide, by decide⟩ ob_48.1 (by decide) (by decide) rfl (Nat.le_of_ble_eq_true rfl) (fun r310 m310 p310 => ?_)
                                  obtain ⟨p310, f310_0, f310_1⟩ := p310
                                  try simp only [f310_0, f310_1, f51_0, f51_1, f31_0, f31_1, f31_2, f31_3, em27, e4, e17, e57, e70, and_true, true_and, or_true, true_or, implies_true, upn, reduceIte, Nat.reduceEqDiff, ne_eq, not_false_eq_true, upc] at p310
                                  refine Z_i2l hk dX9_claim_313 (by omega) (by omega) ?_
                                  refine Z_Vv hk (c_X9_piles κ.2.1 δ ad _ hA r310 (by (try simp only [f310_0, f310_1, f51_0, f51_1, f31_0, f31_1, f31_2, f31_3, em27, and_true, true_and, or_true, true_or, implies_true, upn, reduceIte, Nat.reduceEqDiff, ne_eq, not_false_eq_true, upc]) <;> (omega)) (by (try simp only [f310_0, f310_1, f51_0, f51_1, f31_0, f31_1, f31_2, f31_3, em27, and_true, true_and, or_true, true_or, implies_true, upn, reduceIte, Nat.reduceEqDiff, ne_eq, not_false_eq_true, upc]) <;> (omega))) ov_X9_piles ml_X9_624 dX9_claim_314 rfl ⟨by decide, by decide⟩ ob_48.1 (by decide) (by decide) rfl (Nat.le_of_ble_eq_true rfl) (fun m314 p314 => ?_)
                                  obtain ⟨p314, f314_0, f314_1⟩ := p314
                                  try simp only [f314_0, f314_1, f310_0, f310_1, f51_0, f51_1, f31_0, f31_1, f31_2, f31_3, em27, e4, e17, e57, e70, and_true, true_and, or_true, true_or, implies_true, upn, reduceIte, Nat.reduceEqDiff, ne_eq, not_false_eq_true, upc] at p314
                                  refine Z_goto hk (tgt := 358) dX9_claim_317 (by decide) ?_
                                  exact J358 _ (by exact ⟨(by (rw [ef_hi (by omega)]; (try simp only [f314_0, f314_1, f310_0, f310_1, f51_0, f51_1, f31_0, f31_1, f31_2, f31_3, em27, e4, e17, e57, e70, and_true, true_and, or_true, true_or, implies_true, upn, reduceIte, Nat.reduceEqDiff, ne_eq, not_false_eq_true, upc, upc]) <;> omega)), (by intro c k0 k1 k2 k3 k4; simp only [f314_0, f314_1, f310_0, f310_1, f51_0, f51_1, f31_0, f31_1, f31_2, f31_3, em27, upc, upn, k0, k1, k2, k3, k4, reduceIte, Nat.reduceEqDiff, ne_eq, not_false_eq_true]), (by intro i k0 k1 k2 k3 k4 k5; simp only [f314_0, f314_1, f310_0, f310_1, f51_0, f51_1, f31_0, f31_1, f31_2, f31_3, em27, upc, upn, k0, k1, k2, k3, k4, k5, reduceIte, Nat.reduceEqDiff, ne_eq, not_false_eq_true])⟩)
                              · refine Z_aload0 hk dX9_claim_280 ?_
                                refine Z_aload0 hk dX9_claim_281 ?_
                                refine Z_iload3 hk dX9_claim_282 ?_
                                refine Z_bipush hk dX9_claim_283 (by decide) ?_
                                refine Z_isub hk dX9_claim_285 ?_
                                refine Z_iconst hk dX9_claim_286 ?_
                                refine Z_Vi hk (c_X9_told κ.2.1 δ ad _ hA (v70 - 110) 1 (by (try simp only [f51_0, f51_1, f31_0, f31_1, f31_2, f31_3, em27, and_true, true_and, or_true, true_or, implies_true, upn, reduceIte, Nat.reduceEqDiff, ne_eq, not_false_eq_true, upc]) <;> (omega)) (by (try simp only [f51_0, f51_1, f31_0, f31_1, f31_2, f31_3, em27, and_true, true_and, or_true, true_or, implies_true, upn, reduceIte, Nat.reduceEqDiff, ne_eq, not_false_eq_true, upc]) <;> (omega)) (by (try simp only [f51_0, f51_1, f31_0, f31_1, f31_2, f31_3, em27, and_true, true_and, or_true, true_or, implies_true, upn, reduceIte, Nat.reduceEqDiff, ne_eq, not_false_eq_true, upc]) <;> (exact q2)) (by (try simp only [f51_0, f51_1, f31_0, f31_1, f31_2, f31_3, em27, and_true, true_and, or_true, true_or, implies_true, upn, reduceIte, Nat.reduceEqDiff, ne_eq, not_false_eq_true, upc]) <;> (exact q3)) (by (try simp only [f51_0, f51_1, f31_0, f31_1, f31_2, f31_3, em27, and_true, true_and, or_true, true_or, implies_true, upn, reduceIte, Nat.reduceEqDiff, ne_eq, not_false_eq_true, upc]) <;> (exact q4)) (by (try simp only [f51_0, f51_1, f31_0, f31_1, f31_2, f31_3, em27, and_true, true_and, or_true, true_or, implies_true, upn, reduceIte, Nat.reduceEqDiff, ne_eq, not_false_eq_true, upc]) <;> (exact q5)) (by (try simp only [f51_0, f51_1, f31_0, f31_1, f31_2, f31_3, em27, and_true, true_and, or_true, true_or, implies_true, upn, reduceIte, Nat.reduceEqDiff, ne_eq, not_false_eq_true, upc]) <;> (omega))) ov_X9_told ml_X9_582 dX9_claim_287 rfl ⟨by decide, by decide⟩ ob_48.1 (by decide) (by decide) rfl (Nat.le_of_ble_eq_true rfl) (fun r287 m287 p287 => ?_)
                                obtain ⟨p287, f287_0, f287_1⟩ := p287
                                try simp only [f287_0, f287_1, f51_0, f51_1, f31_0, f31_1, f31_2, f31_3, em27, e4, e17, e57, e70, and_true, true_and, or_true, true_or, implies_true, upn, reduceIte, Nat.reduceEqDiff, ne_eq, not_false_eq_true, upc] at p287
                                refine Z_i2l hk dX9_claim_290 (by omega) (by omega) ?_
                                refine Z_Vv hk (c_X9_piles κ.2.1 δ ad _ hA r287 (by (try simp only [f287_0, f287_1, f51_0, f51_1, f31_0, f31_1, f31_2, f31_3, em27, and_true, true_and, or_true, true_or, implies_true, upn, reduceIte, Nat.reduceEqDiff, ne_eq, not_false_eq_true, upc]) <;> (omega)) (by (try simp only [f287_0, f287_1, f51_0, f51_1, f31_0, f31_1, f31_2, f31_3, em27, and_true, true_and, or_true, true_or, implies_true, upn, reduceIte, Nat.reduceEqDiff, ne_eq, not_false_eq_true, upc]) <;> (omega))) ov_X9_piles ml_X9_624 dX9_claim_291 rfl ⟨by decide, by decide⟩ ob_48.1 (by decide) (by decide) rfl (Nat.le_of_ble_eq_true rfl) (fun m291 p291 => ?_)
                                obtain ⟨p291, f291_0, f291_1⟩ := p291
                                try simp only [f291_0, f291_1, f287_0, f287_1, f51_0, f51_1, f31_0, f31_1, f31_2, f31_3, em27, e4, e17, e57, e70, and_true, true_and, or_true, true_or, implies_true, upn, reduceIte, Nat.reduceEqDiff, ne_eq, not_false_eq_true, upc] at p291
                                refine Z_goto hk (tgt := 358) dX9_claim_294 (by decide) ?_
                                exact J358 _ (by exact ⟨(by (rw [ef_hi (by omega)]; (try simp only [f291_0, f291_1, f287_0, f287_1, f51_0, f51_1, f31_0, f31_1, f31_2, f31_3, em27, e4, e17, e57, e70, and_true, true_and, or_true, true_or, implies_true, upn, reduceIte, Nat.reduceEqDiff, ne_eq, not_false_eq_true, upc, upc]) <;> omega)), (by intro c k0 k1 k2 k3 k4; simp only [f291_0, f291_1, f287_0, f287_1, f51_0, f51_1, f31_0, f31_1, f31_2, f31_3, em27, upc, upn, k0, k1, k2, k3, k4, reduceIte, Nat.reduceEqDiff, ne_eq, not_false_eq_true]), (by intro i k0 k1 k2 k3 k4 k5; simp only [f291_0, f291_1, f287_0, f287_1, f51_0, f51_1, f31_0, f31_1, f31_2, f31_3, em27, upc, upn, k0, k1, k2, k3, k4, k5, reduceIte, Nat.reduceEqDiff, ne_eq, not_false_eq_true])⟩)
                            · refine Z_aload0 hk dX9_claim_257 ?_
                              refine Z_aload0 hk dX9_claim_258 ?_
                              refine Z_iload3 hk dX9_claim_259 ?_
                              refine Z_bipush hk dX9_claim_260 (by decide) ?_
                              refine Z_isub hk dX9_claim_262 ?_
                              refine Z_iconst hk dX9_claim_263 ?_
                              refine Z_Vi hk (c_X9_told κ.2.1 δ ad _ hA (v70 - 120) 2 (by (try simp only [f51_0, f51_1, f31_0, f31_1, f31_2, f31_3, em27, and_true, true_and, or_true, true_or, implies_true, upn, reduceIte, Nat.reduceEqDiff, ne_eq, not_false_eq_true, upc]) <;> (omega)) (by (try simp only [f51_0, f51_1, f31_0, f31_1, f31_2, f31_3, em27, and_true, true_and, or_true, true_or, implies_true, upn, reduceIte, Nat.reduceEqDiff, ne_eq, not_false_eq_true, upc]) <;> (omega)) (by (try simp only [f51_0, f51_1, f31_0, f31_1, f31_2, f31_3, em27, and_true, true_and, or_true, true_or, implies_true, upn, reduceIte, Nat.reduceEqDiff, ne_eq, not_false_eq_true, upc]) <;> (exact q2)) (by (try simp only [f51_0, f51_1, f31_0, f31_1, f31_2, f31_3, em27, and_true, true_and, or_true, true_or, implies_true, upn, reduceIte, Nat.reduceEqDiff, ne_eq, not_false_eq_true, upc]) <;> (exact q3)) (by (try simp only [f51_0, f51_1, f31_0, f31_1, f31_2, f31_3, em27, and_true, true_and, or_true, true_or, implies_true, upn, reduceIte, Nat.reduceEqDiff, ne_eq, not_false_eq_true, upc]) <;> (exact q4)) (by (try simp only [f51_0, f51_1, f31_0, f31_1, f31_2, f31_3, em27, and_true, true_and, or_true, true_or, implies_true, upn, reduceIte, Nat.reduceEqDiff, ne_eq, not_false_eq_true, upc]) <;> (exact q5)) (by (try simp only [f51_0, f51_1, f31_0, f31_1, f31_2, f31_3, em27, and_true, true_and, or_true, true_or, implies_true, upn, reduceIte, Nat.reduceEqDiff, ne_eq, not_false_eq_true, upc]) <;> (omega))) ov_X9_told ml_X9_582 dX9_claim_264 rfl ⟨by decide, by decide⟩ ob_48.1 (by decide) (by decide) rfl (Nat.le_of_ble_eq_true rfl) (fun r264 m264 p264 => ?_)
                              obtain ⟨p264, f264_0, f264_1⟩ := p264
                              try simp only [f264_0, f264_1, f51_0, f51_1, f31_0, f31_1, f31_2, f31_3, em27, e4, e17, e57, e70, and_true, true_and, or_true, true_or, implies_true, upn, reduceIte, Nat.reduceEqDiff, ne_eq, not_false_eq_true, upc] at p264
                              refine Z_i2l hk dX9_claim_267 (by omega) (by omega) ?_
                              refine Z_Vv hk (c_X9_piles κ.2.1 δ ad _ hA r264 (by (try simp only [f264_0, f264_1, f51_0, f51_1, f31_0, f31_1, f31_2, f31_3, em27, and_true, true_and, or_true, true_or, implies_true, upn, reduceIte, Nat.reduceEqDiff, ne_eq, not_false_eq_true, upc]) <;> (omega)) (by (try simp only [f264_0, f264_1, f51_0, f51_1, f31_0, f31_1, f31_2, f31_3, em27, and_true, true_and, or_true, true_or, implies_true, upn, reduceIte, Nat.reduceEqDiff, ne_eq, not_false_eq_true, upc]) <;> (omega))) ov_X9_piles ml_X9_624 dX9_claim_268 rfl ⟨by decide, by decide⟩ ob_48.1 (by decide) (by decide) rfl (Nat.le_of_ble_eq_true rfl) (fun m268 p268 => ?_)
                              obtain ⟨p268, f268_0, f268_1⟩ := p268
                              try simp only [f268_0, f268_1, f264_0, f264_1, f51_0, f51_1, f31_0, f31_1, f31_2, f31_3, em27, e4, e17, e57, e70, and_true, true_and, or_true, true_or, implies_true, upn, reduceIte, Nat.reduceEqDiff, ne_eq, not_false_eq_true, upc] at p268
                              refine Z_goto hk (tgt := 358) dX9_claim_271 (by decide) ?_
                              exact J358 _ (by exact ⟨(by (rw [ef_hi (by omega)]; (try simp only [f268_0, f268_1, f264_0, f264_1, f51_0, f51_1, f31_0, f31_1, f31_2, f31_3, em27, e4, e17, e57, e70, and_true, true_and, or_true, true_or, implies_true, upn, reduceIte, Nat.reduceEqDiff, ne_eq, not_false_eq_true, upc, upc]) <;> omega)), (by intro c k0 k1 k2 k3 k4; simp only [f268_0, f268_1, f264_0, f264_1, f51_0, f51_1, f31_0, f31_1, f31_2, f31_3, em27, upc, upn, k0, k1, k2, k3, k4, reduceIte, Nat.reduceEqDiff, ne_eq, not_false_eq_true]), (by intro i k0 k1 k2 k3 k4 k5; simp only [f268_0, f268_1, f264_0, f264_1, f51_0, f51_1, f31_0, f31_1, f31_2, f31_3, em27, upc, upn, k0, k1, k2, k3, k4, k5, reduceIte, Nat.reduceEqDiff, ne_eq, not_false_eq_true])⟩)
                          · refine Z_aload0 hk dX9_claim_232 ?_
                            refine Z_aload0 hk dX9_claim_233 ?_
                            refine Z_iload3 hk dX9_claim_234 ?_
                            refine Z_sipush hk dX9_claim_235 (by decide) ?_
                            refine Z_isub hk dX9_claim_238 ?_
                            refine Z_bipush hk dX9_claim_239 (by decide) ?_
                            refine Z_Vi hk (c_X9_told κ.2.1 δ ad _ hA (v70 - 130) 9 (by (try simp only [f51_0, f51_1, f31_0, f31_1, f31_2, f31_3, em27, and_true, true_and, or_true, true_or, implies_true, upn, reduceIte, Nat.reduceEqDiff, ne_eq, not_false_eq_true, upc]) <;> (omega)) (by (try simp only [f51_0, f51_1, f31_0, f31_1, f31_2, f31_3, em27, and_true, true_and, or_true, true_or, implies_true, upn, reduceIte, Nat.reduceEqDiff, ne_eq, not_false_eq_true, upc]) <;> (omega)) (by (try simp only [f51_0, f51_1, f31_0, f31_1, f31_2, f31_3, em27, and_true, true_and, or_true, true_or, implies_true, upn, reduceIte, Nat.reduceEqDiff, ne_eq, not_false_eq_true, upc]) <;> (exact q2)) (by (try simp only [f51_0, f51_1, f31_0, f31_1, f31_2, f31_3, em27, and_true, true_and, or_true, true_or, implies_true, upn, reduceIte, Nat.reduceEqDiff, ne_eq, not_false_eq_true, upc]) <;> (exact q3)) (by (try simp only [f51_0, f51_1, f31_0, f31_1, f31_2, f31_3, em27, and_true, true_and, or_true, true_or, implies_true, upn, reduceIte, Nat.reduceEqDiff, ne_eq, not_false_eq_true, upc]) <;> (exact q4)) (by (try simp only [f51_0, f51_1, f31_0, f31_1, f31_2, f31_3, em27, and_true, true_and, or_true, true_or, implies_true, upn, reduceIte, Nat.reduceEqDiff, ne_eq, not_false_eq_true, upc]) <;> (exact q5)) (by (try simp only [f51_0, f51_1, f31_0, f31_1, f31_2, f31_3, em27, and_true, true_and, or_true, true_or, implies_true, upn, reduceIte, Nat.reduceEqDiff, ne_eq, not_false_eq_true, upc]) <;> (omega))) ov_X9_told ml_X9_582 dX9_claim_241 rfl ⟨by decide, by decide⟩ ob_48.1 (by decide) (by decide) rfl (Nat.le_of_ble_eq_true rfl) (fun r241 m241 p241 => ?_)
                            obtain ⟨p241, f241_0, f241_1⟩ := p241
                            try simp only [f241_0, f241_1, f51_0, f51_1, f31_0, f31_1, f31_2, f31_3, em27, e4, e17, e57, e70, and_true, true_and, or_true, true_or, implies_true, upn, reduceIte, Nat.reduceEqDiff, ne_eq, not_false_eq_true, upc] at p241
                            refine Z_i2l hk dX9_claim_244 (by omega) (by omega) ?_
                            refine Z_Vv hk (c_X9_piles κ.2.1 δ ad _ hA r241 (by (try simp only [f241_0, f241_1, f51_0, f51_1, f31_0, f31_1, f31_2, f31_3, em27, and_true, true_and, or_true, true_or, implies_true, upn, reduceIte, Nat.reduceEqDiff, ne_eq, not_false_eq_true, upc]) <;> (omega)) (by (try simp only [f241_0, f241_1, f51_0, f51_1, f31_0, f31_1, f31_2, f31_3, em27, and_true, true_and, or_true, true_or, implies_true, upn, reduceIte, Nat.reduceEqDiff, ne_eq, not_false_eq_true, upc]) <;> (omega))) ov_X9_piles ml_X9_624 dX9_claim_245 rfl ⟨by decide, by decide⟩ ob_48.1 (by decide) (by decide) rfl (Nat.le_of_ble_eq_true rfl) (fun m245 p245 => ?_)
                            obtain ⟨p245, f245_0, f245_1⟩ := p245
                            try simp only [f245_0, f245_1, f241_0, f241_1, f51_0, f51_1, f31_0, f31_1, f31_2, f31_3, em27, e4, e17, e57, e70, and_true, true_and, or_true, true_or, implies_true, upn, reduceIte, Nat.reduceEqDiff, ne_eq, not_false_eq_true, upc] at p245
                            refine Z_goto hk (tgt := 358) dX9_claim_248 (by decide) ?_
                            exact J358 _ (by exact ⟨(by (rw [ef_hi (by omega)]; (try simp only [f245_0, f245_1, f241_0, f241_1, f51_0, f51_1, f31_0, f31_1, f31_2, f31_3, em27, e4, e17, e57, e70, and_true, true_and, or_true, true_or, implies_true, upn, reduceIte, Nat.reduceEqDiff, ne_eq, not_false_eq_true, upc, upc]) <;> omega)), (by intro c k0 k1 k2 k3 k4; simp only [f245_0, f245_1, f241_0, f241_1, f51_0, f51_1, f31_0, f31_1, f31_2, f31_3, em27, upc, upn, k0, k1, k2, k3, k4, reduceIte, Nat.reduceEqDiff, ne_eq, not_false_eq_true]), (by intro i k0 k1 k2 k3 k4 k5; simp only [f245_0, f245_1, f241_0, f241_1, f51_0, f51_1, f31_0, f31_1, f31_2, f31_3, em27, upc, upn, k0, k1, k2, k3, k4, k5, reduceIte, Nat.reduceEqDiff, ne_eq, not_false_eq_true])⟩)
                        · refine Z_aload0 hk dX9_claim_206 ?_
                          refine Z_aload0 hk dX9_claim_207 ?_
                          refine Z_iload3 hk dX9_claim_208 ?_
                          refine Z_sipush hk dX9_claim_209 (by decide) ?_
                          refine Z_isub hk dX9_claim_212 ?_
                          refine Z_bipush hk dX9_claim_213 (by decide) ?_
                          refine Z_Vi hk (c_X9_told κ.2.1 δ ad _ hA (v70 - 140) 7 (by (try simp only [f51_0, f51_1, f31_0, f31_1, f31_2, f31_3, em27, and_true, true_and, or_true, true_or, implies_true, upn, reduceIte, Nat.reduceEqDiff, ne_eq, not_false_eq_true, upc]) <;> (omega)) (by (try simp only [f51_0, f51_1, f31_0, f31_1, f31_2, f31_3, em27, and_true, true_and, or_true, true_or, implies_true, upn, reduceIte, Nat.reduceEqDiff, ne_eq, not_false_eq_true, upc]) <;> (omega)) (by (try simp only [f51_0, f51_1, f31_0, f31_1, f31_2, f31_3, em27, and_true, true_and, or_true, true_or, implies_true, upn, reduceIte, Nat.reduceEqDiff, ne_eq, not_false_eq_true, upc]) <;> (exact q2)) (by (try simp only [f51_0, f51_1, f31_0, f31_1, f31_2, f31_3, em27, and_true, true_and, or_true, true_or, implies_true, upn, reduceIte, Nat.reduceEqDiff, ne_eq, not_false_eq_true, upc]) <;> (exact q3)) (by (try simp only [f51_0, f51_1, f31_0, f31_1, f31_2, f31_3, em27, and_true, true_and, or_true, true_or, implies_true, upn, reduceIte, Nat.reduceEqDiff, ne_eq, not_false_eq_true, upc]) <;> (exact q4)) (by (try simp only [f51_0, f51_1, f31_0, f31_1, f31_2, f31_3, em27, and_true, true_and, or_true, true_or, implies_true, upn, reduceIte, Nat.reduceEqDiff, ne_eq, not_false_eq_true, upc]) <;> (exact q5)) (by (try simp only [f51_0, f51_1, f31_0, f31_1, f31_2, f31_3, em27, and_true, true_and, or_true, true_or, implies_true, upn, reduceIte, Nat.reduceEqDiff, ne_eq, not_false_eq_true, upc]) <;> (omega))) ov_X9_told ml_X9_582 dX9_claim_215 rfl ⟨by decide, by decide⟩ ob_48.1 (by decide) (by decide) rfl (Nat.le_of_ble_eq_true rfl) (fun r215 m215 p215 => ?_)
                          obtain ⟨p215, f215_0, f215_1⟩ := p215
                          try simp only [f215_0, f215_1, f51_0, f51_1, f31_0, f31_1, f31_2, f31_3, em27, e4, e17, e57, e70, and_true, true_and, or_true, true_or, implies_true, upn, reduceIte, Nat.reduceEqDiff, ne_eq, not_false_eq_true, upc] at p215
                          refine Z_i2l hk dX9_claim_218 (by omega) (by omega) ?_
                          refine Z_Vv hk (c_X9_piles κ.2.1 δ ad _ hA r215 (by (try simp only [f215_0, f215_1, f51_0, f51_1, f31_0, f31_1, f31_2, f31_3, em27, and_true, true_and, or_true, true_or, implies_true, upn, reduceIte, Nat.reduceEqDiff, ne_eq, not_false_eq_true, upc]) <;> (omega)) (by (try simp only [f215_0, f215_1, f51_0, f51_1, f31_0, f31_1, f31_2, f31_3, em27, and_true, true_and, or_true, true_or, implies_true, upn, reduceIte, Nat.reduceEqDiff, ne_eq, not_false_eq_true, upc]) <;> (omega))) ov_X9_piles ml_X9_624 dX9_claim_219 rfl ⟨by decide, by decide⟩ ob_48.1 (by decide) (by decide) rfl (Nat.le_of_ble_eq_true rfl) (fun m219 p219 => ?_)
                          obtain ⟨p219, f219_0, f219_1⟩ := p219
                          try simp only [f219_0, f219_1, f215_0, f215_1, f51_0, f51_1, f31_0, f31_1, f31_2, f31_3, em27, e4, e17, e57, e70, and_true, true_and, or_true, true_or, implies_true, upn, reduceIte, Nat.reduceEqDiff, ne_eq, not_false_eq_true, upc] at p219
                          refine Z_goto hk (tgt := 358) dX9_claim_222 (by decide) ?_
                          exact J358 _ (by exact ⟨(by (rw [ef_hi (by omega)]; (try simp only [f219_0, f219_1, f215_0, f215_1, f51_0, f51_1, f31_0, f31_1, f31_2, f31_3, em27, e4, e17, e57, e70, and_true, true_and, or_true, true_or, implies_true, upn, reduceIte, Nat.reduceEqDiff, ne_eq, not_false_eq_true, upc, upc]) <;> omega)), (by intro c k0 k1 k2 k3 k4; simp only [f219_0, f219_1, f215_0, f215_1, f51_0, f51_1, f31_0, f31_1, f31_2, f31_3, em27, upc, upn, k0, k1, k2, k3, k4, reduceIte, Nat.reduceEqDiff, ne_eq, not_false_eq_true]), (by intro i k0 k1 k2 k3 k4 k5; simp only [f219_0, f219_1, f215_0, f215_1, f51_0, f51_1, f31_0, f31_1, f31_2, f31_3, em27, upc, upn, k0, k1, k2, k3, k4, k5, reduceIte, Nat.reduceEqDiff, ne_eq, not_false_eq_true])⟩)
                      · refine Z_aload0 hk dX9_claim_180 ?_
                        refine Z_aload0 hk dX9_claim_181 ?_
                        refine Z_iload3 hk dX9_claim_182 ?_
                        refine Z_sipush hk dX9_claim_183 (by decide) ?_
                        refine Z_isub hk dX9_claim_186 ?_
                        refine Z_bipush hk dX9_claim_187 (by decide) ?_
                        refine Z_Vi hk (c_X9_told κ.2.1 δ ad _ hA (v70 - 150) 8 (by (try simp only [f51_0, f51_1, f31_0, f31_1, f31_2, f31_3, em27, and_true, true_and, or_true, true_or, implies_true, upn, reduceIte, Nat.reduceEqDiff, ne_eq, not_false_eq_true, upc]) <;> (omega)) (by (try simp only [f51_0, f51_1, f31_0, f31_1, f31_2, f31_3, em27, and_true, true_and, or_true, true_or, implies_true, upn, reduceIte, Nat.reduceEqDiff, ne_eq, not_false_eq_true, upc]) <;> (omega)) (by (try simp only [f51_0, f51_1, f31_0, f31_1, f31_2, f31_3, em27, and_true, true_and, or_true, true_or, implies_true, upn, reduceIte, Nat.reduceEqDiff, ne_eq, not_false_eq_true, upc]) <;> (exact q2)) (by (try simp only [f51_0, f51_1, f31_0, f31_1, f31_2, f31_3, em27, and_true, true_and, or_true, true_or, implies_true, upn, reduceIte, Nat.reduceEqDiff, ne_eq, not_false_eq_true, upc]) <;> (exact q3)) (by (try simp only [f51_0, f51_1, f31_0, f31_1, f31_2, f31_3, em27, and_true, true_and, or_true, true_or, implies_true, upn, reduceIte, Nat.reduceEqDiff, ne_eq, not_false_eq_true, upc]) <;> (exact q4)) (by (try simp only [f51_0, f51_1, f31_0, f31_1, f31_2, f31_3, em27, and_true, true_and, or_true, true_or, implies_true, upn, reduceIte, Nat.reduceEqDiff, ne_eq, not_false_eq_true, upc]) <;> (exact q5)) (by (try simp only [f51_0, f51_1, f31_0, f31_1, f31_2, f31_3, em27, and_true, true_and, or_true, true_or, implies_true, upn, reduceIte, Nat.reduceEqDiff, ne_eq, not_false_eq_true, upc]) <;> (omega))) ov_X9_told ml_X9_582 dX9_claim_189 rfl ⟨by decide, by decide⟩ ob_48.1 (by decide) (by decide) rfl (Nat.le_of_ble_eq_true rfl) (fun r189 m189 p189 => ?_)
                        obtain ⟨p189, f189_0, f189_1⟩ := p189
                        try simp only [f189_0, f189_1, f51_0, f51_1, f31_0, f31_1, f31_2, f31_3, em27, e4, e17, e57, e70, and_true, true_and, or_true, true_or, implies_true, upn, reduceIte, Nat.reduceEqDiff, ne_eq, not_false_eq_true, upc] at p189
                        refine Z_i2l hk dX9_claim_192 (by omega) (by omega) ?_
                        refine Z_Vv hk (c_X9_piles κ.2.1 δ ad _ hA r189 (by (try simp only [f189_0, f189_1, f51_0, f51_1, f31_0, f31_1, f31_2, f31_3, em27, and_true, true_and, or_true, true_or, implies_true, upn, reduceIte, Nat.reduceEqDiff, ne_eq, not_false_eq_true, upc]) <;> (omega)) (by (try simp only [f189_0, f189_1, f51_0, f51_1, f31_0, f31_1, f31_2, f31_3, em27, and_true, true_and, or_true, true_or, implies_true, upn, reduceIte, Nat.reduceEqDiff, ne_eq, not_false_eq_true, upc]) <;> (omega))) ov_X9_piles ml_X9_624 dX9_claim_193 rfl ⟨by decide, by decide⟩ ob_48.1 (by decide) (by decide) rfl (Nat.le_of_ble_eq_true rfl) (fun m193 p193 => ?_)
                        obtain ⟨p193, f193_0, f193_1⟩ := p193
                        try simp only [f193_0, f193_1, f189_0, f189_1, f51_0, f51_1, f31_0, f31_1, f31_2, f31_3, em27, e4, e17, e57, e70, and_true, true_and, or_true, true_or, implies_true, upn, reduceIte, Nat.reduceEqDiff, ne_eq, not_false_eq_true, upc] at p193
                        refine Z_goto hk (tgt := 358) dX9_claim_196 (by decide) ?_
                        exact J358 _ (by exact ⟨(by (rw [ef_hi (by omega)]; (try simp only [f193_0, f193_1, f189_0, f189_1, f51_0, f51_1, f31_0, f31_1, f31_2, f31_3, em27, e4, e17, e57, e70, and_true, true_and, or_true, true_or, implies_true, upn, reduceIte, Nat.reduceEqDiff, ne_eq, not_false_eq_true, upc, upc]) <;> omega)), (by intro c k0 k1 k2 k3 k4; simp only [f193_0, f193_1, f189_0, f189_1, f51_0, f51_1, f31_0, f31_1, f31_2, f31_3, em27, upc, upn, k0, k1, k2, k3, k4, reduceIte, Nat.reduceEqDiff, ne_eq, not_false_eq_true]), (by intro i k0 k1 k2 k3 k4 k5; simp only [f193_0, f193_1, f189_0, f189_1, f51_0, f51_1, f31_0, f31_1, f31_2, f31_3, em27, upc, upn, k0, k1, k2, k3, k4, k5, reduceIte, Nat.reduceEqDiff, ne_eq, not_false_eq_true])⟩)
                    · refine Z_aload0 hk dX9_claim_156 ?_
                      refine Z_aload0 hk dX9_claim_157 ?_
                      refine Z_iload3 hk dX9_claim_158 ?_
                      refine Z_sipush hk dX9_claim_159 (by decide) ?_
                      refine Z_isub hk dX9_claim_162 ?_
                      refine Z_Vi hk (c_X9_meanOf κ.2.1 δ ad _ hA (v70 - 160) (by (try simp only [f51_0, f51_1, f31_0, f31_1, f31_2, f31_3, em27, and_true, true_and, or_true, true_or, implies_true, upn, reduceIte, Nat.reduceEqDiff, ne_eq, not_false_eq_true, upc]) <;> (omega)) (by (try simp only [f51_0, f51_1, f31_0, f31_1, f31_2, f31_3, em27, and_true, true_and, or_true, true_or, implies_true, upn, reduceIte, Nat.reduceEqDiff, ne_eq, not_false_eq_true, upc]) <;> (omega)) (by (try simp only [f51_0, f51_1, f31_0, f31_1, f31_2, f31_3, em27, and_true, true_and, or_true, true_or, implies_true, upn, reduceIte, Nat.reduceEqDiff, ne_eq, not_false_eq_true, upc]) <;> (exact q2)) (by (try simp only [f51_0, f51_1, f31_0, f31_1, f31_2, f31_3, em27, and_true, true_and, or_true, true_or, implies_true, upn, reduceIte, Nat.reduceEqDiff, ne_eq, not_false_eq_true, upc]) <;> (exact sa34)) (by (try simp only [f51_0, f51_1, f31_0, f31_1, f31_2, f31_3, em27, and_true, true_and, or_true, true_or, implies_true, upn, reduceIte, Nat.reduceEqDiff, ne_eq, not_false_eq_true, upc]) <;> (exact f31_3))) ov_X9_meanOf ml_X9_609 dX9_claim_163 rfl ⟨by decide, by decide⟩ ob_48.1 (by decide) (by decide) rfl (Nat.le_of_ble_eq_true rfl) (fun r163 m163 p163 => ?_)
                      obtain ⟨rfl, p163⟩ := p163
                      try simp only [f51_0, f51_1, f31_0, f31_1, f31_2, f31_3, em27, e4, e17, e57, e70, and_true, true_and, or_true, true_or, implies_true, upn, reduceIte, Nat.reduceEqDiff, ne_eq, not_false_eq_true, upc] at p163
                      refine Z_i2l hk dX9_claim_166 (by omega) (by omega) ?_
                      refine Z_Vv hk (c_X9_piles κ.2.1 δ ad _ hA r163 (by (try simp only [f51_0, f51_1, f31_0, f31_1, f31_2, f31_3, em27, and_true, true_and, or_true, true_or, implies_true, upn, reduceIte, Nat.reduceEqDiff, ne_eq, not_false_eq_true, upc]) <;> (omega)) (by (try simp only [f51_0, f51_1, f31_0, f31_1, f31_2, f31_3, em27, and_true, true_and, or_true, true_or, implies_true, upn, reduceIte, Nat.reduceEqDiff, ne_eq, not_false_eq_true, upc]) <;> (omega))) ov_X9_piles ml_X9_624 dX9_claim_167 rfl ⟨by decide, by decide⟩ ob_48.1 (by decide) (by decide) rfl (Nat.le_of_ble_eq_true rfl) (fun m167 p167 => ?_)
                      obtain ⟨p167, f167_0, f167_1⟩ := p167
                      try simp only [f167_0, f167_1, f51_0, f51_1, f31_0, f31_1, f31_2, f31_3, em27, e4, e17, e57, e70, and_true, true_and, or_true, true_or, implies_true, upn, reduceIte, Nat.reduceEqDiff, ne_eq, not_false_eq_true, upc] at p167
                      refine Z_goto hk (tgt := 358) dX9_claim_170 (by decide) ?_
                      exact J358 _ (by exact ⟨(by (rw [ef_hi (by omega)]; (try simp only [f167_0, f167_1, f51_0, f51_1, f31_0, f31_1, f31_2, f31_3, em27, e4, e17, e57, e70, and_true, true_and, or_true, true_or, implies_true, upn, reduceIte, Nat.reduceEqDiff, ne_eq, not_false_eq_true, upc, upc]) <;> omega)), (by intro c k0 k1 k2 k3 k4; simp only [f167_0, f167_1, f51_0, f51_1, f31_0, f31_1, f31_2, f31_3, em27, upc, upn, k0, k1, k2, k3, k4, reduceIte, Nat.reduceEqDiff, ne_eq, not_false_eq_true]), (by intro i k0 k1 k2 k3 k4 k5; simp only [f167_0, f167_1, f51_0, f51_1, f31_0, f31_1, f31_2, f31_3, em27, upc, upn, k0, k1, k2, k3, k4, k5, reduceIte, Nat.reduceEqDiff, ne_eq, not_false_eq_true])⟩)
                  · refine Z_aload0 hk dX9_claim_131 ?_
                    refine Z_aload0 hk dX9_claim_132 ?_
                    refine Z_getR hk fl_9_227 dX9_claim_133 ob_48.1 ob_48.2.1 ob_48.2.2.1 ob_48.2.2.2 ft_9_105 rs_48_105 ?_
                    refine Z_iload3 hk dX9_claim_136 ?_
                    refine Z_sipush hk dX9_claim_137 (by decide) ?_
                    refine Z_isub hk dX9_claim_140 ?_
                    refine Z_iald hk dX9_claim_141 ar_116.1 ar_116.2.1 ar_116.2.2 (by omega) (by omega) (fun v141 e141 a141 b141 => ?_)
                    try simp only [f51_0, f51_1, f31_0, f31_1, f31_2, f31_3, em27, e4, e17, e57, e70, and_true, true_and, or_true, true_or, implies_true, upn, reduceIte, Nat.reduceEqDiff, ne_eq, not_false_eq_true, upc] at e141
                    refine Z_i2l hk dX9_claim_142 (by omega) (by omega) ?_
                    refine Z_Vv hk (c_X9_piles κ.2.1 δ ad _ hA v141 (by (try simp only [f51_0, f51_1, f31_0, f31_1, f31_2, f31_3, em27, and_true, true_and, or_true, true_or, implies_true, upn, reduceIte, Nat.reduceEqDiff, ne_eq, not_false_eq_true, upc]) <;> (omega)) (by (try simp only [f51_0, f51_1, f31_0, f31_1, f31_2, f31_3, em27, and_true, true_and, or_true, true_or, implies_true, upn, reduceIte, Nat.reduceEqDiff, ne_eq, not_false_eq_true, upc]) <;> (omega))) ov_X9_piles ml_X9_624 dX9_claim_143 rfl ⟨by decide, by decide⟩ ob_48.1 (by decide) (by decide) rfl (Nat.le_of_ble_eq_true rfl) (fun m143 p143 => ?_)
                    obtain ⟨p143, f143_0, f143_1⟩ := p143
                    try simp only [f143_0, f143_1, f51_0, f51_1, f31_0, f31_1, f31_2, f31_3, em27, e4, e17, e57, e70, e141, and_true, true_and, or_true, true_or, implies_true, upn, reduceIte, Nat.reduceEqDiff, ne_eq, not_false_eq_true, upc] at p143
                    refine Z_goto hk (tgt := 358) dX9_claim_146 (by decide) ?_
                    exact J358 _ (by exact ⟨(by (rw [ef_hi (by omega)]; (try simp only [f143_0, f143_1, f51_0, f51_1, f31_0, f31_1, f31_2, f31_3, em27, e4, e17, e57, e70, e141, and_true, true_and, or_true, true_or, implies_true, upn, reduceIte, Nat.reduceEqDiff, ne_eq, not_false_eq_true, upc, upc]) <;> omega)), (by intro c k0 k1 k2 k3 k4; simp only [f143_0, f143_1, f51_0, f51_1, f31_0, f31_1, f31_2, f31_3, em27, upc, upn, k0, k1, k2, k3, k4, reduceIte, Nat.reduceEqDiff, ne_eq, not_false_eq_true]), (by intro i k0 k1 k2 k3 k4 k5; simp only [f143_0, f143_1, f51_0, f51_1, f31_0, f31_1, f31_2, f31_3, em27, upc, upn, k0, k1, k2, k3, k4, k5, reduceIte, Nat.reduceEqDiff, ne_eq, not_false_eq_true])⟩)
                · refine Z_aload0 hk dX9_claim_99 ?_
                  refine Z_aload0 hk dX9_claim_100 ?_
                  refine Z_iload3 hk dX9_claim_101 ?_
                  refine Z_sipush hk dX9_claim_102 (by decide) ?_
                  refine Z_isub hk dX9_claim_105 ?_
                  refine Z_iconst hk dX9_claim_106 ?_
                  refine Z_Vi hk (c_X9_told κ.2.1 δ ad _ hA (v70 - 180) 5 (by (try simp only [f51_0, f51_1, f31_0, f31_1, f31_2, f31_3, em27, and_true, true_and, or_true, true_or, implies_true, upn, reduceIte, Nat.reduceEqDiff, ne_eq, not_false_eq_true, upc]) <;> (omega)) (by (try simp only [f51_0, f51_1, f31_0, f31_1, f31_2, f31_3, em27, and_true, true_and, or_true, true_or, implies_true, upn, reduceIte, Nat.reduceEqDiff, ne_eq, not_false_eq_true, upc]) <;> (omega)) (by (try simp only [f51_0, f51_1, f31_0, f31_1, f31_2, f31_3, em27, and_true, true_and, or_true, true_or, implies_true, upn, reduceIte, Nat.reduceEqDiff, ne_eq, not_false_eq_true, upc]) <;> (exact q2)) (by (try simp only [f51_0, f51_1, f31_0, f31_1, f31_2, f31_3, em27, and_true, true_and, or_true, true_or, implies_true, upn, reduceIte, Nat.reduceEqDiff, ne_eq, not_false_eq_true, upc]) <;> (exact q3)) (by (try simp only [f51_0, f51_1, f31_0, f31_1, f31_2, f31_3, em27, and_true, true_and, or_true, true_or, implies_true, upn, reduceIte, Nat.reduceEqDiff, ne_eq, not_false_eq_true, upc]) <;> (exact q4)) (by (try simp only [f51_0, f51_1, f31_0, f31_1, f31_2, f31_3, em27, and_true, true_and, or_true, true_or, implies_true, upn, reduceIte, Nat.reduceEqDiff, ne_eq, not_false_eq_true, upc]) <;> (exact q5)) (by (try simp only [f51_0, f51_1, f31_0, f31_1, f31_2, f31_3, em27, and_true, true_and, or_true, true_or, implies_true, upn, reduceIte, Nat.reduceEqDiff, ne_eq, not_false_eq_true, upc]) <;> (omega))) ov_X9_told ml_X9_582 dX9_claim_107 rfl ⟨by decide, by decide⟩ ob_48.1 (by decide) (by decide) rfl (Nat.le_of_ble_eq_true rfl) (fun r107 m107 p107 => ?_)
                  obtain ⟨p107, f107_0, f107_1⟩ := p107
                  try simp only [f107_0, f107_1, f51_0, f51_1, f31_0, f31_1, f31_2, f31_3, em27, e4, e17, e57, e70, and_true, true_and, or_true, true_or, implies_true, upn, reduceIte, Nat.reduceEqDiff, ne_eq, not_false_eq_true, upc] at p107
                  have J118 : ∀ (y1_118 : Int), (-9223372036854775808 ≤ y1_118 ∧ y1_118 ≤ 9223372036854775807) → Zj κ δ ad rs Q 4 (121, 0, 0) 118 [some (.ref (ad 48)), some (iv k), some (iv x2_51), some (iv v70)] [jv y1_118, .ref (ad 48)] m107 := by
                    intro y1_118 h118
                    try simp only [f107_0, f107_1, f51_0, f51_1, f31_0, f31_1, f31_2, f31_3, em27, and_true, true_and, or_true, true_or, implies_true, upn, reduceIte, Nat.reduceEqDiff, ne_eq, not_false_eq_true, upc] at h118
                    refine Z_Vv hk (c_X9_piles κ.2.1 δ ad _ hA y1_118 (by (try simp only [f107_0, f107_1, f51_0, f51_1, f31_0, f31_1, f31_2, f31_3, em27, and_true, true_and, or_true, true_or, implies_true, upn, reduceIte, Nat.reduceEqDiff, ne_eq, not_false_eq_true, upc]) <;> (omega)) (by (try simp only [f107_0, f107_1, f51_0, f51_1, f31_0, f31_1, f31_2, f31_3, em27, and_true, true_and, or_true, true_or, implies_true, upn, reduceIte, Nat.reduceEqDiff, ne_eq, not_false_eq_true, upc]) <;> (omega))) ov_X9_piles ml_X9_624 dX9_claim_118 rfl ⟨by decide, by decide⟩ ob_48.1 (by decide) (by decide) rfl (Nat.le_of_ble_eq_true rfl) (fun m118 p118 => ?_)
                    obtain ⟨p118, f118_0, f118_1⟩ := p118
                    try simp only [f118_0, f118_1, f107_0, f107_1, f51_0, f51_1, f31_0, f31_1, f31_2, f31_3, em27, e4, e17, e57, e70, and_true, true_and, or_true, true_or, implies_true, upn, reduceIte, Nat.reduceEqDiff, ne_eq, not_false_eq_true, upc] at p118
                    refine Z_goto hk (tgt := 358) dX9_claim_121 (by decide) ?_
                    exact J358 _ (by exact ⟨(by (rw [ef_hi (by omega)]; (try simp only [f118_0, f118_1, f107_0, f107_1, f51_0, f51_1, f31_0, f31_1, f31_2, f31_3, em27, e4, e17, e57, e70, and_true, true_and, or_true, true_or, implies_true, upn, reduceIte, Nat.reduceEqDiff, ne_eq, not_false_eq_true, upc, upc]) <;> omega)), (by intro c k0 k1 k2 k3 k4; simp only [f118_0, f118_1, f107_0, f107_1, f51_0, f51_1, f31_0, f31_1, f31_2, f31_3, em27, upc, upn, k0, k1, k2, k3, k4, reduceIte, Nat.reduceEqDiff, ne_eq, not_false_eq_true]), (by intro i k0 k1 k2 k3 k4 k5; simp only [f118_0, f118_1, f107_0, f107_1, f51_0, f51_1, f31_0, f31_1, f31_2, f31_3, em27, upc, upn, k0, k1, k2, k3, k4, k5, reduceIte, Nat.reduceEqDiff, ne_eq, not_false_eq_true])⟩)
                  refine Z_if_le hk (tgt := 117) dX9_claim_110 (by decide) (by omega) (by omega) (fun h110 => ?_) (fun h110 => ?_)
                  · refine Z_lconst0 hk dX9_claim_117 ?_
                    exact J118 _ (by (try simp only [f107_0, f107_1, f51_0, f51_1, f31_0, f31_1, f31_2, f31_3, em27, and_true, true_and, or_true, true_or, implies_true, upn, reduceIte, Nat.reduceEqDiff, ne_eq, not_false_eq_true, upc]) <;> (omega))
                  · refine Z_lconst1 hk dX9_claim_113 ?_
                    refine Z_goto hk (tgt := 118) dX9_claim_114 (by decide) ?_
                    exact J118 _ (by (try simp only [f107_0, f107_1, f51_0, f51_1, f31_0, f31_1, f31_2, f31_3, em27, and_true, true_and, or_true, true_or, implies_true, upn, reduceIte, Nat.reduceEqDiff, ne_eq, not_false_eq_true, upc]) <;> (omega))
              · refine Z_aload0 hk dX9_claim_79 ?_
                refine Z_iload3 hk dX9_claim_80 ?_
                refine Z_sipush hk dX9_claim_81 (by decide) ?_
                refine Z_isub hk dX9_claim_84 ?_
                refine Z_i2l hk dX9_claim_85 (by omega) (by omega) ?_
                refine Z_Vv hk (c_X9_piles κ.2.1 δ ad _ hA (v70 - 1000) (by (try simp only [f51_0, f51_1, f31_0, f31_1, f31_2, f31_3, em27, and_true, true_and, or_true, true_or, implies_true, upn, reduceIte, Nat.reduceEqDiff, ne_eq, not_false_eq_true, upc]) <;> (omega)) (by (try simp only [f51_0, f51_1, f31_0, f31_1, f31_2, f31_3, em27, and_true, true_and, or_true, true_or, implies_true, upn, reduceIte, Nat.reduceEqDiff, ne_eq, not_false_eq_true, upc]) <;> (omega))) ov_X9_piles ml_X9_624 dX9_claim_86 rfl ⟨by decide, by decide⟩ ob_48.1 (by decide) (by decide) rfl (Nat.le_of_ble_eq_true rfl) (fun m86 p86 => ?_)
                obtain ⟨p86, f86_0, f86_1⟩ := p86
                try simp only [f86_0, f86_1, f51_0, f51_1, f31_0, f31_1, f31_2, f31_3, em27, e4, e17, e57, e70, and_true, true_and, or_true, true_or, implies_true, upn, reduceIte, Nat.reduceEqDiff, ne_eq, not_false_eq_true, upc] at p86
                refine Z_goto hk (tgt := 358) dX9_claim_89 (by decide) ?_
                exact J358 _ (by exact ⟨(by (rw [ef_hi (by omega)]; (try simp only [f86_0, f86_1, f51_0, f51_1, f31_0, f31_1, f31_2, f31_3, em27, e4, e17, e57, e70, and_true, true_and, or_true, true_or, implies_true, upn, reduceIte, Nat.reduceEqDiff, ne_eq, not_false_eq_true, upc, upc]) <;> omega)), (by intro c k0 k1 k2 k3 k4; simp only [f86_0, f86_1, f51_0, f51_1, f31_0, f31_1, f31_2, f31_3, em27, upc, upn, k0, k1, k2, k3, k4, reduceIte, Nat.reduceEqDiff, ne_eq, not_false_eq_true]), (by intro i k0 k1 k2 k3 k4 k5; simp only [f86_0, f86_1, f51_0, f51_1, f31_0, f31_1, f31_2, f31_3, em27, upc, upn, k0, k1, k2, k3, k4, k5, reduceIte, Nat.reduceEqDiff, ne_eq, not_false_eq_true])⟩)
        refine Z_istore2 hk rfl (by decide) dX9_claim_50 ?_
        exact J51 (((M 101 k.toNat - y0_50) : Int).toNat + 1) _ _ (by exact ⟨(by (exact ⟨(by (try simp only [f31_0, f31_1, f31_2, f31_3, em27, e4, e17, and_true, true_and, or_true, true_or, implies_true, upn, reduceIte, Nat.reduceEqDiff, ne_eq, not_false_eq_true, upc, upc]) <;> omega), (by (try simp only [f31_0, f31_1, f31_2, f31_3, em27, e4, e17, and_true, true_and, or_true, true_or, implies_true, upn, reduceIte, Nat.reduceEqDiff, ne_eq, not_false_eq_true, upc, upc]); rw [h50, show (cq (M 101) k.toNat - cq (M 101) k.toNat).toNat = 0 from by omega]; rfl)⟩)), (by intro c k0 k1 k2 k3 k4; simp only [f31_0, f31_1, f31_2, f31_3, em27, upc, upn, k0, k1, k2, k3, k4, reduceIte, Nat.reduceEqDiff, ne_eq, not_false_eq_true]), (by intro i k0 k1 k2 k3 k4 k5; simp only [f31_0, f31_1, f31_2, f31_3, em27, upc, upn, k0, k1, k2, k3, k4, k5, reduceIte, Nat.reduceEqDiff, ne_eq, not_false_eq_true])⟩) (by omega)
      refine Z_if_ne hk (tgt := 42) dX9_claim_35 (by decide) (by omega) (by omega) (fun h35 => ?_) (fun h35 => ?_)
      · refine Z_aload0 hk dX9_claim_42 ?_
        refine Z_getR hk fl_9_179 dX9_claim_43 ob_48.1 ob_48.2.1 ob_48.2.2.1 ob_48.2.2.2 ft_9_78 rs_48_78 ?_
        refine Z_iload1 hk dX9_claim_46 ?_
        refine Z_iconst hk dX9_claim_47 ?_
        refine Z_isub hk dX9_claim_48 ?_
        refine Z_iald hk dX9_claim_49 ar_101.1 ar_101.2.1 ar_101.2.2 (by omega) (by omega) (fun v49 e49 a49 b49 => ?_)
        try simp only [f31_0, f31_1, f31_2, f31_3, em27, e4, e17, and_true, true_and, or_true, true_or, implies_true, upn, reduceIte, Nat.reduceEqDiff, ne_eq, not_false_eq_true, upc] at e49
        exact J50 _ (by unfold cq; rw [if_neg (by omega)]; simp only [f31_0, f31_1, f31_2, f31_3, em27, e4, e17, e49, and_true, true_and, or_true, true_or, implies_true, upn, reduceIte, Nat.reduceEqDiff, ne_eq, not_false_eq_true, upc, upc]; congr 1; omega)
      · refine Z_iconst hk dX9_claim_38 ?_
        refine Z_goto hk (tgt := 50) dX9_claim_39 (by decide) ?_
        exact J50 _ (by unfold cq; rw [if_pos (by omega)])
    · refine Z_iconst hk dX9_claim_23 ?_
      exact Z_iret hk hA hQ dX9_claim_24 ⟨rfl, rfl, _, rfl, (by exact ⟨(by (omega)), (by intro c k0 k1 k2 k3 k4 k5 k6 k7 k8; rfl), (by intro i k0 k1 k2 k3 k4 k5 k6; rfl)⟩)⟩
