set_option maxRecDepth 10000 in
theorem c_X4_readClaim (l : Launch) (δ : Dp) (ad : Nat → Nat) (M : Mem) (hA : okA δ ad) (hz : NS δ) (q0 : 0 ≤ (M 20 6) ∧ (M 20 6) ≤ (M 20 7) ∧ (M 20 7) ≤ (M 20 2) ∧ (M 20 2) ≤ 700) (qw : -1 ≤ (M 20 8) ∧ (M 20 8) ≤ 1000) (q1 : 0 ≤ M 21 0 ∧ M 21 0 ≤ 6 ∧ 0 ≤ M 21 1 ∧ M 21 1 ≤ 4 ∧ 0 ≤ M 21 2 ∧ M 21 2 ≤ 8 ∧ -1 ≤ M 21 5 ∧ M 21 5 ≤ 5 ∧ 0 ≤ M 21 6 ∧ M 21 6 ≤ 700) (q2 : SS (M 29)) (q4 : SE (M 30)) (q3 : (M 20 9) = 0) : Mv l δ yX4_readClaim cX4_readClaim 3 none 39 878 ad rs [.ref (ad 20)] M (fun M' => (0 ≤ (M' 20 6) ∧ (M' 20 6) ≤ (M' 20 7) ∧ (M' 20 7) ≤ (M' 20 2) ∧ (M' 20 2) ≤ 700 ∧ -1 ≤ (M' 20 8) ∧ (M' 20 8) ≤ 1000 ∧ 0 ≤ M' 21 0 ∧ M' 21 0 ≤ 6 ∧ 0 ≤ M' 21 1 ∧ M' 21 1 ≤ 4 ∧ 0 ≤ M' 21 2 ∧ M' 21 2 ≤ 8 ∧ -1 ≤ M' 21 5 ∧ M' 21 5 ≤ 5 ∧ 0 ≤ M' 21 6 ∧ M' 21 6 ≤ 700 ∧ (M' 20 9) = 0) ∧ (∀ c : Nat, c ≠ 20 → c ≠ 21 → c ≠ 22 → c ≠ 29 → c ≠ 30 → M' c = M c) ∧ (∀ i : Nat, i ≠ 3 → i ≠ 4 → i ≠ 5 → i ≠ 6 → i ≠ 7 → i ≠ 8 → i ≠ 9 → M' 20 i = M 20 i) ∧ (∀ i : Nat, i ≠ 2 → i ≠ 6 → M' 21 i = M 21 i) ∧ (SS (M' 29)) ∧ (SE (M' 30))) := by
  refine Mg.of (rm := rmN 39 878) (by decide) (Nat.le_of_ble_eq_true rfl) fun κ _ hk _ => ?_
  generalize hQ : Qg κ δ 121 (rmN 39 878).cells (rmN 39 878).slots _ = Q
  show Zj κ δ ad rs Q 3 (121, 0, 0) 0 [some (.ref (ad 20)), none, none] [] M
  refine Z_aload0 hk dX4_readClaim_0 ?_
  refine Z_aload0 hk dX4_readClaim_1 ?_
  refine Z_getR hk fl_4_15 dX4_readClaim_2 ob_20.1 ob_20.2.1 ob_20.2.2.1 ob_20.2.2.2 ft_4_1 rs_20_1 ?_
  refine Z_getI hk fl_4_135 dX4_readClaim_5 ob_21.1 ob_21.2.1 ob_21.2.2.1 ob_21.2.2.2 ft_3_2 (fun v5 e5 a5 b5 => ?_)
  refine Z_bipush hk dX4_readClaim_8 (by decide) ?_
  refine Z_Vv hk (c_X4_refuseMore κ.2.1 δ ad _ hA v5 8 (by (first | omega | assumption)) (by (first | omega | assumption))) ov_X4_refuseMore ml_X4_85 dX4_readClaim_10 rfl ⟨by decide, by decide⟩ ob_20.1 (by decide) (by decide) rfl (Nat.le_of_ble_eq_true rfl) (fun m10 p10 => ?_)
  obtain ⟨p10, f10_0, f10_1⟩ := p10
  try simp only [f10_0, f10_1, e5, and_true, true_and, or_true, true_or, implies_true, upn, reduceIte, Nat.reduceEqDiff, ne_eq, not_false_eq_true, upc] at p10
  refine Z_aload0 hk dX4_readClaim_13 ?_
  refine Z_Vv hk (c_X4_readToken κ.2.1 δ ad _ hA  hz (by (try simp only [f10_0, f10_1, and_true, true_and, or_true, true_or, implies_true, upn, reduceIte, Nat.reduceEqDiff, ne_eq, not_false_eq_true, upc]) <;> (first | omega | assumption))) ov_X4_readToken ml_X4_40 dX4_readClaim_14 rfl ⟨by decide, by decide⟩ ob_20.1 (by decide) (by decide) rfl (Nat.le_of_ble_eq_true rfl) (fun m14 p14 => ?_)
  obtain ⟨p14, f14_0, f14_1⟩ := p14
  try simp only [f14_0, f14_1, f10_0, f10_1, e5, and_true, true_and, or_true, true_or, implies_true, upn, reduceIte, Nat.reduceEqDiff, ne_eq, not_false_eq_true, upc] at p14
  refine Z_aload0 hk dX4_readClaim_17 ?_
  refine Z_Vj hk (c_X4_takeNewName κ.2.1 δ ad _ hA  hz (by (try simp only [f14_0, f14_1, f10_0, f10_1, and_true, true_and, or_true, true_or, implies_true, upn, reduceIte, Nat.reduceEqDiff, ne_eq, not_false_eq_true, upc]) <;> (first | omega | assumption)) (by (try simp only [f14_0, f14_1, f10_0, f10_1, and_true, true_and, or_true, true_or, implies_true, upn, reduceIte, Nat.reduceEqDiff, ne_eq, not_false_eq_true, upc]) <;> (first | omega | assumption)) (by (try simp only [f14_0, f14_1, f10_0, f10_1, and_true, true_and, or_true, true_or, implies_true, upn, reduceIte, Nat.reduceEqDiff, ne_eq, not_false_eq_true, upc]) <;> (first | omega | assumption))) ov_X4_takeNewName ml_X4_88 dX4_readClaim_18 rfl ⟨by decide, by decide⟩ ob_20.1 (by decide) (by decide) rfl (Nat.le_of_ble_eq_true rfl) (fun r18 m18 p18 => ?_)
  obtain ⟨p18, f18_0, f18_1⟩ := p18
  try simp only [f18_0, f18_1, f14_0, f14_1, f10_0, f10_1, e5, and_true, true_and, or_true, true_or, implies_true, upn, reduceIte, Nat.reduceEqDiff, ne_eq, not_false_eq_true, upc] at p18
  refine Z_lstore1 hk rfl (by decide) dX4_readClaim_21 ?_
  refine Z_aload0 hk dX4_readClaim_22 ?_
  refine Z_bipush hk dX4_readClaim_23 (by decide) ?_
  refine Z_Vv hk (c_X4_expectWord κ.2.1 δ ad _ hA 16 hz (by (try simp only [f18_0, f18_1, f14_0, f14_1, f10_0, f10_1, and_true, true_and, or_true, true_or, implies_true, upn, reduceIte, Nat.reduceEqDiff, ne_eq, not_false_eq_true, upc]) <;> (first | omega | assumption)) (by (try simp only [f18_0, f18_1, f14_0, f14_1, f10_0, f10_1, and_true, true_and, or_true, true_or, implies_true, upn, reduceIte, Nat.reduceEqDiff, ne_eq, not_false_eq_true, upc]) <;> (first | omega | assumption)) (by (try simp only [f18_0, f18_1, f14_0, f14_1, f10_0, f10_1, and_true, true_and, or_true, true_or, implies_true, upn, reduceIte, Nat.reduceEqDiff, ne_eq, not_false_eq_true, upc]) <;> (first | omega | assumption))) ov_X4_expectWord ml_X4_103 dX4_readClaim_25 rfl ⟨by decide, by decide⟩ ob_20.1 (by decide) (by decide) rfl (Nat.le_of_ble_eq_true rfl) (fun m25 p25 => ?_)
  obtain ⟨p25, f25_0, f25_1⟩ := p25
  try simp only [f25_0, f25_1, f18_0, f18_1, f14_0, f14_1, f10_0, f10_1, e5, and_true, true_and, or_true, true_or, implies_true, upn, reduceIte, Nat.reduceEqDiff, ne_eq, not_false_eq_true, upc] at p25
  refine Z_aload0 hk dX4_readClaim_28 ?_
  refine Z_Vv hk (c_X4_readTest_d0 κ.2.1 δ ad _ hA  hz (by (try simp only [f25_0, f25_1, f18_0, f18_1, f14_0, f14_1, f10_0, f10_1, and_true, true_and, or_true, true_or, implies_true, upn, reduceIte, Nat.reduceEqDiff, ne_eq, not_false_eq_true, upc]) <;> (first | omega | assumption)) (by (try simp only [f25_0, f25_1, f18_0, f18_1, f14_0, f14_1, f10_0, f10_1, and_true, true_and, or_true, true_or, implies_true, upn, reduceIte, Nat.reduceEqDiff, ne_eq, not_false_eq_true, upc]) <;> (first | omega | assumption)) (by (try simp only [f25_0, f25_1, f18_0, f18_1, f14_0, f14_1, f10_0, f10_1, and_true, true_and, or_true, true_or, implies_true, upn, reduceIte, Nat.reduceEqDiff, ne_eq, not_false_eq_true, upc]) <;> (first | omega | assumption)) (by (try simp only [f25_0, f25_1, f18_0, f18_1, f14_0, f14_1, f10_0, f10_1, and_true, true_and, or_true, true_or, implies_true, upn, reduceIte, Nat.reduceEqDiff, ne_eq, not_false_eq_true, upc]) <;> (first | omega | assumption)) (by (try simp only [f25_0, f25_1, f18_0, f18_1, f14_0, f14_1, f10_0, f10_1, and_true, true_and, or_true, true_or, implies_true, upn, reduceIte, Nat.reduceEqDiff, ne_eq, not_false_eq_true, upc]) <;> (first | omega | assumption))) ov_X4_readTest ml_X4_138 dX4_readClaim_29 rfl ⟨by decide, by decide⟩ ob_20.1 (by decide) (by decide) rfl (Nat.le_of_ble_eq_true rfl) (fun m29 p29 => ?_)
  obtain ⟨p29, f29_0, f29_1, f29_2, f29_3⟩ := p29
  try simp only [f29_0, f29_1, f29_2, f29_3, f25_0, f25_1, f18_0, f18_1, f14_0, f14_1, f10_0, f10_1, e5, and_true, true_and, or_true, true_or, implies_true, upn, reduceIte, Nat.reduceEqDiff, ne_eq, not_false_eq_true, upc] at p29
  refine Z_aload0 hk dX4_readClaim_32 ?_
  refine Z_getI hk fl_4_23 dX4_readClaim_33 ob_20.1 ob_20.2.1 ob_20.2.2.1 ob_20.2.2.2 ft_4_3 (fun v33 e33 a33 b33 => ?_)
  try simp only [f29_0, f29_1, f29_2, f29_3, f25_0, f25_1, f18_0, f18_1, f14_0, f14_1, f10_0, f10_1, e5, and_true, true_and, or_true, true_or, implies_true, upn, reduceIte, Nat.reduceEqDiff, ne_eq, not_false_eq_true, upc] at e33
  refine Z_if_ne hk (tgt := 47) dX4_readClaim_36 (by decide) (by omega) (by omega) (fun h36 => ?_) (fun h36 => ?_)
  · exact Z_vret hk hA hQ dX4_readClaim_47 ⟨rfl, rfl, rfl, (by exact ⟨(by (try simp only [f29_0, f29_1, f29_2, f29_3, f25_0, f25_1, f18_0, f18_1, f14_0, f14_1, f10_0, f10_1, and_true, true_and, or_true, true_or, implies_true, upn, reduceIte, Nat.reduceEqDiff, ne_eq, not_false_eq_true, upc]) <;> (omega)), (by intro c k0 k1 k2 k3 k4; simp only [f29_0, f29_1, f29_2, f29_3, f25_0, f25_1, f18_0, f18_1, f14_0, f14_1, f10_0, f10_1, upc, upn, k0, k1, k2, k3, k4, reduceIte, Nat.reduceEqDiff, ne_eq, not_false_eq_true]), (by intro i k0 k1 k2 k3 k4 k5 k6; simp only [f29_0, f29_1, f29_2, f29_3, f25_0, f25_1, f18_0, f18_1, f14_0, f14_1, f10_0, f10_1, upc, upn, k0, k1, k2, k3, k4, k5, k6, reduceIte, Nat.reduceEqDiff, ne_eq, not_false_eq_true]), (by intro i k0 k1; simp only [f29_0, f29_1, f29_2, f29_3, f25_0, f25_1, f18_0, f18_1, f14_0, f14_1, f10_0, f10_1, upc, upn, k0, k1, reduceIte, Nat.reduceEqDiff, ne_eq, not_false_eq_true]), (by (try simp only [f29_0, f29_1, f29_2, f29_3, f25_0, f25_1, f18_0, f18_1, f14_0, f14_1, f10_0, f10_1, e5, e33, and_true, true_and, or_true, true_or, implies_true, upn, reduceIte, Nat.reduceEqDiff, ne_eq, not_false_eq_true, upc, upc]) <;> assumption), (by (try simp only [f29_0, f29_1, f29_2, f29_3, f25_0, f25_1, f18_0, f18_1, f14_0, f14_1, f10_0, f10_1, e5, e33, and_true, true_and, or_true, true_or, implies_true, upn, reduceIte, Nat.reduceEqDiff, ne_eq, not_false_eq_true, upc, upc]) <;> assumption)⟩)⟩
  · refine Z_aload0 hk dX4_readClaim_39 ?_
    refine Z_getR hk fl_4_15 dX4_readClaim_40 ob_20.1 ob_20.2.1 ob_20.2.2.1 ob_20.2.2.2 ft_4_1 rs_20_1 ?_
    refine Z_lload1 hk dX4_readClaim_43 ?_
    refine Z_Vv hk (c_X3_addClaim_p21 κ.2.1 δ ad _ hA r18 (by (try simp only [f29_0, f29_1, f29_2, f29_3, f25_0, f25_1, f18_0, f18_1, f14_0, f14_1, f10_0, f10_1, and_true, true_and, or_true, true_or, implies_true, upn, reduceIte, Nat.reduceEqDiff, ne_eq, not_false_eq_true, upc]) <;> (first | omega | assumption)) (by (try simp only [f29_0, f29_1, f29_2, f29_3, f25_0, f25_1, f18_0, f18_1, f14_0, f14_1, f10_0, f10_1, and_true, true_and, or_true, true_or, implies_true, upn, reduceIte, Nat.reduceEqDiff, ne_eq, not_false_eq_true, upc]) <;> (first | omega | assumption)) (by (try simp only [f29_0, f29_1, f29_2, f29_3, f25_0, f25_1, f18_0, f18_1, f14_0, f14_1, f10_0, f10_1, and_true, true_and, or_true, true_or, implies_true, upn, reduceIte, Nat.reduceEqDiff, ne_eq, not_false_eq_true, upc]) <;> (first | omega | assumption))) ov_X3_addClaim ml_X4_141 dX4_readClaim_44 rfl ⟨by decide, by decide⟩ ob_21.1 (by decide) (by decide) rfl (Nat.le_of_ble_eq_true rfl) (fun m44 p44 => ?_)
    obtain ⟨p44, f44_0, f44_1, f44_2⟩ := p44
    try simp only [f44_0, f44_1, f44_2, f29_0, f29_1, f29_2, f29_3, f25_0, f25_1, f18_0, f18_1, f14_0, f14_1, f10_0, f10_1, e5, e33, and_true, true_and, or_true, true_or, implies_true, upn, reduceIte, Nat.reduceEqDiff, ne_eq, not_false_eq_true, upc] at p44
    exact Z_vret hk hA hQ dX4_readClaim_47 ⟨rfl, rfl, rfl, (by exact ⟨(by (try simp only [f44_0, f44_1, f44_2, f29_0, f29_1, f29_2, f29_3, f25_0, f25_1, f18_0, f18_1, f14_0, f14_1, f10_0, f10_1, and_true, true_and, or_true, true_or, implies_true, upn, reduceIte, Nat.reduceEqDiff, ne_eq, not_false_eq_true, upc]) <;> (omega)), (by intro c k0 k1 k2 k3 k4; simp only [f44_0, f44_1, f44_2, f29_0, f29_1, f29_2, f29_3, f25_0, f25_1, f18_0, f18_1, f14_0, f14_1, f10_0, f10_1, upc, upn, k0, k1, k2, k3, k4, reduceIte, Nat.reduceEqDiff, ne_eq, not_false_eq_true]), (by intro i k0 k1 k2 k3 k4 k5 k6; simp only [f44_0, f44_1, f44_2, f29_0, f29_1, f29_2, f29_3, f25_0, f25_1, f18_0, f18_1, f14_0, f14_1, f10_0, f10_1, upc, upn, k0, k1, k2, k3, k4, k5, k6, reduceIte, Nat.reduceEqDiff, ne_eq, not_false_eq_true]), (by intro i k0 k1; simp only [f44_0, f44_1, f44_2, f29_0, f29_1, f29_2, f29_3, f25_0, f25_1, f18_0, f18_1, f14_0, f14_1, f10_0, f10_1, upc, upn, k0, k1, reduceIte, Nat.reduceEqDiff, ne_eq, not_false_eq_true]), (by (try simp only [f44_0, f44_1, f44_2, f29_0, f29_1, f29_2, f29_3, f25_0, f25_1, f18_0, f18_1, f14_0, f14_1, f10_0, f10_1, e5, e33, and_true, true_and, or_true, true_or, implies_true, upn, reduceIte, Nat.reduceEqDiff, ne_eq, not_false_eq_true, upc, upc]) <;> assumption), (by (try simp only [f44_0, f44_1, f44_2, f29_0, f29_1, f29_2, f29_3, f25_0, f25_1, f18_0, f18_1, f14_0, f14_1, f10_0, f10_1, e5, e33, and_true, true_and, or_true, true_or, implies_true, upn, reduceIte, Nat.reduceEqDiff, ne_eq, not_false_eq_true, upc, upc]) <;> assumption)⟩)⟩
set_option maxHeartbeats 2000000 in
set_option maxRecDepth 10000 in
theorem c_X4_readPlan (l : Launch) (δ : Dp) (ad : Nat → Nat) (M : Mem) (hA : okA δ ad) (hz : NS δ) (q0 : 0 ≤ (M 20 2) ∧ (M 20 2) ≤ 700) (q1 : LK (M 24)) (q2 : SS (M 29)) (q4 : SE (M 30)) : Mi l δ yX4_readPlan cX4_readPlan 3 (some (.int)) 40 900 ad rs [.ref (ad 20)] M (fun r M' => ((M' 20 2) = 0 ∧ -1 ≤ r ∧ r ≤ 700 ∧ 0 ≤ M' 21 0 ∧ M' 21 0 ≤ 6 ∧ 0 ≤ M' 21 1 ∧ M' 21 1 ≤ 4 ∧ 0 ≤ M' 21 2 ∧ M' 21 2 ≤ 8 ∧ -1 ≤ M' 21 5 ∧ M' 21 5 ≤ 5 ∧ 0 ≤ M' 21 6 ∧ M' 21 6 ≤ 700) ∧ (∀ c : Nat, c ≠ 20 → c ≠ 21 → c ≠ 22 → c ≠ 23 → c ≠ 24 → c ≠ 25 → c ≠ 26 → c ≠ 27 → c ≠ 29 → c ≠ 30 → M' c = M c) ∧ (∀ i : Nat, i ≠ 2 → i ≠ 3 → i ≠ 4 → i ≠ 5 → i ≠ 6 → i ≠ 7 → i ≠ 8 → i ≠ 9 → M' 20 i = M 20 i) ∧ (∀ i : Nat, i ≠ 0 → i ≠ 1 → i ≠ 2 → i ≠ 3 → i ≠ 4 → i ≠ 5 → i ≠ 6 → M' 21 i = M 21 i) ∧ (LK (M' 24)) ∧ (SS (M' 29)) ∧ (SE (M' 30))) := by
  refine Mg.of (rm := rmN 40 900) (by decide) (Nat.le_of_ble_eq_true rfl) fun κ _ hk _ => ?_
  generalize hQ : Qg κ δ 121 (rmN 40 900).cells (rmN 40 900).slots _ = Q
  show Zj κ δ ad rs Q 3 (121, 0, 0) 0 [some (.ref (ad 20)), none, none] [] M
  refine Z_aload0 hk dX4_readPlan_0 ?_
  refine Z_getR hk fl_4_15 dX4_readPlan_1 ob_20.1 ob_20.2.1 ob_20.2.2.1 ob_20.2.2.2 ft_4_1 rs_20_1 ?_
  refine Z_Vv hk (c_X3_clear_p21 κ.2.1 δ ad _ hA  ) ov_X3_clear ml_X4_29 dX4_readPlan_4 rfl ⟨by decide, by decide⟩ ob_21.1 (by decide) (by decide) rfl (Nat.le_of_ble_eq_true rfl) (fun m4 p4 => ?_)
  obtain ⟨p4, f4_0, f4_1⟩ := p4
  try simp only [f4_0, f4_1, and_true, true_and, or_true, true_or, implies_true, upn, reduceIte, Nat.reduceEqDiff, ne_eq, not_false_eq_true, upc] at p4
  refine Z_aload0 hk dX4_readPlan_7 ?_
  refine Z_iconst hk dX4_readPlan_8 ?_
  refine Z_putI hk hA fl_4_23 dX4_readPlan_9 ob_20.1 ob_20.2.1 ob_20.2.2.1 ob_20.2.2.2 ft_4_3 (by decide) (by decide) ?_
  refine Z_nm (fun m9 em9 => ?_)
  refine Z_aload0 hk dX4_readPlan_12 ?_
  refine Z_iconst hk dX4_readPlan_13 ?_
  refine Z_putI hk hA fl_4_26 dX4_readPlan_14 ob_20.1 ob_20.2.1 ob_20.2.2.1 ob_20.2.2.2 ft_4_4 (by decide) (by decide) ?_
  refine Z_nm (fun m14 em14 => ?_)
  refine Z_aload0 hk dX4_readPlan_17 ?_
  refine Z_iconst hk dX4_readPlan_18 ?_
  refine Z_putI hk hA fl_4_34 dX4_readPlan_19 ob_20.1 ob_20.2.1 ob_20.2.2.1 ob_20.2.2.2 ft_4_9 (by decide) (by decide) ?_
  refine Z_nm (fun m19 em19 => ?_)
  refine Z_aload0 hk dX4_readPlan_22 ?_
  refine Z_iconst hk dX4_readPlan_23 ?_
  refine Z_putI hk hA fl_4_37 dX4_readPlan_24 ob_20.1 ob_20.2.1 ob_20.2.2.1 ob_20.2.2.2 ft_4_7 (by decide) (by decide) ?_
  refine Z_nm (fun m24 em24 => ?_)
  refine Z_iconst hk dX4_readPlan_27 ?_
  refine Z_istore1 hk rfl (by decide) dX4_readPlan_28 ?_
  refine Z_aload0 hk dX4_readPlan_29 ?_
  refine Z_Vv hk (c_X4_readToken κ.2.1 δ ad _ hA  hz (by (try simp only [em24, em19, em14, em9, f4_0, f4_1, and_true, true_and, or_true, true_or, implies_true, upn, reduceIte, Nat.reduceEqDiff, ne_eq, not_false_eq_true, upc]) <;> (first | omega | assumption))) ov_X4_readToken ml_X4_40 dX4_readPlan_30 rfl ⟨by decide, by decide⟩ ob_20.1 (by decide) (by decide) rfl (Nat.le_of_ble_eq_true rfl) (fun m30 p30 => ?_)
  obtain ⟨p30, f30_0, f30_1⟩ := p30
  try simp only [f30_0, f30_1, em24, em19, em14, em9, f4_0, f4_1, and_true, true_and, or_true, true_or, implies_true, upn, reduceIte, Nat.reduceEqDiff, ne_eq, not_false_eq_true, upc] at p30
  refine Z_iconst hk dX4_readPlan_33 ?_
  have J35 : ∀ (n : Nat) (x1_35 : Int) (x2_35 : Int) (m35 : Mem), (((0 ≤ x2_35 ∧ x2_35 ≤ 700 ∧ 0 ≤ x1_35 ∧ x1_35 ≤ x2_35 ∧ 0 ≤ (m35 20 6) ∧ (m35 20 6) ≤ (m35 20 7) ∧ (m35 20 7) ≤ (m35 20 2) ∧ (m35 20 2) ≤ 700 ∧ -1 ≤ (m35 20 8) ∧ (m35 20 8) ≤ 1000 ∧ 0 ≤ m35 21 0 ∧ m35 21 0 ≤ 6 ∧ 0 ≤ m35 21 1 ∧ m35 21 1 ≤ 4 ∧ 0 ≤ m35 21 2 ∧ m35 21 2 ≤ 8 ∧ -1 ≤ m35 21 5 ∧ m35 21 5 ≤ 5 ∧ 0 ≤ m35 21 6 ∧ m35 21 6 ≤ 700 ∧ (m35 20 9) = 0) ∧ LK (m35 24) ∧ SS (m35 29) ∧ SE (m35 30)) ∧ (∀ c : Nat, c ≠ 20 → c ≠ 21 → c ≠ 22 → c ≠ 23 → c ≠ 24 → c ≠ 25 → c ≠ 26 → c ≠ 27 → c ≠ 29 → c ≠ 30 → m35 c = m30 c) ∧ (∀ i : Nat, i ≠ 3 → i ≠ 4 → i ≠ 5 → i ≠ 6 → i ≠ 7 → i ≠ 8 → i ≠ 9 → m35 20 i = m30 20 i) ∧ (∀ i : Nat, i ≠ 0 → i ≠ 1 → i ≠ 2 → i ≠ 3 → i ≠ 4 → i ≠ 5 → i ≠ 6 → m35 21 i = m30 21 i)) → (700 - x2_35) < (n : Int) → Zj κ δ ad rs Q 3 (121, 0, 0) 35 [some (.ref (ad 20)), some (iv x1_35), some (iv x2_35)] [] m35 := by
    intro n
    induction n with
    | zero => intro x1_35 x2_35 m35 h35 hm35; exfalso; obtain ⟨h35, -⟩ := h35; obtain ⟨h35, -⟩ := h35; omega
    | succ n ih35 =>
      intro x1_35 x2_35 m35 h35 hm35
      obtain ⟨h35, f35_0, f35_1, f35_2⟩ := h35
      try simp only [f35_0, f35_1, f35_2, f30_0, f30_1, em24, em19, em14, em9, f4_0, f4_1, and_true, true_and, or_true, true_or, implies_true, upn, reduceIte, Nat.reduceEqDiff, ne_eq, not_false_eq_true, upc] at h35 hm35
      obtain ⟨h35, h35a, h35b, h35c⟩ := h35
      refine Z_iload2 hk dX4_readPlan_35 ?_
      refine Z_sipush hk dX4_readPlan_36 (by decide) ?_
      have J222 : ∀ (_ : Unit), (True) → Zj κ δ ad rs Q 3 (121, 0, 0) 222 [some (.ref (ad 20)), some (iv x1_35), some (iv x2_35)] [] m35 := by
        intro _ h222
        try simp only [f35_0, f35_1, f35_2, f30_0, f30_1, em24, em19, em14, em9, f4_0, f4_1, and_true, true_and, or_true, true_or, implies_true, upn, reduceIte, Nat.reduceEqDiff, ne_eq, not_false_eq_true, upc] at h222
        refine Z_aload0 hk dX4_readPlan_222 ?_
        refine Z_iconst hk dX4_readPlan_223 ?_
        refine Z_putI hk hA fl_4_19 dX4_readPlan_224 ob_20.1 ob_20.2.1 ob_20.2.2.1 ob_20.2.2.2 ft_4_2 (by decide) (by decide) ?_
        refine Z_nm (fun m224 em224 => ?_)
        refine Z_aload0 hk dX4_readPlan_227 ?_
        refine Z_getI hk fl_4_23 dX4_readPlan_228 ob_20.1 ob_20.2.1 ob_20.2.2.1 ob_20.2.2.2 ft_4_3 (fun v228 e228 a228 b228 => ?_)
        try simp only [em224, f35_0, f35_1, f35_2, f30_0, f30_1, em24, em19, em14, em9, f4_0, f4_1, and_true, true_and, or_true, true_or, implies_true, upn, reduceIte, Nat.reduceEqDiff, ne_eq, not_false_eq_true, upc] at e228
        refine Z_if_ne hk (tgt := 238) dX4_readPlan_231 (by decide) (by omega) (by omega) (fun h231 => ?_) (fun h231 => ?_)
        · refine Z_iconst hk dX4_readPlan_238 ?_
          exact Z_iret hk hA hQ dX4_readPlan_239 ⟨rfl, rfl, _, rfl, (by exact ⟨(by (try simp only [em224, f35_0, f35_1, f35_2, f30_0, f30_1, em24, em19, em14, em9, f4_0, f4_1, and_true, true_and, or_true, true_or, implies_true, upn, reduceIte, Nat.reduceEqDiff, ne_eq, not_false_eq_true, upc]) <;> (omega)), (by intro c k0 k1 k2 k3 k4 k5 k6 k7 k8 k9; simp only [em224, f35_0, f35_1, f35_2, f30_0, f30_1, em24, em19, em14, em9, f4_0, f4_1, upc, upn, k0, k1, k2, k3, k4, k5, k6, k7, k8, k9, reduceIte, Nat.reduceEqDiff, ne_eq, not_false_eq_true]), (by intro i k0 k1 k2 k3 k4 k5 k6 k7; simp only [em224, f35_0, f35_1, f35_2, f30_0, f30_1, em24, em19, em14, em9, f4_0, f4_1, upc, upn, k0, k1, k2, k3, k4, k5, k6, k7, reduceIte, Nat.reduceEqDiff, ne_eq, not_false_eq_true]), (by intro i k0 k1 k2 k3 k4 k5 k6; simp only [em224, f35_0, f35_1, f35_2, f30_0, f30_1, em24, em19, em14, em9, f4_0, f4_1, upc, upn, k0, k1, k2, k3, k4, k5, k6, reduceIte, Nat.reduceEqDiff, ne_eq, not_false_eq_true]), (by (try simp only [em224, f35_0, f35_1, f35_2, f30_0, f30_1, em24, em19, em14, em9, f4_0, f4_1, e228, and_true, true_and, or_true, true_or, implies_true, upn, reduceIte, Nat.reduceEqDiff, ne_eq, not_false_eq_true, upc, upc]) <;> assumption), (by (try simp only [em224, f35_0, f35_1, f35_2, f30_0, f30_1, em24, em19, em14, em9, f4_0, f4_1, e228, and_true, true_and, or_true, true_or, implies_true, upn, reduceIte, Nat.reduceEqDiff, ne_eq, not_false_eq_true, upc, upc]) <;> assumption), (by (try simp only [em224, f35_0, f35_1, f35_2, f30_0, f30_1, em24, em19, em14, em9, f4_0, f4_1, e228, and_true, true_and, or_true, true_or, implies_true, upn, reduceIte, Nat.reduceEqDiff, ne_eq, not_false_eq_true, upc, upc]) <;> assumption)⟩)⟩
        · refine Z_iload1 hk dX4_readPlan_234 ?_
          refine Z_goto hk (tgt := 239) dX4_readPlan_235 (by decide) ?_
          exact Z_iret hk hA hQ dX4_readPlan_239 ⟨rfl, rfl, _, rfl, (by exact ⟨(by (try simp only [em224, f35_0, f35_1, f35_2, f30_0, f30_1, em24, em19, em14, em9, f4_0, f4_1, and_true, true_and, or_true, true_or, implies_true, upn, reduceIte, Nat.reduceEqDiff, ne_eq, not_false_eq_true, upc]) <;> (omega)), (by intro c k0 k1 k2 k3 k4 k5 k6 k7 k8 k9; simp only [em224, f35_0, f35_1, f35_2, f30_0, f30_1, em24, em19, em14, em9, f4_0, f4_1, upc, upn, k0, k1, k2, k3, k4, k5, k6, k7, k8, k9, reduceIte, Nat.reduceEqDiff, ne_eq, not_false_eq_true]), (by intro i k0 k1 k2 k3 k4 k5 k6 k7; simp only [em224, f35_0, f35_1, f35_2, f30_0, f30_1, em24, em19, em14, em9, f4_0, f4_1, upc, upn, k0, k1, k2, k3, k4, k5, k6, k7, reduceIte, Nat.reduceEqDiff, ne_eq, not_false_eq_true]), (by intro i k0 k1 k2 k3 k4 k5 k6; simp only [em224, f35_0, f35_1, f35_2, f30_0, f30_1, em24, em19, em14, em9, f4_0, f4_1, upc, upn, k0, k1, k2, k3, k4, k5, k6, reduceIte, Nat.reduceEqDiff, ne_eq, not_false_eq_true]), (by (try simp only [em224, f35_0, f35_1, f35_2, f30_0, f30_1, em24, em19, em14, em9, f4_0, f4_1, e228, and_true, true_and, or_true, true_or, implies_true, upn, reduceIte, Nat.reduceEqDiff, ne_eq, not_false_eq_true, upc, upc]) <;> assumption), (by (try simp only [em224, f35_0, f35_1, f35_2, f30_0, f30_1, em24, em19, em14, em9, f4_0, f4_1, e228, and_true, true_and, or_true, true_or, implies_true, upn, reduceIte, Nat.reduceEqDiff, ne_eq, not_false_eq_true, upc, upc]) <;> assumption), (by (try simp only [em224, f35_0, f35_1, f35_2, f30_0, f30_1, em24, em19, em14, em9, f4_0, f4_1, e228, and_true, true_and, or_true, true_or, implies_true, upn, reduceIte, Nat.reduceEqDiff, ne_eq, not_false_eq_true, upc, upc]) <;> assumption)⟩)⟩
      refine Z_icmp_ge hk (tgt := 222) dX4_readPlan_39 (by decide) (by omega) (by omega) (by decide) (by decide) (fun h39 => ?_) (fun h39 => ?_)
      · exact J222 () (by trivial)
      · refine Z_aload0 hk dX4_readPlan_42 ?_
        refine Z_getI hk fl_4_23 dX4_readPlan_43 ob_20.1 ob_20.2.1 ob_20.2.2.1 ob_20.2.2.2 ft_4_3 (fun v43 e43 a43 b43 => ?_)
        try simp only [f35_0, f35_1, f35_2, f30_0, f30_1, em24, em19, em14, em9, f4_0, f4_1, and_true, true_and, or_true, true_or, implies_true, upn, reduceIte, Nat.reduceEqDiff, ne_eq, not_false_eq_true, upc] at e43
        refine Z_if_ne hk (tgt := 222) dX4_readPlan_46 (by decide) (by omega) (by omega) (fun h46 => ?_) (fun h46 => ?_)
        · exact J222 () (by trivial)
        · refine Z_aload0 hk dX4_readPlan_49 ?_
          refine Z_getI hk fl_4_43 dX4_readPlan_50 ob_20.1 ob_20.2.1 ob_20.2.2.1 ob_20.2.2.2 ft_4_5 (fun v50 e50 a50 b50 => ?_)
          try simp only [f35_0, f35_1, f35_2, f30_0, f30_1, em24, em19, em14, em9, f4_0, f4_1, e43, and_true, true_and, or_true, true_or, implies_true, upn, reduceIte, Nat.reduceEqDiff, ne_eq, not_false_eq_true, upc] at e50
          refine Z_sipush hk dX4_readPlan_53 (by decide) ?_
          refine Z_icmp_eq hk (tgt := 222) dX4_readPlan_56 (by decide) (by omega) (by omega) (by decide) (by decide) (fun h56 => ?_) (fun h56 => ?_)
          · exact J222 () (by trivial)
          · refine Z_aload0 hk dX4_readPlan_59 ?_
            refine Z_getI hk fl_4_46 dX4_readPlan_60 ob_20.1 ob_20.2.1 ob_20.2.2.1 ob_20.2.2.2 ft_4_8 (fun v60 e60 a60 b60 => ?_)
            try simp only [f35_0, f35_1, f35_2, f30_0, f30_1, em24, em19, em14, em9, f4_0, f4_1, e43, e50, and_true, true_and, or_true, true_or, implies_true, upn, reduceIte, Nat.reduceEqDiff, ne_eq, not_false_eq_true, upc] at e60
            have J207 : ∀ (m207 : Mem), (((0 ≤ (m207 20 6) ∧ (m207 20 6) ≤ (m207 20 7) ∧ (m207 20 7) ≤ (m207 20 2) ∧ (m207 20 2) ≤ 700 ∧ -1 ≤ (m207 20 8) ∧ (m207 20 8) ≤ 1000 ∧ 0 ≤ m207 21 0 ∧ m207 21 0 ≤ 6 ∧ 0 ≤ m207 21 1 ∧ m207 21 1 ≤ 4 ∧ 0 ≤ m207 21 2 ∧ m207 21 2 ≤ 8 ∧ -1 ≤ m207 21 5 ∧ m207 21 5 ≤ 5 ∧ 0 ≤ m207 21 6 ∧ m207 21 6 ≤ 700 ∧ (m207 20 9) = 0) ∧ LK (m207 24) ∧ SS (m207 29) ∧ SE (m207 30)) ∧ (∀ c : Nat, c ≠ 20 → c ≠ 21 → c ≠ 22 → c ≠ 23 → c ≠ 24 → c ≠ 25 → c ≠ 26 → c ≠ 27 → c ≠ 29 → c ≠ 30 → m207 c = m35 c) ∧ (∀ i : Nat, i ≠ 3 → i ≠ 4 → i ≠ 5 → i ≠ 6 → i ≠ 7 → i ≠ 8 → i ≠ 9 → m207 20 i = m35 20 i) ∧ (∀ i : Nat, i ≠ 0 → i ≠ 1 → i ≠ 2 → i ≠ 3 → i ≠ 4 → i ≠ 5 → i ≠ 6 → m207 21 i = m35 21 i)) → Zj κ δ ad rs Q 3 (121, 0, 0) 207 [some (.ref (ad 20)), some (iv x1_35), some (iv x2_35)] [] m207 := by
              intro m207 h207
              obtain ⟨h207, f207_0, f207_1, f207_2⟩ := h207
              try simp only [f207_0, f207_1, f207_2, f35_0, f35_1, f35_2, f30_0, f30_1, em24, em19, em14, em9, f4_0, f4_1, and_true, true_and, or_true, true_or, implies_true, upn, reduceIte, Nat.reduceEqDiff, ne_eq, not_false_eq_true, upc] at h207
              obtain ⟨h207, h207a, h207b, h207c⟩ := h207
              refine Z_aload0 hk dX4_readPlan_207 ?_
              refine Z_bipush hk dX4_readPlan_208 (by decide) ?_
              refine Z_Vv hk (c_X4_expectSign κ.2.1 δ ad _ hA 59 hz (by (try simp only [f207_0, f207_1, f207_2, f35_0, f35_1, f35_2, f30_0, f30_1, em24, em19, em14, em9, f4_0, f4_1, and_true, true_and, or_true, true_or, implies_true, upn, reduceIte, Nat.reduceEqDiff, ne_eq, not_false_eq_true, upc]) <;> (first | omega | assumption)) (by (try simp only [f207_0, f207_1, f207_2, f35_0, f35_1, f35_2, f30_0, f30_1, em24, em19, em14, em9, f4_0, f4_1, and_true, true_and, or_true, true_or, implies_true, upn, reduceIte, Nat.reduceEqDiff, ne_eq, not_false_eq_true, upc]) <;> (first | omega | assumption)) (by (try simp only [f207_0, f207_1, f207_2, f35_0, f35_1, f35_2, f30_0, f30_1, em24, em19, em14, em9, f4_0, f4_1, and_true, true_and, or_true, true_or, implies_true, upn, reduceIte, Nat.reduceEqDiff, ne_eq, not_false_eq_true, upc]) <;> (first | omega | assumption))) ov_X4_expectSign ml_X4_78 dX4_readPlan_210 rfl ⟨by decide, by decide⟩ ob_20.1 (by decide) (by decide) rfl (Nat.le_of_ble_eq_true rfl) (fun m210 p210 => ?_)
              obtain ⟨p210, f210_0, f210_1⟩ := p210
              try simp only [f210_0, f210_1, f207_0, f207_1, f207_2, f35_0, f35_1, f35_2, f30_0, f30_1, em24, em19, em14, em9, f4_0, f4_1, e43, e50, e60, and_true, true_and, or_true, true_or, implies_true, upn, reduceIte, Nat.reduceEqDiff, ne_eq, not_false_eq_true, upc] at p210
              refine Z_iinc1 hk rfl (by decide) dX4_readPlan_213 ?_
              refine Z_iinc2 hk rfl (by decide) dX4_readPlan_216 ?_
              refine Z_goto hk (tgt := 35) dX4_readPlan_219 (by decide) ?_
              exact ih35 _ _ _ (by exact ⟨(by (exact ⟨(by (try simp only [f210_0, f210_1, f207_0, f207_1, f207_2, f35_0, f35_1, f35_2, f30_0, f30_1, em24, em19, em14, em9, f4_0, f4_1, e43, e50, e60, and_true, true_and, or_true, true_or, implies_true, upn, reduceIte, Nat.reduceEqDiff, ne_eq, not_false_eq_true, upc, upc]) <;> omega), (by (try simp only [f210_0, f210_1, f207_0, f207_1, f207_2, f35_0, f35_1, f35_2, f30_0, f30_1, em24, em19, em14, em9, f4_0, f4_1, e43, e50, e60, and_true, true_and, or_true, true_or, implies_true, upn, reduceIte, Nat.reduceEqDiff, ne_eq, not_false_eq_true, upc, upc]) <;> assumption), (by (try simp only [f210_0, f210_1, f207_0, f207_1, f207_2, f35_0, f35_1, f35_2, f30_0, f30_1, em24, em19, em14, em9, f4_0, f4_1, e43, e50, e60, and_true, true_and, or_true, true_or, implies_true, upn, reduceIte, Nat.reduceEqDiff, ne_eq, not_false_eq_true, upc, upc]) <;> assumption), (by (try simp only [f210_0, f210_1, f207_0, f207_1, f207_2, f35_0, f35_1, f35_2, f30_0, f30_1, em24, em19, em14, em9, f4_0, f4_1, e43, e50, e60, and_true, true_and, or_true, true_or, implies_true, upn, reduceIte, Nat.reduceEqDiff, ne_eq, not_false_eq_true, upc, upc]) <;> assumption)⟩)), (by intro c k0 k1 k2 k3 k4 k5 k6 k7 k8 k9; simp only [f210_0, f210_1, f207_0, f207_1, f207_2, f35_0, f35_1, f35_2, f30_0, f30_1, em24, em19, em14, em9, f4_0, f4_1, upc, upn, k0, k1, k2, k3, k4, k5, k6, k7, k8, k9, reduceIte, Nat.reduceEqDiff, ne_eq, not_false_eq_true]), (by intro i k0 k1 k2 k3 k4 k5 k6; simp only [f210_0, f210_1, f207_0, f207_1, f207_2, f35_0, f35_1, f35_2, f30_0, f30_1, em24, em19, em14, em9, f4_0, f4_1, upc, upn, k0, k1, k2, k3, k4, k5, k6, reduceIte, Nat.reduceEqDiff, ne_eq, not_false_eq_true]), (by intro i k0 k1 k2 k3 k4 k5 k6; simp only [f210_0, f210_1, f207_0, f207_1, f207_2, f35_0, f35_1, f35_2, f30_0, f30_1, em24, em19, em14, em9, f4_0, f4_1, upc, upn, k0, k1, k2, k3, k4, k5, k6, reduceIte, Nat.reduceEqDiff, ne_eq, not_false_eq_true])⟩) (by (try simp only [f210_0, f210_1, f207_0, f207_1, f207_2, f35_0, f35_1, f35_2, f30_0, f30_1, em24, em19, em14, em9, f4_0, f4_1, and_true, true_and, or_true, true_or, implies_true, upn, reduceIte, Nat.reduceEqDiff, ne_eq, not_false_eq_true, upc]) <;> (omega))
            rcases (show (v60 < 0 ∨ 15 < v60) ∨ v60 = 0 ∨ v60 = 1 ∨ v60 = 2 ∨ v60 = 3 ∨ v60 = 4 ∨ v60 = 5 ∨ v60 = 6 ∨ v60 = 7 ∨ v60 = 8 ∨ v60 = 9 ∨ v60 = 10 ∨ v60 = 11 ∨ v60 = 12 ∨ v60 = 13 ∨ v60 = 14 ∨ v60 = 15 from by omega) with h63 | h63 | h63 | h63 | h63 | h63 | h63 | h63 | h63 | h63 | h63 | h63 | h63 | h63 | h63 | h63 | h63
            · refine Z_tableOut hk dX4_readPlan_63 (tgt := 198) (by decide) (by omega) (by omega) h63 ?_
              refine Z_aload0 hk dX4_readPlan_198 ?_
              refine Z_iconst hk dX4_readPlan_199 ?_
              refine Z_aload0 hk dX4_readPlan_200 ?_
              refine Z_getI hk fl_4_71 dX4_readPlan_201 ob_20.1 ob_20.2.1 ob_20.2.2.1 ob_20.2.2.2 ft_4_6 (fun v201 e201 a201 b201 => ?_)
              try simp only [f35_0, f35_1, f35_2, f30_0, f30_1, em24, em19, em14, em9, f4_0, f4_1, e43, e50, e60, and_true, true_and, or_true, true_or, implies_true, upn, reduceIte, Nat.reduceEqDiff, ne_eq, not_false_eq_true, upc] at e201
              refine Z_Vv hk (c_X4_fail κ.2.1 δ ad _ hA 1 v201 (by (try simp only [f35_0, f35_1, f35_2, f30_0, f30_1, em24, em19, em14, em9, f4_0, f4_1, and_true, true_and, or_true, true_or, implies_true, upn, reduceIte, Nat.reduceEqDiff, ne_eq, not_false_eq_true, upc]) <;> (first | omega | assumption)) (by (try simp only [f35_0, f35_1, f35_2, f30_0, f30_1, em24, em19, em14, em9, f4_0, f4_1, and_true, true_and, or_true, true_or, implies_true, upn, reduceIte, Nat.reduceEqDiff, ne_eq, not_false_eq_true, upc]) <;> (first | omega | assumption))) ov_X4_fail ml_X4_74 dX4_readPlan_204 rfl ⟨by decide, by decide⟩ ob_20.1 (by decide) (by decide) rfl (Nat.le_of_ble_eq_true rfl) (fun m204 p204 => ?_)
              obtain ⟨p204, f204_0, f204_1⟩ := p204
              try simp only [f204_0, f204_1, f35_0, f35_1, f35_2, f30_0, f30_1, em24, em19, em14, em9, f4_0, f4_1, e43, e50, e60, e201, and_true, true_and, or_true, true_or, implies_true, upn, reduceIte, Nat.reduceEqDiff, ne_eq, not_false_eq_true, upc] at p204
              exact J207 _ (by exact ⟨(by (exact ⟨(by (try simp only [f204_0, f204_1, f35_0, f35_1, f35_2, f30_0, f30_1, em24, em19, em14, em9, f4_0, f4_1, e43, e50, e60, e201, and_true, true_and, or_true, true_or, implies_true, upn, reduceIte, Nat.reduceEqDiff, ne_eq, not_false_eq_true, upc, upc]) <;> omega), (by (try simp only [f204_0, f204_1, f35_0, f35_1, f35_2, f30_0, f30_1, em24, em19, em14, em9, f4_0, f4_1, e43, e50, e60, e201, and_true, true_and, or_true, true_or, implies_true, upn, reduceIte, Nat.reduceEqDiff, ne_eq, not_false_eq_true, upc, upc]) <;> assumption), (by (try simp only [f204_0, f204_1, f35_0, f35_1, f35_2, f30_0, f30_1, em24, em19, em14, em9, f4_0, f4_1, e43, e50, e60, e201, and_true, true_and, or_true, true_or, implies_true, upn, reduceIte, Nat.reduceEqDiff, ne_eq, not_false_eq_true, upc, upc]) <;> assumption), (by (try simp only [f204_0, f204_1, f35_0, f35_1, f35_2, f30_0, f30_1, em24, em19, em14, em9, f4_0, f4_1, e43, e50, e60, e201, and_true, true_and, or_true, true_or, implies_true, upn, reduceIte, Nat.reduceEqDiff, ne_eq, not_false_eq_true, upc, upc]) <;> assumption)⟩)), (by intro c k0 k1 k2 k3 k4 k5 k6 k7 k8 k9; simp only [f204_0, f204_1, f35_0, f35_1, f35_2, f30_0, f30_1, em24, em19, em14, em9, f4_0, f4_1, upc, upn, k0, k1, k2, k3, k4, k5, k6, k7, k8, k9, reduceIte, Nat.reduceEqDiff, ne_eq, not_false_eq_true]), (by intro i k0 k1 k2 k3 k4 k5 k6; simp only [f204_0, f204_1, f35_0, f35_1, f35_2, f30_0, f30_1, em24, em19, em14, em9, f4_0, f4_1, upc, upn, k0, k1, k2, k3, k4, k5, k6, reduceIte, Nat.reduceEqDiff, ne_eq, not_false_eq_true]), (by intro i k0 k1 k2 k3 k4 k5 k6; simp only [f204_0, f204_1, f35_0, f35_1, f35_2, f30_0, f30_1, em24, em19, em14, em9, f4_0, f4_1, upc, upn, k0, k1, k2, k3, k4, k5, k6, reduceIte, Nat.reduceEqDiff, ne_eq, not_false_eq_true])⟩)
            · refine Z_tableIn hk dX4_readPlan_63 h63 (by decide) (by decide) (by decide) (by decide) (off := 77) rfl (tgt := 140) (by decide) ?_
              refine Z_aload0 hk dX4_readPlan_140 ?_
              refine Z_Vv hk (c_X4_readProduct κ.2.1 δ ad _ hA  hz (by (try simp only [f35_0, f35_1, f35_2, f30_0, f30_1, em24, em19, em14, em9, f4_0, f4_1, and_true, true_and, or_true, true_or, implies_true, upn, reduceIte, Nat.reduceEqDiff, ne_eq, not_false_eq_true, upc]) <;> (first | omega | assumption)) (by (try simp only [f35_0, f35_1, f35_2, f30_0, f30_1, em24, em19, em14, em9, f4_0, f4_1, and_true, true_and, or_true, true_or, implies_true, upn, reduceIte, Nat.reduceEqDiff, ne_eq, not_false_eq_true, upc]) <;> (first | omega | assumption)) (by (try simp only [f35_0, f35_1, f35_2, f30_0, f30_1, em24, em19, em14, em9, f4_0, f4_1, and_true, true_and, or_true, true_or, implies_true, upn, reduceIte, Nat.reduceEqDiff, ne_eq, not_false_eq_true, upc]) <;> (first | omega | assumption))) ov_X4_readProduct ml_X4_49 dX4_readPlan_141 rfl ⟨by decide, by decide⟩ ob_20.1 (by decide) (by decide) rfl (Nat.le_of_ble_eq_true rfl) (fun m141 p141 => ?_)
              obtain ⟨p141, f141_0, f141_1, f141_2⟩ := p141
              try simp only [f141_0, f141_1, f141_2, f35_0, f35_1, f35_2, f30_0, f30_1, em24, em19, em14, em9, f4_0, f4_1, e43, e50, e60, and_true, true_and, or_true, true_or, implies_true, upn, reduceIte, Nat.reduceEqDiff, ne_eq, not_false_eq_true, upc] at p141
              refine Z_goto hk (tgt := 207) dX4_readPlan_144 (by decide) ?_
              exact J207 _ (by exact ⟨(by (exact ⟨(by (try simp only [f141_0, f141_1, f141_2, f35_0, f35_1, f35_2, f30_0, f30_1, em24, em19, em14, em9, f4_0, f4_1, e43, e50, e60, and_true, true_and, or_true, true_or, implies_true, upn, reduceIte, Nat.reduceEqDiff, ne_eq, not_false_eq_true, upc, upc]) <;> omega), (by (try simp only [f141_0, f141_1, f141_2, f35_0, f35_1, f35_2, f30_0, f30_1, em24, em19, em14, em9, f4_0, f4_1, e43, e50, e60, and_true, true_and, or_true, true_or, implies_true, upn, reduceIte, Nat.reduceEqDiff, ne_eq, not_false_eq_true, upc, upc]) <;> assumption), (by (try simp only [f141_0, f141_1, f141_2, f35_0, f35_1, f35_2, f30_0, f30_1, em24, em19, em14, em9, f4_0, f4_1, e43, e50, e60, and_true, true_and, or_true, true_or, implies_true, upn, reduceIte, Nat.reduceEqDiff, ne_eq, not_false_eq_true, upc, upc]) <;> assumption), (by (try simp only [f141_0, f141_1, f141_2, f35_0, f35_1, f35_2, f30_0, f30_1, em24, em19, em14, em9, f4_0, f4_1, e43, e50, e60, and_true, true_and, or_true, true_or, implies_true, upn, reduceIte, Nat.reduceEqDiff, ne_eq, not_false_eq_true, upc, upc]) <;> assumption)⟩)), (by intro c k0 k1 k2 k3 k4 k5 k6 k7 k8 k9; simp only [f141_0, f141_1, f141_2, f35_0, f35_1, f35_2, f30_0, f30_1, em24, em19, em14, em9, f4_0, f4_1, upc, upn, k0, k1, k2, k3, k4, k5, k6, k7, k8, k9, reduceIte, Nat.reduceEqDiff, ne_eq, not_false_eq_true]), (by intro i k0 k1 k2 k3 k4 k5 k6; simp only [f141_0, f141_1, f141_2, f35_0, f35_1, f35_2, f30_0, f30_1, em24, em19, em14, em9, f4_0, f4_1, upc, upn, k0, k1, k2, k3, k4, k5, k6, reduceIte, Nat.reduceEqDiff, ne_eq, not_false_eq_true]), (by intro i k0 k1 k2 k3 k4 k5 k6; simp only [f141_0, f141_1, f141_2, f35_0, f35_1, f35_2, f30_0, f30_1, em24, em19, em14, em9, f4_0, f4_1, upc, upn, k0, k1, k2, k3, k4, k5, k6, reduceIte, Nat.reduceEqDiff, ne_eq, not_false_eq_true])⟩)
            · refine Z_tableIn hk dX4_readPlan_63 h63 (by decide) (by decide) (by decide) (by decide) (off := 84) rfl (tgt := 147) (by decide) ?_
              refine Z_aload0 hk dX4_readPlan_147 ?_
              refine Z_iconst hk dX4_readPlan_148 ?_
              refine Z_Vv hk (c_X4_readTrial κ.2.1 δ ad _ hA 1 hz (by (try simp only [f35_0, f35_1, f35_2, f30_0, f30_1, em24, em19, em14, em9, f4_0, f4_1, and_true, true_and, or_true, true_or, implies_true, upn, reduceIte, Nat.reduceEqDiff, ne_eq, not_false_eq_true, upc]) <;> (first | omega | assumption)) (by (try simp only [f35_0, f35_1, f35_2, f30_0, f30_1, em24, em19, em14, em9, f4_0, f4_1, and_true, true_and, or_true, true_or, implies_true, upn, reduceIte, Nat.reduceEqDiff, ne_eq, not_false_eq_true, upc]) <;> (first | omega | assumption)) (by (try simp only [f35_0, f35_1, f35_2, f30_0, f30_1, em24, em19, em14, em9, f4_0, f4_1, and_true, true_and, or_true, true_or, implies_true, upn, reduceIte, Nat.reduceEqDiff, ne_eq, not_false_eq_true, upc]) <;> (first | omega | assumption)) (by (try simp only [f35_0, f35_1, f35_2, f30_0, f30_1, em24, em19, em14, em9, f4_0, f4_1, and_true, true_and, or_true, true_or, implies_true, upn, reduceIte, Nat.reduceEqDiff, ne_eq, not_false_eq_true, upc]) <;> (first | omega | assumption)) (by (try simp only [f35_0, f35_1, f35_2, f30_0, f30_1, em24, em19, em14, em9, f4_0, f4_1, and_true, true_and, or_true, true_or, implies_true, upn, reduceIte, Nat.reduceEqDiff, ne_eq, not_false_eq_true, upc]) <;> (first | omega | assumption))) ov_X4_readTrial ml_X4_52 dX4_readPlan_149 rfl ⟨by decide, by decide⟩ ob_20.1 (by decide) (by decide) rfl (Nat.le_of_ble_eq_true rfl) (fun m149 p149 => ?_)
              obtain ⟨p149, f149_0, f149_1, f149_2, f149_3⟩ := p149
              try simp only [f149_0, f149_1, f149_2, f149_3, f35_0, f35_1, f35_2, f30_0, f30_1, em24, em19, em14, em9, f4_0, f4_1, e43, e50, e60, and_true, true_and, or_true, true_or, implies_true, upn, reduceIte, Nat.reduceEqDiff, ne_eq, not_false_eq_true, upc] at p149
              refine Z_goto hk (tgt := 207) dX4_readPlan_152 (by decide) ?_
              exact J207 _ (by exact ⟨(by (exact ⟨(by (try simp only [f149_0, f149_1, f149_2, f149_3, f35_0, f35_1, f35_2, f30_0, f30_1, em24, em19, em14, em9, f4_0, f4_1, e43, e50, e60, and_true, true_and, or_true, true_or, implies_true, upn, reduceIte, Nat.reduceEqDiff, ne_eq, not_false_eq_true, upc, upc]) <;> omega), (by (try simp only [f149_0, f149_1, f149_2, f149_3, f35_0, f35_1, f35_2, f30_0, f30_1, em24, em19, em14, em9, f4_0, f4_1, e43, e50, e60, and_true, true_and, or_true, true_or, implies_true, upn, reduceIte, Nat.reduceEqDiff, ne_eq, not_false_eq_true, upc, upc]) <;> assumption), (by (try simp only [f149_0, f149_1, f149_2, f149_3, f35_0, f35_1, f35_2, f30_0, f30_1, em24, em19, em14, em9, f4_0, f4_1, e43, e50, e60, and_true, true_and, or_true, true_or, implies_true, upn, reduceIte, Nat.reduceEqDiff, ne_eq, not_false_eq_true, upc, upc]) <;> assumption), (by (try simp only [f149_0, f149_1, f149_2, f149_3, f35_0, f35_1, f35_2, f30_0, f30_1, em24, em19, em14, em9, f4_0, f4_1, e43, e50, e60, and_true, true_and, or_true, true_or, implies_true, upn, reduceIte, Nat.reduceEqDiff, ne_eq, not_false_eq_true, upc, upc]) <;> assumption)⟩)), (by intro c k0 k1 k2 k3 k4 k5 k6 k7 k8 k9; simp only [f149_0, f149_1, f149_2, f149_3, f35_0, f35_1, f35_2, f30_0, f30_1, em24, em19, em14, em9, f4_0, f4_1, upc, upn, k0, k1, k2, k3, k4, k5, k6, k7, k8, k9, reduceIte, Nat.reduceEqDiff, ne_eq, not_false_eq_true]), (by intro i k0 k1 k2 k3 k4 k5 k6; simp only [f149_0, f149_1, f149_2, f149_3, f35_0, f35_1, f35_2, f30_0, f30_1, em24, em19, em14, em9, f4_0, f4_1, upc, upn, k0, k1, k2, k3, k4, k5, k6, reduceIte, Nat.reduceEqDiff, ne_eq, not_false_eq_true]), (by intro i k0 k1 k2 k3 k4 k5 k6; simp only [f149_0, f149_1, f149_2, f149_3, f35_0, f35_1, f35_2, f30_0, f30_1, em24, em19, em14, em9, f4_0, f4_1, upc, upn, k0, k1, k2, k3, k4, k5, k6, reduceIte, Nat.reduceEqDiff, ne_eq, not_false_eq_true])⟩)
            · refine Z_tableIn hk dX4_readPlan_63 h63 (by decide) (by decide) (by decide) (by decide) (off := 135) rfl (tgt := 198) (by decide) ?_
              refine Z_aload0 hk dX4_readPlan_198 ?_
              refine Z_iconst hk dX4_readPlan_199 ?_
              refine Z_aload0 hk dX4_readPlan_200 ?_
              refine Z_getI hk fl_4_71 dX4_readPlan_201 ob_20.1 ob_20.2.1 ob_20.2.2.1 ob_20.2.2.2 ft_4_6 (fun v201 e201 a201 b201 => ?_)
              try simp only [f35_0, f35_1, f35_2, f30_0, f30_1, em24, em19, em14, em9, f4_0, f4_1, e43, e50, e60, and_true, true_and, or_true, true_or, implies_true, upn, reduceIte, Nat.reduceEqDiff, ne_eq, not_false_eq_true, upc] at e201
              refine Z_Vv hk (c_X4_fail κ.2.1 δ ad _ hA 1 v201 (by (try simp only [f35_0, f35_1, f35_2, f30_0, f30_1, em24, em19, em14, em9, f4_0, f4_1, and_true, true_and, or_true, true_or, implies_true, upn, reduceIte, Nat.reduceEqDiff, ne_eq, not_false_eq_true, upc]) <;> (first | omega | assumption)) (by (try simp only [f35_0, f35_1, f35_2, f30_0, f30_1, em24, em19, em14, em9, f4_0, f4_1, and_true, true_and, or_true, true_or, implies_true, upn, reduceIte, Nat.reduceEqDiff, ne_eq, not_false_eq_true, upc]) <;> (first | omega | assumption))) ov_X4_fail ml_X4_74 dX4_readPlan_204 rfl ⟨by decide, by decide⟩ ob_20.1 (by decide) (by decide) rfl (Nat.le_of_ble_eq_true rfl) (fun m204 p204 => ?_)
              obtain ⟨p204, f204_0, f204_1⟩ := p204
              try simp only [f204_0, f204_1, f35_0, f35_1, f35_2, f30_0, f30_1, em24, em19, em14, em9, f4_0, f4_1, e43, e50, e60, e201, and_true, true_and, or_true, true_or, implies_true, upn, reduceIte, Nat.reduceEqDiff, ne_eq, not_false_eq_true, upc] at p204
              exact J207 _ (by exact ⟨(by (exact ⟨(by (try simp only [f204_0, f204_1, f35_0, f35_1, f35_2, f30_0, f30_1, em24, em19, em14, em9, f4_0, f4_1, e43, e50, e60, e201, and_true, true_and, or_true, true_or, implies_true, upn, reduceIte, Nat.reduceEqDiff, ne_eq, not_false_eq_true, upc, upc]) <;> omega), (by (try simp only [f204_0, f204_1, f35_0, f35_1, f35_2, f30_0, f30_1, em24, em19, em14, em9, f4_0, f4_1, e43, e50, e60, e201, and_true, true_and, or_true, true_or, implies_true, upn, reduceIte, Nat.reduceEqDiff, ne_eq, not_false_eq_true, upc, upc]) <;> assumption), (by (try simp only [f204_0, f204_1, f35_0, f35_1, f35_2, f30_0, f30_1, em24, em19, em14, em9, f4_0, f4_1, e43, e50, e60, e201, and_true, true_and, or_true, true_or, implies_true, upn, reduceIte, Nat.reduceEqDiff, ne_eq, not_false_eq_true, upc, upc]) <;> assumption), (by (try simp only [f204_0, f204_1, f35_0, f35_1, f35_2, f30_0, f30_1, em24, em19, em14, em9, f4_0, f4_1, e43, e50, e60, e201, and_true, true_and, or_true, true_or, implies_true, upn, reduceIte, Nat.reduceEqDiff, ne_eq, not_false_eq_true, upc, upc]) <;> assumption)⟩)), (by intro c k0 k1 k2 k3 k4 k5 k6 k7 k8 k9; simp only [f204_0, f204_1, f35_0, f35_1, f35_2, f30_0, f30_1, em24, em19, em14, em9, f4_0, f4_1, upc, upn, k0, k1, k2, k3, k4, k5, k6, k7, k8, k9, reduceIte, Nat.reduceEqDiff, ne_eq, not_false_eq_true]), (by intro i k0 k1 k2 k3 k4 k5 k6; simp only [f204_0, f204_1, f35_0, f35_1, f35_2, f30_0, f30_1, em24, em19, em14, em9, f4_0, f4_1, upc, upn, k0, k1, k2, k3, k4, k5, k6, reduceIte, Nat.reduceEqDiff, ne_eq, not_false_eq_true]), (by intro i k0 k1 k2 k3 k4 k5 k6; simp only [f204_0, f204_1, f35_0, f35_1, f35_2, f30_0, f30_1, em24, em19, em14, em9, f4_0, f4_1, upc, upn, k0, k1, k2, k3, k4, k5, k6, reduceIte, Nat.reduceEqDiff, ne_eq, not_false_eq_true])⟩)
            · refine Z_tableIn hk dX4_readPlan_63 h63 (by decide) (by decide) (by decide) (by decide) (off := 92) rfl (tgt := 155) (by decide) ?_
              refine Z_aload0 hk dX4_readPlan_155 ?_
              refine Z_iconst hk dX4_readPlan_156 ?_
              refine Z_Vv hk (c_X4_readTrial κ.2.1 δ ad _ hA 0 hz (by (try simp only [f35_0, f35_1, f35_2, f30_0, f30_1, em24, em19, em14, em9, f4_0, f4_1, and_true, true_and, or_true, true_or, implies_true, upn, reduceIte, Nat.reduceEqDiff, ne_eq, not_false_eq_true, upc]) <;> (first | omega | assumption)) (by (try simp only [f35_0, f35_1, f35_2, f30_0, f30_1, em24, em19, em14, em9, f4_0, f4_1, and_true, true_and, or_true, true_or, implies_true, upn, reduceIte, Nat.reduceEqDiff, ne_eq, not_false_eq_true, upc]) <;> (first | omega | assumption)) (by (try simp only [f35_0, f35_1, f35_2, f30_0, f30_1, em24, em19, em14, em9, f4_0, f4_1, and_true, true_and, or_true, true_or, implies_true, upn, reduceIte, Nat.reduceEqDiff, ne_eq, not_false_eq_true, upc]) <;> (first | omega | assumption)) (by (try simp only [f35_0, f35_1, f35_2, f30_0, f30_1, em24, em19, em14, em9, f4_0, f4_1, and_true, true_and, or_true, true_or, implies_true, upn, reduceIte, Nat.reduceEqDiff, ne_eq, not_false_eq_true, upc]) <;> (first | omega | assumption)) (by (try simp only [f35_0, f35_1, f35_2, f30_0, f30_1, em24, em19, em14, em9, f4_0, f4_1, and_true, true_and, or_true, true_or, implies_true, upn, reduceIte, Nat.reduceEqDiff, ne_eq, not_false_eq_true, upc]) <;> (first | omega | assumption))) ov_X4_readTrial ml_X4_52 dX4_readPlan_157 rfl ⟨by decide, by decide⟩ ob_20.1 (by decide) (by decide) rfl (Nat.le_of_ble_eq_true rfl) (fun m157 p157 => ?_)
              obtain ⟨p157, f157_0, f157_1, f157_2, f157_3⟩ := p157
              try simp only [f157_0, f157_1, f157_2, f157_3, f35_0, f35_1, f35_2, f30_0, f30_1, em24, em19, em14, em9, f4_0, f4_1, e43, e50, e60, and_true, true_and, or_true, true_or, implies_true, upn, reduceIte, Nat.reduceEqDiff, ne_eq, not_false_eq_true, upc] at p157
              refine Z_goto hk (tgt := 207) dX4_readPlan_160 (by decide) ?_
              exact J207 _ (by exact ⟨(by (exact ⟨(by (try simp only [f157_0, f157_1, f157_2, f157_3, f35_0, f35_1, f35_2, f30_0, f30_1, em24, em19, em14, em9, f4_0, f4_1, e43, e50, e60, and_true, true_and, or_true, true_or, implies_true, upn, reduceIte, Nat.reduceEqDiff, ne_eq, not_false_eq_true, upc, upc]) <;> omega), (by (try simp only [f157_0, f157_1, f157_2, f157_3, f35_0, f35_1, f35_2, f30_0, f30_1, em24, em19, em14, em9, f4_0, f4_1, e43, e50, e60, and_true, true_and, or_true, true_or, implies_true, upn, reduceIte, Nat.reduceEqDiff, ne_eq, not_false_eq_true, upc, upc]) <;> assumption), (by (try simp only [f157_0, f157_1, f157_2, f157_3, f35_0, f35_1, f35_2, f30_0, f30_1, em24, em19, em14, em9, f4_0, f4_1, e43, e50, e60, and_true, true_and, or_true, true_or, implies_true, upn, reduceIte, Nat.reduceEqDiff, ne_eq, not_false_eq_true, upc, upc]) <;> assumption), (by (try simp only [f157_0, f157_1, f157_2, f157_3, f35_0, f35_1, f35_2, f30_0, f30_1, em24, em19, em14, em9, f4_0, f4_1, e43, e50, e60, and_true, true_and, or_true, true_or, implies_true, upn, reduceIte, Nat.reduceEqDiff, ne_eq, not_false_eq_true, upc, upc]) <;> assumption)⟩)), (by intro c k0 k1 k2 k3 k4 k5 k6 k7 k8 k9; simp only [f157_0, f157_1, f157_2, f157_3, f35_0, f35_1, f35_2, f30_0, f30_1, em24, em19, em14, em9, f4_0, f4_1, upc, upn, k0, k1, k2, k3, k4, k5, k6, k7, k8, k9, reduceIte, Nat.reduceEqDiff, ne_eq, not_false_eq_true]), (by intro i k0 k1 k2 k3 k4 k5 k6; simp only [f157_0, f157_1, f157_2, f157_3, f35_0, f35_1, f35_2, f30_0, f30_1, em24, em19, em14, em9, f4_0, f4_1, upc, upn, k0, k1, k2, k3, k4, k5, k6, reduceIte, Nat.reduceEqDiff, ne_eq, not_false_eq_true]), (by intro i k0 k1 k2 k3 k4 k5 k6; simp only [f157_0, f157_1, f157_2, f157_3, f35_0, f35_1, f35_2, f30_0, f30_1, em24, em19, em14, em9, f4_0, f4_1, upc, upn, k0, k1, k2, k3, k4, k5, k6, reduceIte, Nat.reduceEqDiff, ne_eq, not_false_eq_true])⟩)
            · refine Z_tableIn hk dX4_readPlan_63 h63 (by decide) (by decide) (by decide) (by decide) (off := 100) rfl (tgt := 163) (by decide) ?_
              refine Z_aload0 hk dX4_readPlan_163 ?_
              refine Z_Vv hk (c_X4_readLook κ.2.1 δ ad _ hA  hz (by (try simp only [f35_0, f35_1, f35_2, f30_0, f30_1, em24, em19, em14, em9, f4_0, f4_1, and_true, true_and, or_true, true_or, implies_true, upn, reduceIte, Nat.reduceEqDiff, ne_eq, not_false_eq_true, upc]) <;> (first | omega | assumption)) (by (try simp only [f35_0, f35_1, f35_2, f30_0, f30_1, em24, em19, em14, em9, f4_0, f4_1, and_true, true_and, or_true, true_or, implies_true, upn, reduceIte, Nat.reduceEqDiff, ne_eq, not_false_eq_true, upc]) <;> (first | omega | assumption)) (by (try simp only [f35_0, f35_1, f35_2, f30_0, f30_1, em24, em19, em14, em9, f4_0, f4_1, and_true, true_and, or_true, true_or, implies_true, upn, reduceIte, Nat.reduceEqDiff, ne_eq, not_false_eq_true, upc]) <;> (first | omega | assumption)) (by (try simp only [f35_0, f35_1, f35_2, f30_0, f30_1, em24, em19, em14, em9, f4_0, f4_1, and_true, true_and, or_true, true_or, implies_true, upn, reduceIte, Nat.reduceEqDiff, ne_eq, not_false_eq_true, upc]) <;> (first | omega | assumption))) ov_X4_readLook ml_X4_56 dX4_readPlan_164 rfl ⟨by decide, by decide⟩ ob_20.1 (by decide) (by decide) rfl (Nat.le_of_ble_eq_true rfl) (fun m164 p164 => ?_)
              obtain ⟨p164, f164_0, f164_1, f164_2, f164_3⟩ := p164
              try simp only [f164_0, f164_1, f164_2, f164_3, f35_0, f35_1, f35_2, f30_0, f30_1, em24, em19, em14, em9, f4_0, f4_1, e43, e50, e60, and_true, true_and, or_true, true_or, implies_true, upn, reduceIte, Nat.reduceEqDiff, ne_eq, not_false_eq_true, upc] at p164
              refine Z_goto hk (tgt := 207) dX4_readPlan_167 (by decide) ?_
              exact J207 _ (by exact ⟨(by (exact ⟨(by (try simp only [f164_0, f164_1, f164_2, f164_3, f35_0, f35_1, f35_2, f30_0, f30_1, em24, em19, em14, em9, f4_0, f4_1, e43, e50, e60, and_true, true_and, or_true, true_or, implies_true, upn, reduceIte, Nat.reduceEqDiff, ne_eq, not_false_eq_true, upc, upc]) <;> omega), (by (try simp only [f164_0, f164_1, f164_2, f164_3, f35_0, f35_1, f35_2, f30_0, f30_1, em24, em19, em14, em9, f4_0, f4_1, e43, e50, e60, and_true, true_and, or_true, true_or, implies_true, upn, reduceIte, Nat.reduceEqDiff, ne_eq, not_false_eq_true, upc, upc]) <;> assumption), (by (try simp only [f164_0, f164_1, f164_2, f164_3, f35_0, f35_1, f35_2, f30_0, f30_1, em24, em19, em14, em9, f4_0, f4_1, e43, e50, e60, and_true, true_and, or_true, true_or, implies_true, upn, reduceIte, Nat.reduceEqDiff, ne_eq, not_false_eq_true, upc, upc]) <;> assumption), (by (try simp only [f164_0, f164_1, f164_2, f164_3, f35_0, f35_1, f35_2, f30_0, f30_1, em24, em19, em14, em9, f4_0, f4_1, e43, e50, e60, and_true, true_and, or_true, true_or, implies_true, upn, reduceIte, Nat.reduceEqDiff, ne_eq, not_false_eq_true, upc, upc]) <;> assumption)⟩)), (by intro c k0 k1 k2 k3 k4 k5 k6 k7 k8 k9; simp only [f164_0, f164_1, f164_2, f164_3, f35_0, f35_1, f35_2, f30_0, f30_1, em24, em19, em14, em9, f4_0, f4_1, upc, upn, k0, k1, k2, k3, k4, k5, k6, k7, k8, k9, reduceIte, Nat.reduceEqDiff, ne_eq, not_false_eq_true]), (by intro i k0 k1 k2 k3 k4 k5 k6; simp only [f164_0, f164_1, f164_2, f164_3, f35_0, f35_1, f35_2, f30_0, f30_1, em24, em19, em14, em9, f4_0, f4_1, upc, upn, k0, k1, k2, k3, k4, k5, k6, reduceIte, Nat.reduceEqDiff, ne_eq, not_false_eq_true]), (by intro i k0 k1 k2 k3 k4 k5 k6; simp only [f164_0, f164_1, f164_2, f164_3, f35_0, f35_1, f35_2, f30_0, f30_1, em24, em19, em14, em9, f4_0, f4_1, upc, upn, k0, k1, k2, k3, k4, k5, k6, reduceIte, Nat.reduceEqDiff, ne_eq, not_false_eq_true])⟩)
            · refine Z_tableIn hk dX4_readPlan_63 h63 (by decide) (by decide) (by decide) (by decide) (off := 135) rfl (tgt := 198) (by decide) ?_
              refine Z_aload0 hk dX4_readPlan_198 ?_
              refine Z_iconst hk dX4_readPlan_199 ?_
              refine Z_aload0 hk dX4_readPlan_200 ?_
              refine Z_getI hk fl_4_71 dX4_readPlan_201 ob_20.1 ob_20.2.1 ob_20.2.2.1 ob_20.2.2.2 ft_4_6 (fun v201 e201 a201 b201 => ?_)
              try simp only [f35_0, f35_1, f35_2, f30_0, f30_1, em24, em19, em14, em9, f4_0, f4_1, e43, e50, e60, and_true, true_and, or_true, true_or, implies_true, upn, reduceIte, Nat.reduceEqDiff, ne_eq, not_false_eq_true, upc] at e201
              refine Z_Vv hk (c_X4_fail κ.2.1 δ ad _ hA 1 v201 (by (try simp only [f35_0, f35_1, f35_2, f30_0, f30_1, em24, em19, em14, em9, f4_0, f4_1, and_true, true_and, or_true, true_or, implies_true, upn, reduceIte, Nat.reduceEqDiff, ne_eq, not_false_eq_true, upc]) <;> (first | omega | assumption)) (by (try simp only [f35_0, f35_1, f35_2, f30_0, f30_1, em24, em19, em14, em9, f4_0, f4_1, and_true, true_and, or_true, true_or, implies_true, upn, reduceIte, Nat.reduceEqDiff, ne_eq, not_false_eq_true, upc]) <;> (first | omega | assumption))) ov_X4_fail ml_X4_74 dX4_readPlan_204 rfl ⟨by decide, by decide⟩ ob_20.1 (by decide) (by decide) rfl (Nat.le_of_ble_eq_true rfl) (fun m204 p204 => ?_)
              obtain ⟨p204, f204_0, f204_1⟩ := p204
              try simp only [f204_0, f204_1, f35_0, f35_1, f35_2, f30_0, f30_1, em24, em19, em14, em9, f4_0, f4_1, e43, e50, e60, e201, and_true, true_and, or_true, true_or, implies_true, upn, reduceIte, Nat.reduceEqDiff, ne_eq, not_false_eq_true, upc] at p204
              exact J207 _ (by exact ⟨(by (exact ⟨(by (try simp only [f204_0, f204_1, f35_0, f35_1, f35_2, f30_0, f30_1, em24, em19, em14, em9, f4_0, f4_1, e43, e50, e60, e201, and_true, true_and, or_true, true_or, implies_true, upn, reduceIte, Nat.reduceEqDiff, ne_eq, not_false_eq_true, upc, upc]) <;> omega), (by (try simp only [f204_0, f204_1, f35_0, f35_1, f35_2, f30_0, f30_1, em24, em19, em14, em9, f4_0, f4_1, e43, e50, e60, e201, and_true, true_and, or_true, true_or, implies_true, upn, reduceIte, Nat.reduceEqDiff, ne_eq, not_false_eq_true, upc, upc]) <;> assumption), (by (try simp only [f204_0, f204_1, f35_0, f35_1, f35_2, f30_0, f30_1, em24, em19, em14, em9, f4_0, f4_1, e43, e50, e60, e201, and_true, true_and, or_true, true_or, implies_true, upn, reduceIte, Nat.reduceEqDiff, ne_eq, not_false_eq_true, upc, upc]) <;> assumption), (by (try simp only [f204_0, f204_1, f35_0, f35_1, f35_2, f30_0, f30_1, em24, em19, em14, em9, f4_0, f4_1, e43, e50, e60, e201, and_true, true_and, or_true, true_or, implies_true, upn, reduceIte, Nat.reduceEqDiff, ne_eq, not_false_eq_true, upc, upc]) <;> assumption)⟩)), (by intro c k0 k1 k2 k3 k4 k5 k6 k7 k8 k9; simp only [f204_0, f204_1, f35_0, f35_1, f35_2, f30_0, f30_1, em24, em19, em14, em9, f4_0, f4_1, upc, upn, k0, k1, k2, k3, k4, k5, k6, k7, k8, k9, reduceIte, Nat.reduceEqDiff, ne_eq, not_false_eq_true]), (by intro i k0 k1 k2 k3 k4 k5 k6; simp only [f204_0, f204_1, f35_0, f35_1, f35_2, f30_0, f30_1, em24, em19, em14, em9, f4_0, f4_1, upc, upn, k0, k1, k2, k3, k4, k5, k6, reduceIte, Nat.reduceEqDiff, ne_eq, not_false_eq_true]), (by intro i k0 k1 k2 k3 k4 k5 k6; simp only [f204_0, f204_1, f35_0, f35_1, f35_2, f30_0, f30_1, em24, em19, em14, em9, f4_0, f4_1, upc, upn, k0, k1, k2, k3, k4, k5, k6, reduceIte, Nat.reduceEqDiff, ne_eq, not_false_eq_true])⟩)
            · refine Z_tableIn hk dX4_readPlan_63 h63 (by decide) (by decide) (by decide) (by decide) (off := 135) rfl (tgt := 198) (by decide) ?_
              refine Z_aload0 hk dX4_readPlan_198 ?_
              refine Z_iconst hk dX4_readPlan_199 ?_
              refine Z_aload0 hk dX4_readPlan_200 ?_
              refine Z_getI hk fl_4_71 dX4_readPlan_201 ob_20.1 ob_20.2.1 ob_20.2.2.1 ob_20.2.2.2 ft_4_6 (fun v201 e201 a201 b201 => ?_)
              try simp only [f35_0, f35_1, f35_2, f30_0, f30_1, em24, em19, em14, em9, f4_0, f4_1, e43, e50, e60, and_true, true_and, or_true, true_or, implies_true, upn, reduceIte, Nat.reduceEqDiff, ne_eq, not_false_eq_true, upc] at e201
              refine Z_Vv hk (c_X4_fail κ.2.1 δ ad _ hA 1 v201 (by (try simp only [f35_0, f35_1, f35_2, f30_0, f30_1, em24, em19, em14, em9, f4_0, f4_1, and_true, true_and, or_true, true_or, implies_true, upn, reduceIte, Nat.reduceEqDiff, ne_eq, not_false_eq_true, upc]) <;> (first | omega | assumption)) (by (try simp only [f35_0, f35_1, f35_2, f30_0, f30_1, em24, em19, em14, em9, f4_0, f4_1, and_true, true_and, or_true, true_or, implies_true, upn, reduceIte, Nat.reduceEqDiff, ne_eq, not_false_eq_true, upc]) <;> (first | omega | assumption))) ov_X4_fail ml_X4_74 dX4_readPlan_204 rfl ⟨by decide, by decide⟩ ob_20.1 (by decide) (by decide) rfl (Nat.le_of_ble_eq_true rfl) (fun m204 p204 => ?_)
              obtain ⟨p204, f204_0, f204_1⟩ := p204
              try simp only [f204_0, f204_1, f35_0, f35_1, f35_2, f30_0, f30_1, em24, em19, em14, em9, f4_0, f4_1, e43, e50, e60, e201, and_true, true_and, or_true, true_or, implies_true, upn, reduceIte, Nat.reduceEqDiff, ne_eq, not_false_eq_true, upc] at p204
              exact J207 _ (by exact ⟨(by (exact ⟨(by (try simp only [f204_0, f204_1, f35_0, f35_1, f35_2, f30_0, f30_1, em24, em19, em14, em9, f4_0, f4_1, e43, e50, e60, e201, and_true, true_and, or_true, true_or, implies_true, upn, reduceIte, Nat.reduceEqDiff, ne_eq, not_false_eq_true, upc, upc]) <;> omega), (by (try simp only [f204_0, f204_1, f35_0, f35_1, f35_2, f30_0, f30_1, em24, em19, em14, em9, f4_0, f4_1, e43, e50, e60, e201, and_true, true_and, or_true, true_or, implies_true, upn, reduceIte, Nat.reduceEqDiff, ne_eq, not_false_eq_true, upc, upc]) <;> assumption), (by (try simp only [f204_0, f204_1, f35_0, f35_1, f35_2, f30_0, f30_1, em24, em19, em14, em9, f4_0, f4_1, e43, e50, e60, e201, and_true, true_and, or_true, true_or, implies_true, upn, reduceIte, Nat.reduceEqDiff, ne_eq, not_false_eq_true, upc, upc]) <;> assumption), (by (try simp only [f204_0, f204_1, f35_0, f35_1, f35_2, f30_0, f30_1, em24, em19, em14, em9, f4_0, f4_1, e43, e50, e60, e201, and_true, true_and, or_true, true_or, implies_true, upn, reduceIte, Nat.reduceEqDiff, ne_eq, not_false_eq_true, upc, upc]) <;> assumption)⟩)), (by intro c k0 k1 k2 k3 k4 k5 k6 k7 k8 k9; simp only [f204_0, f204_1, f35_0, f35_1, f35_2, f30_0, f30_1, em24, em19, em14, em9, f4_0, f4_1, upc, upn, k0, k1, k2, k3, k4, k5, k6, k7, k8, k9, reduceIte, Nat.reduceEqDiff, ne_eq, not_false_eq_true]), (by intro i k0 k1 k2 k3 k4 k5 k6; simp only [f204_0, f204_1, f35_0, f35_1, f35_2, f30_0, f30_1, em24, em19, em14, em9, f4_0, f4_1, upc, upn, k0, k1, k2, k3, k4, k5, k6, reduceIte, Nat.reduceEqDiff, ne_eq, not_false_eq_true]), (by intro i k0 k1 k2 k3 k4 k5 k6; simp only [f204_0, f204_1, f35_0, f35_1, f35_2, f30_0, f30_1, em24, em19, em14, em9, f4_0, f4_1, upc, upn, k0, k1, k2, k3, k4, k5, k6, reduceIte, Nat.reduceEqDiff, ne_eq, not_false_eq_true])⟩)
            · refine Z_tableIn hk dX4_readPlan_63 h63 (by decide) (by decide) (by decide) (by decide) (off := 107) rfl (tgt := 170) (by decide) ?_
              refine Z_aload0 hk dX4_readPlan_170 ?_
              refine Z_Vv hk (c_X4_readTies κ.2.1 δ ad _ hA  hz (by (try simp only [f35_0, f35_1, f35_2, f30_0, f30_1, em24, em19, em14, em9, f4_0, f4_1, and_true, true_and, or_true, true_or, implies_true, upn, reduceIte, Nat.reduceEqDiff, ne_eq, not_false_eq_true, upc]) <;> (first | omega | assumption)) (by (try simp only [f35_0, f35_1, f35_2, f30_0, f30_1, em24, em19, em14, em9, f4_0, f4_1, and_true, true_and, or_true, true_or, implies_true, upn, reduceIte, Nat.reduceEqDiff, ne_eq, not_false_eq_true, upc]) <;> (first | omega | assumption)) (by (try simp only [f35_0, f35_1, f35_2, f30_0, f30_1, em24, em19, em14, em9, f4_0, f4_1, and_true, true_and, or_true, true_or, implies_true, upn, reduceIte, Nat.reduceEqDiff, ne_eq, not_false_eq_true, upc]) <;> (first | omega | assumption))) ov_X4_readTies ml_X4_59 dX4_readPlan_171 rfl ⟨by decide, by decide⟩ ob_20.1 (by decide) (by decide) rfl (Nat.le_of_ble_eq_true rfl) (fun m171 p171 => ?_)
              obtain ⟨p171, f171_0, f171_1, f171_2⟩ := p171
              try simp only [f171_0, f171_1, f171_2, f35_0, f35_1, f35_2, f30_0, f30_1, em24, em19, em14, em9, f4_0, f4_1, e43, e50, e60, and_true, true_and, or_true, true_or, implies_true, upn, reduceIte, Nat.reduceEqDiff, ne_eq, not_false_eq_true, upc] at p171
              refine Z_goto hk (tgt := 207) dX4_readPlan_174 (by decide) ?_
              exact J207 _ (by exact ⟨(by (exact ⟨(by (try simp only [f171_0, f171_1, f171_2, f35_0, f35_1, f35_2, f30_0, f30_1, em24, em19, em14, em9, f4_0, f4_1, e43, e50, e60, and_true, true_and, or_true, true_or, implies_true, upn, reduceIte, Nat.reduceEqDiff, ne_eq, not_false_eq_true, upc, upc]) <;> omega), (by (try simp only [f171_0, f171_1, f171_2, f35_0, f35_1, f35_2, f30_0, f30_1, em24, em19, em14, em9, f4_0, f4_1, e43, e50, e60, and_true, true_and, or_true, true_or, implies_true, upn, reduceIte, Nat.reduceEqDiff, ne_eq, not_false_eq_true, upc, upc]) <;> assumption), (by (try simp only [f171_0, f171_1, f171_2, f35_0, f35_1, f35_2, f30_0, f30_1, em24, em19, em14, em9, f4_0, f4_1, e43, e50, e60, and_true, true_and, or_true, true_or, implies_true, upn, reduceIte, Nat.reduceEqDiff, ne_eq, not_false_eq_true, upc, upc]) <;> assumption), (by (try simp only [f171_0, f171_1, f171_2, f35_0, f35_1, f35_2, f30_0, f30_1, em24, em19, em14, em9, f4_0, f4_1, e43, e50, e60, and_true, true_and, or_true, true_or, implies_true, upn, reduceIte, Nat.reduceEqDiff, ne_eq, not_false_eq_true, upc, upc]) <;> assumption)⟩)), (by intro c k0 k1 k2 k3 k4 k5 k6 k7 k8 k9; simp only [f171_0, f171_1, f171_2, f35_0, f35_1, f35_2, f30_0, f30_1, em24, em19, em14, em9, f4_0, f4_1, upc, upn, k0, k1, k2, k3, k4, k5, k6, k7, k8, k9, reduceIte, Nat.reduceEqDiff, ne_eq, not_false_eq_true]), (by intro i k0 k1 k2 k3 k4 k5 k6; simp only [f171_0, f171_1, f171_2, f35_0, f35_1, f35_2, f30_0, f30_1, em24, em19, em14, em9, f4_0, f4_1, upc, upn, k0, k1, k2, k3, k4, k5, k6, reduceIte, Nat.reduceEqDiff, ne_eq, not_false_eq_true]), (by intro i k0 k1 k2 k3 k4 k5 k6; simp only [f171_0, f171_1, f171_2, f35_0, f35_1, f35_2, f30_0, f30_1, em24, em19, em14, em9, f4_0, f4_1, upc, upn, k0, k1, k2, k3, k4, k5, k6, reduceIte, Nat.reduceEqDiff, ne_eq, not_false_eq_true])⟩)
            · refine Z_tableIn hk dX4_readPlan_63 h63 (by decide) (by decide) (by decide) (by decide) (off := 135) rfl (tgt := 198) (by decide) ?_
              refine Z_aload0 hk dX4_readPlan_198 ?_
              refine Z_iconst hk dX4_readPlan_199 ?_
              refine Z_aload0 hk dX4_readPlan_200 ?_
              refine Z_getI hk fl_4_71 dX4_readPlan_201 ob_20.1 ob_20.2.1 ob_20.2.2.1 ob_20.2.2.2 ft_4_6 (fun v201 e201 a201 b201 => ?_)
              try simp only [f35_0, f35_1, f35_2, f30_0, f30_1, em24, em19, em14, em9, f4_0, f4_1, e43, e50, e60, and_true, true_and, or_true, true_or, implies_true, upn, reduceIte, Nat.reduceEqDiff, ne_eq, not_false_eq_true, upc] at e201
              refine Z_Vv hk (c_X4_fail κ.2.1 δ ad _ hA 1 v201 (by (try simp only [f35_0, f35_1, f35_2, f30_0, f30_1, em24, em19, em14, em9, f4_0, f4_1, and_true, true_and, or_true, true_or, implies_true, upn, reduceIte, Nat.reduceEqDiff, ne_eq, not_false_eq_true, upc]) <;> (first | omega | assumption)) (by (try simp only [f35_0, f35_1, f35_2, f30_0, f30_1, em24, em19, em14, em9, f4_0, f4_1, and_true, true_and, or_true, true_or, implies_true, upn, reduceIte, Nat.reduceEqDiff, ne_eq, not_false_eq_true, upc]) <;> (first | omega | assumption))) ov_X4_fail ml_X4_74 dX4_readPlan_204 rfl ⟨by decide, by decide⟩ ob_20.1 (by decide) (by decide) rfl (Nat.le_of_ble_eq_true rfl) (fun m204 p204 => ?_)
              obtain ⟨p204, f204_0, f204_1⟩ := p204
              try simp only [f204_0, f204_1, f35_0, f35_1, f35_2, f30_0, f30_1, em24, em19, em14, em9, f4_0, f4_1, e43, e50, e60, e201, and_true, true_and, or_true, true_or, implies_true, upn, reduceIte, Nat.reduceEqDiff, ne_eq, not_false_eq_true, upc] at p204
              exact J207 _ (by exact ⟨(by (exact ⟨(by (try simp only [f204_0, f204_1, f35_0, f35_1, f35_2, f30_0, f30_1, em24, em19, em14, em9, f4_0, f4_1, e43, e50, e60, e201, and_true, true_and, or_true, true_or, implies_true, upn, reduceIte, Nat.reduceEqDiff, ne_eq, not_false_eq_true, upc, upc]) <;> omega), (by (try simp only [f204_0, f204_1, f35_0, f35_1, f35_2, f30_0, f30_1, em24, em19, em14, em9, f4_0, f4_1, e43, e50, e60, e201, and_true, true_and, or_true, true_or, implies_true, upn, reduceIte, Nat.reduceEqDiff, ne_eq, not_false_eq_true, upc, upc]) <;> assumption), (by (try simp only [f204_0, f204_1, f35_0, f35_1, f35_2, f30_0, f30_1, em24, em19, em14, em9, f4_0, f4_1, e43, e50, e60, e201, and_true, true_and, or_true, true_or, implies_true, upn, reduceIte, Nat.reduceEqDiff, ne_eq, not_false_eq_true, upc, upc]) <;> assumption), (by (try simp only [f204_0, f204_1, f35_0, f35_1, f35_2, f30_0, f30_1, em24, em19, em14, em9, f4_0, f4_1, e43, e50, e60, e201, and_true, true_and, or_true, true_or, implies_true, upn, reduceIte, Nat.reduceEqDiff, ne_eq, not_false_eq_true, upc, upc]) <;> assumption)⟩)), (by intro c k0 k1 k2 k3 k4 k5 k6 k7 k8 k9; simp only [f204_0, f204_1, f35_0, f35_1, f35_2, f30_0, f30_1, em24, em19, em14, em9, f4_0, f4_1, upc, upn, k0, k1, k2, k3, k4, k5, k6, k7, k8, k9, reduceIte, Nat.reduceEqDiff, ne_eq, not_false_eq_true]), (by intro i k0 k1 k2 k3 k4 k5 k6; simp only [f204_0, f204_1, f35_0, f35_1, f35_2, f30_0, f30_1, em24, em19, em14, em9, f4_0, f4_1, upc, upn, k0, k1, k2, k3, k4, k5, k6, reduceIte, Nat.reduceEqDiff, ne_eq, not_false_eq_true]), (by intro i k0 k1 k2 k3 k4 k5 k6; simp only [f204_0, f204_1, f35_0, f35_1, f35_2, f30_0, f30_1, em24, em19, em14, em9, f4_0, f4_1, upc, upn, k0, k1, k2, k3, k4, k5, k6, reduceIte, Nat.reduceEqDiff, ne_eq, not_false_eq_true])⟩)
            · refine Z_tableIn hk dX4_readPlan_63 h63 (by decide) (by decide) (by decide) (by decide) (off := 135) rfl (tgt := 198) (by decide) ?_
              refine Z_aload0 hk dX4_readPlan_198 ?_
              refine Z_iconst hk dX4_readPlan_199 ?_
              refine Z_aload0 hk dX4_readPlan_200 ?_
              refine Z_getI hk fl_4_71 dX4_readPlan_201 ob_20.1 ob_20.2.1 ob_20.2.2.1 ob_20.2.2.2 ft_4_6 (fun v201 e201 a201 b201 => ?_)
              try simp only [f35_0, f35_1, f35_2, f30_0, f30_1, em24, em19, em14, em9, f4_0, f4_1, e43, e50, e60, and_true, true_and, or_true, true_or, implies_true, upn, reduceIte, Nat.reduceEqDiff, ne_eq, not_false_eq_true, upc] at e201
              refine Z_Vv hk (c_X4_fail κ.2.1 δ ad _ hA 1 v201 (by (try simp only [f35_0, f35_1, f35_2, f30_0, f30_1, em24, em19, em14, em9, f4_0, f4_1, and_true, true_and, or_true, true_or, implies_true, upn, reduceIte, Nat.reduceEqDiff, ne_eq, not_false_eq_true, upc]) <;> (first | omega | assumption)) (by (try simp only [f35_0, f35_1, f35_2, f30_0, f30_1, em24, em19, em14, em9, f4_0, f4_1, and_true, true_and, or_true, true_or, implies_true, upn, reduceIte, Nat.reduceEqDiff, ne_eq, not_false_eq_true, upc]) <;> (first | omega | assumption))) ov_X4_fail ml_X4_74 dX4_readPlan_204 rfl ⟨by decide, by decide⟩ ob_20.1 (by decide) (by decide) rfl (Nat.le_of_ble_eq_true rfl) (fun m204 p204 => ?_)
              obtain ⟨p204, f204_0, f204_1⟩ := p204
              try simp only [f204_0, f204_1, f35_0, f35_1, f35_2, f30_0, f30_1, em24, em19, em14, em9, f4_0, f4_1, e43, e50, e60, e201, and_true, true_and, or_true, true_or, implies_true, upn, reduceIte, Nat.reduceEqDiff, ne_eq, not_false_eq_true, upc] at p204
              exact J207 _ (by exact ⟨(by (exact ⟨(by (try simp only [f204_0, f204_1, f35_0, f35_1, f35_2, f30_0, f30_1, em24, em19, em14, em9, f4_0, f4_1, e43, e50, e60, e201, and_true, true_and, or_true, true_or, implies_true, upn, reduceIte, Nat.reduceEqDiff, ne_eq, not_false_eq_true, upc, upc]) <;> omega), (by (try simp only [f204_0, f204_1, f35_0, f35_1, f35_2, f30_0, f30_1, em24, em19, em14, em9, f4_0, f4_1, e43, e50, e60, e201, and_true, true_and, or_true, true_or, implies_true, upn, reduceIte, Nat.reduceEqDiff, ne_eq, not_false_eq_true, upc, upc]) <;> assumption), (by (try simp only [f204_0, f204_1, f35_0, f35_1, f35_2, f30_0, f30_1, em24, em19, em14, em9, f4_0, f4_1, e43, e50, e60, e201, and_true, true_and, or_true, true_or, implies_true, upn, reduceIte, Nat.reduceEqDiff, ne_eq, not_false_eq_true, upc, upc]) <;> assumption), (by (try simp only [f204_0, f204_1, f35_0, f35_1, f35_2, f30_0, f30_1, em24, em19, em14, em9, f4_0, f4_1, e43, e50, e60, e201, and_true, true_and, or_true, true_or, implies_true, upn, reduceIte, Nat.reduceEqDiff, ne_eq, not_false_eq_true, upc, upc]) <;> assumption)⟩)), (by intro c k0 k1 k2 k3 k4 k5 k6 k7 k8 k9; simp only [f204_0, f204_1, f35_0, f35_1, f35_2, f30_0, f30_1, em24, em19, em14, em9, f4_0, f4_1, upc, upn, k0, k1, k2, k3, k4, k5, k6, k7, k8, k9, reduceIte, Nat.reduceEqDiff, ne_eq, not_false_eq_true]), (by intro i k0 k1 k2 k3 k4 k5 k6; simp only [f204_0, f204_1, f35_0, f35_1, f35_2, f30_0, f30_1, em24, em19, em14, em9, f4_0, f4_1, upc, upn, k0, k1, k2, k3, k4, k5, k6, reduceIte, Nat.reduceEqDiff, ne_eq, not_false_eq_true]), (by intro i k0 k1 k2 k3 k4 k5 k6; simp only [f204_0, f204_1, f35_0, f35_1, f35_2, f30_0, f30_1, em24, em19, em14, em9, f4_0, f4_1, upc, upn, k0, k1, k2, k3, k4, k5, k6, reduceIte, Nat.reduceEqDiff, ne_eq, not_false_eq_true])⟩)
            · refine Z_tableIn hk dX4_readPlan_63 h63 (by decide) (by decide) (by decide) (by decide) (off := 135) rfl (tgt := 198) (by decide) ?_
              refine Z_aload0 hk dX4_readPlan_198 ?_
              refine Z_iconst hk dX4_readPlan_199 ?_
              refine Z_aload0 hk dX4_readPlan_200 ?_
              refine Z_getI hk fl_4_71 dX4_readPlan_201 ob_20.1 ob_20.2.1 ob_20.2.2.1 ob_20.2.2.2 ft_4_6 (fun v201 e201 a201 b201 => ?_)
              try simp only [f35_0, f35_1, f35_2, f30_0, f30_1, em24, em19, em14, em9, f4_0, f4_1, e43, e50, e60, and_true, true_and, or_true, true_or, implies_true, upn, reduceIte, Nat.reduceEqDiff, ne_eq, not_false_eq_true, upc] at e201
              refine Z_Vv hk (c_X4_fail κ.2.1 δ ad _ hA 1 v201 (by (try simp only [f35_0, f35_1, f35_2, f30_0, f30_1, em24, em19, em14, em9, f4_0, f4_1, and_true, true_and, or_true, true_or, implies_true, upn, reduceIte, Nat.reduceEqDiff, ne_eq, not_false_eq_true, upc]) <;> (first | omega | assumption)) (by (try simp only [f35_0, f35_1, f35_2, f30_0, f30_1, em24, em19, em14, em9, f4_0, f4_1, and_true, true_and, or_true, true_or, implies_true, upn, reduceIte, Nat.reduceEqDiff, ne_eq, not_false_eq_true, upc]) <;> (first | omega | assumption))) ov_X4_fail ml_X4_74 dX4_readPlan_204 rfl ⟨by decide, by decide⟩ ob_20.1 (by decide) (by decide) rfl (Nat.le_of_ble_eq_true rfl) (fun m204 p204 => ?_)
              obtain ⟨p204, f204_0, f204_1⟩ := p204
              try simp only [f204_0, f204_1, f35_0, f35_1, f35_2, f30_0, f30_1, em24, em19, em14, em9, f4_0, f4_1, e43, e50, e60, e201, and_true, true_and, or_true, true_or, implies_true, upn, reduceIte, Nat.reduceEqDiff, ne_eq, not_false_eq_true, upc] at p204
              exact J207 _ (by exact ⟨(by (exact ⟨(by (try simp only [f204_0, f204_1, f35_0, f35_1, f35_2, f30_0, f30_1, em24, em19, em14, em9, f4_0, f4_1, e43, e50, e60, e201, and_true, true_and, or_true, true_or, implies_true, upn, reduceIte, Nat.reduceEqDiff, ne_eq, not_false_eq_true, upc, upc]) <;> omega), (by (try simp only [f204_0, f204_1, f35_0, f35_1, f35_2, f30_0, f30_1, em24, em19, em14, em9, f4_0, f4_1, e43, e50, e60, e201, and_true, true_and, or_true, true_or, implies_true, upn, reduceIte, Nat.reduceEqDiff, ne_eq, not_false_eq_true, upc, upc]) <;> assumption), (by (try simp only [f204_0, f204_1, f35_0, f35_1, f35_2, f30_0, f30_1, em24, em19, em14, em9, f4_0, f4_1, e43, e50, e60, e201, and_true, true_and, or_true, true_or, implies_true, upn, reduceIte, Nat.reduceEqDiff, ne_eq, not_false_eq_true, upc, upc]) <;> assumption), (by (try simp only [f204_0, f204_1, f35_0, f35_1, f35_2, f30_0, f30_1, em24, em19, em14, em9, f4_0, f4_1, e43, e50, e60, e201, and_true, true_and, or_true, true_or, implies_true, upn, reduceIte, Nat.reduceEqDiff, ne_eq, not_false_eq_true, upc, upc]) <;> assumption)⟩)), (by intro c k0 k1 k2 k3 k4 k5 k6 k7 k8 k9; simp only [f204_0, f204_1, f35_0, f35_1, f35_2, f30_0, f30_1, em24, em19, em14, em9, f4_0, f4_1, upc, upn, k0, k1, k2, k3, k4, k5, k6, k7, k8, k9, reduceIte, Nat.reduceEqDiff, ne_eq, not_false_eq_true]), (by intro i k0 k1 k2 k3 k4 k5 k6; simp only [f204_0, f204_1, f35_0, f35_1, f35_2, f30_0, f30_1, em24, em19, em14, em9, f4_0, f4_1, upc, upn, k0, k1, k2, k3, k4, k5, k6, reduceIte, Nat.reduceEqDiff, ne_eq, not_false_eq_true]), (by intro i k0 k1 k2 k3 k4 k5 k6; simp only [f204_0, f204_1, f35_0, f35_1, f35_2, f30_0, f30_1, em24, em19, em14, em9, f4_0, f4_1, upc, upn, k0, k1, k2, k3, k4, k5, k6, reduceIte, Nat.reduceEqDiff, ne_eq, not_false_eq_true])⟩)
            · refine Z_tableIn hk dX4_readPlan_63 h63 (by decide) (by decide) (by decide) (by decide) (off := 114) rfl (tgt := 177) (by decide) ?_
              refine Z_aload0 hk dX4_readPlan_177 ?_
              refine Z_Vv hk (c_X4_readScale κ.2.1 δ ad _ hA  hz (by (try simp only [f35_0, f35_1, f35_2, f30_0, f30_1, em24, em19, em14, em9, f4_0, f4_1, and_true, true_and, or_true, true_or, implies_true, upn, reduceIte, Nat.reduceEqDiff, ne_eq, not_false_eq_true, upc]) <;> (first | omega | assumption)) (by (try simp only [f35_0, f35_1, f35_2, f30_0, f30_1, em24, em19, em14, em9, f4_0, f4_1, and_true, true_and, or_true, true_or, implies_true, upn, reduceIte, Nat.reduceEqDiff, ne_eq, not_false_eq_true, upc]) <;> (first | omega | assumption)) (by (try simp only [f35_0, f35_1, f35_2, f30_0, f30_1, em24, em19, em14, em9, f4_0, f4_1, and_true, true_and, or_true, true_or, implies_true, upn, reduceIte, Nat.reduceEqDiff, ne_eq, not_false_eq_true, upc]) <;> (first | omega | assumption))) ov_X4_readScale ml_X4_62 dX4_readPlan_178 rfl ⟨by decide, by decide⟩ ob_20.1 (by decide) (by decide) rfl (Nat.le_of_ble_eq_true rfl) (fun m178 p178 => ?_)
              obtain ⟨p178, f178_0, f178_1, f178_2⟩ := p178
              try simp only [f178_0, f178_1, f178_2, f35_0, f35_1, f35_2, f30_0, f30_1, em24, em19, em14, em9, f4_0, f4_1, e43, e50, e60, and_true, true_and, or_true, true_or, implies_true, upn, reduceIte, Nat.reduceEqDiff, ne_eq, not_false_eq_true, upc] at p178
              refine Z_goto hk (tgt := 207) dX4_readPlan_181 (by decide) ?_
              exact J207 _ (by exact ⟨(by (exact ⟨(by (try simp only [f178_0, f178_1, f178_2, f35_0, f35_1, f35_2, f30_0, f30_1, em24, em19, em14, em9, f4_0, f4_1, e43, e50, e60, and_true, true_and, or_true, true_or, implies_true, upn, reduceIte, Nat.reduceEqDiff, ne_eq, not_false_eq_true, upc, upc]) <;> omega), (by (try simp only [f178_0, f178_1, f178_2, f35_0, f35_1, f35_2, f30_0, f30_1, em24, em19, em14, em9, f4_0, f4_1, e43, e50, e60, and_true, true_and, or_true, true_or, implies_true, upn, reduceIte, Nat.reduceEqDiff, ne_eq, not_false_eq_true, upc, upc]) <;> assumption), (by (try simp only [f178_0, f178_1, f178_2, f35_0, f35_1, f35_2, f30_0, f30_1, em24, em19, em14, em9, f4_0, f4_1, e43, e50, e60, and_true, true_and, or_true, true_or, implies_true, upn, reduceIte, Nat.reduceEqDiff, ne_eq, not_false_eq_true, upc, upc]) <;> assumption), (by (try simp only [f178_0, f178_1, f178_2, f35_0, f35_1, f35_2, f30_0, f30_1, em24, em19, em14, em9, f4_0, f4_1, e43, e50, e60, and_true, true_and, or_true, true_or, implies_true, upn, reduceIte, Nat.reduceEqDiff, ne_eq, not_false_eq_true, upc, upc]) <;> assumption)⟩)), (by intro c k0 k1 k2 k3 k4 k5 k6 k7 k8 k9; simp only [f178_0, f178_1, f178_2, f35_0, f35_1, f35_2, f30_0, f30_1, em24, em19, em14, em9, f4_0, f4_1, upc, upn, k0, k1, k2, k3, k4, k5, k6, k7, k8, k9, reduceIte, Nat.reduceEqDiff, ne_eq, not_false_eq_true]), (by intro i k0 k1 k2 k3 k4 k5 k6; simp only [f178_0, f178_1, f178_2, f35_0, f35_1, f35_2, f30_0, f30_1, em24, em19, em14, em9, f4_0, f4_1, upc, upn, k0, k1, k2, k3, k4, k5, k6, reduceIte, Nat.reduceEqDiff, ne_eq, not_false_eq_true]), (by intro i k0 k1 k2 k3 k4 k5 k6; simp only [f178_0, f178_1, f178_2, f35_0, f35_1, f35_2, f30_0, f30_1, em24, em19, em14, em9, f4_0, f4_1, upc, upn, k0, k1, k2, k3, k4, k5, k6, reduceIte, Nat.reduceEqDiff, ne_eq, not_false_eq_true])⟩)
            · refine Z_tableIn hk dX4_readPlan_63 h63 (by decide) (by decide) (by decide) (by decide) (off := 135) rfl (tgt := 198) (by decide) ?_
              refine Z_aload0 hk dX4_readPlan_198 ?_
              refine Z_iconst hk dX4_readPlan_199 ?_
              refine Z_aload0 hk dX4_readPlan_200 ?_
              refine Z_getI hk fl_4_71 dX4_readPlan_201 ob_20.1 ob_20.2.1 ob_20.2.2.1 ob_20.2.2.2 ft_4_6 (fun v201 e201 a201 b201 => ?_)
              try simp only [f35_0, f35_1, f35_2, f30_0, f30_1, em24, em19, em14, em9, f4_0, f4_1, e43, e50, e60, and_true, true_and, or_true, true_or, implies_true, upn, reduceIte, Nat.reduceEqDiff, ne_eq, not_false_eq_true, upc] at e201
              refine Z_Vv hk (c_X4_fail κ.2.1 δ ad _ hA 1 v201 (by (try simp only [f35_0, f35_1, f35_2, f30_0, f30_1, em24, em19, em14, em9, f4_0, f4_1, and_true, true_and, or_true, true_or, implies_true, upn, reduceIte, Nat.reduceEqDiff, ne_eq, not_false_eq_true, upc]) <;> (first | omega | assumption)) (by (try simp only [f35_0, f35_1, f35_2, f30_0, f30_1, em24, em19, em14, em9, f4_0, f4_1, and_true, true_and, or_true, true_or, implies_true, upn, reduceIte, Nat.reduceEqDiff, ne_eq, not_false_eq_true, upc]) <;> (first | omega | assumption))) ov_X4_fail ml_X4_74 dX4_readPlan_204 rfl ⟨by decide, by decide⟩ ob_20.1 (by decide) (by decide) rfl (Nat.le_of_ble_eq_true rfl) (fun m204 p204 => ?_)
              obtain ⟨p204, f204_0, f204_1⟩ := p204
              try simp only [f204_0, f204_1, f35_0, f35_1, f35_2, f30_0, f30_1, em24, em19, em14, em9, f4_0, f4_1, e43, e50, e60, e201, and_true, true_and, or_true, true_or, implies_true, upn, reduceIte, Nat.reduceEqDiff, ne_eq, not_false_eq_true, upc] at p204
              exact J207 _ (by exact ⟨(by (exact ⟨(by (try simp only [f204_0, f204_1, f35_0, f35_1, f35_2, f30_0, f30_1, em24, em19, em14, em9, f4_0, f4_1, e43, e50, e60, e201, and_true, true_and, or_true, true_or, implies_true, upn, reduceIte, Nat.reduceEqDiff, ne_eq, not_false_eq_true, upc, upc]) <;> omega), (by (try simp only [f204_0, f204_1, f35_0, f35_1, f35_2, f30_0, f30_1, em24, em19, em14, em9, f4_0, f4_1, e43, e50, e60, e201, and_true, true_and, or_true, true_or, implies_true, upn, reduceIte, Nat.reduceEqDiff, ne_eq, not_false_eq_true, upc, upc]) <;> assumption), (by (try simp only [f204_0, f204_1, f35_0, f35_1, f35_2, f30_0, f30_1, em24, em19, em14, em9, f4_0, f4_1, e43, e50, e60, e201, and_true, true_and, or_true, true_or, implies_true, upn, reduceIte, Nat.reduceEqDiff, ne_eq, not_false_eq_true, upc, upc]) <;> assumption), (by (try simp only [f204_0, f204_1, f35_0, f35_1, f35_2, f30_0, f30_1, em24, em19, em14, em9, f4_0, f4_1, e43, e50, e60, e201, and_true, true_and, or_true, true_or, implies_true, upn, reduceIte, Nat.reduceEqDiff, ne_eq, not_false_eq_true, upc, upc]) <;> assumption)⟩)), (by intro c k0 k1 k2 k3 k4 k5 k6 k7 k8 k9; simp only [f204_0, f204_1, f35_0, f35_1, f35_2, f30_0, f30_1, em24, em19, em14, em9, f4_0, f4_1, upc, upn, k0, k1, k2, k3, k4, k5, k6, k7, k8, k9, reduceIte, Nat.reduceEqDiff, ne_eq, not_false_eq_true]), (by intro i k0 k1 k2 k3 k4 k5 k6; simp only [f204_0, f204_1, f35_0, f35_1, f35_2, f30_0, f30_1, em24, em19, em14, em9, f4_0, f4_1, upc, upn, k0, k1, k2, k3, k4, k5, k6, reduceIte, Nat.reduceEqDiff, ne_eq, not_false_eq_true]), (by intro i k0 k1 k2 k3 k4 k5 k6; simp only [f204_0, f204_1, f35_0, f35_1, f35_2, f30_0, f30_1, em24, em19, em14, em9, f4_0, f4_1, upc, upn, k0, k1, k2, k3, k4, k5, k6, reduceIte, Nat.reduceEqDiff, ne_eq, not_false_eq_true])⟩)
            · refine Z_tableIn hk dX4_readPlan_63 h63 (by decide) (by decide) (by decide) (by decide) (off := 135) rfl (tgt := 198) (by decide) ?_
              refine Z_aload0 hk dX4_readPlan_198 ?_
              refine Z_iconst hk dX4_readPlan_199 ?_
              refine Z_aload0 hk dX4_readPlan_200 ?_
              refine Z_getI hk fl_4_71 dX4_readPlan_201 ob_20.1 ob_20.2.1 ob_20.2.2.1 ob_20.2.2.2 ft_4_6 (fun v201 e201 a201 b201 => ?_)
              try simp only [f35_0, f35_1, f35_2, f30_0, f30_1, em24, em19, em14, em9, f4_0, f4_1, e43, e50, e60, and_true, true_and, or_true, true_or, implies_true, upn, reduceIte, Nat.reduceEqDiff, ne_eq, not_false_eq_true, upc] at e201
              refine Z_Vv hk (c_X4_fail κ.2.1 δ ad _ hA 1 v201 (by (try simp only [f35_0, f35_1, f35_2, f30_0, f30_1, em24, em19, em14, em9, f4_0, f4_1, and_true, true_and, or_true, true_or, implies_true, upn, reduceIte, Nat.reduceEqDiff, ne_eq, not_false_eq_true, upc]) <;> (first | omega | assumption)) (by (try simp only [f35_0, f35_1, f35_2, f30_0, f30_1, em24, em19, em14, em9, f4_0, f4_1, and_true, true_and, or_true, true_or, implies_true, upn, reduceIte, Nat.reduceEqDiff, ne_eq, not_false_eq_true, upc]) <;> (first | omega | assumption))) ov_X4_fail ml_X4_74 dX4_readPlan_204 rfl ⟨by decide, by decide⟩ ob_20.1 (by decide) (by decide) rfl (Nat.le_of_ble_eq_true rfl) (fun m204 p204 => ?_)
              obtain ⟨p204, f204_0, f204_1⟩ := p204
              try simp only [f204_0, f204_1, f35_0, f35_1, f35_2, f30_0, f30_1, em24, em19, em14, em9, f4_0, f4_1, e43, e50, e60, e201, and_true, true_and, or_true, true_or, implies_true, upn, reduceIte, Nat.reduceEqDiff, ne_eq, not_false_eq_true, upc] at p204
              exact J207 _ (by exact ⟨(by (exact ⟨(by (try simp only [f204_0, f204_1, f35_0, f35_1, f35_2, f30_0, f30_1, em24, em19, em14, em9, f4_0, f4_1, e43, e50, e60, e201, and_true, true_and, or_true, true_or, implies_true, upn, reduceIte, Nat.reduceEqDiff, ne_eq, not_false_eq_true, upc, upc]) <;> omega), (by (try simp only [f204_0, f204_1, f35_0, f35_1, f35_2, f30_0, f30_1, em24, em19, em14, em9, f4_0, f4_1, e43, e50, e60, e201, and_true, true_and, or_true, true_or, implies_true, upn, reduceIte, Nat.reduceEqDiff, ne_eq, not_false_eq_true, upc, upc]) <;> assumption), (by (try simp only [f204_0, f204_1, f35_0, f35_1, f35_2, f30_0, f30_1, em24, em19, em14, em9, f4_0, f4_1, e43, e50, e60, e201, and_true, true_and, or_true, true_or, implies_true, upn, reduceIte, Nat.reduceEqDiff, ne_eq, not_false_eq_true, upc, upc]) <;> assumption), (by (try simp only [f204_0, f204_1, f35_0, f35_1, f35_2, f30_0, f30_1, em24, em19, em14, em9, f4_0, f4_1, e43, e50, e60, e201, and_true, true_and, or_true, true_or, implies_true, upn, reduceIte, Nat.reduceEqDiff, ne_eq, not_false_eq_true, upc, upc]) <;> assumption)⟩)), (by intro c k0 k1 k2 k3 k4 k5 k6 k7 k8 k9; simp only [f204_0, f204_1, f35_0, f35_1, f35_2, f30_0, f30_1, em24, em19, em14, em9, f4_0, f4_1, upc, upn, k0, k1, k2, k3, k4, k5, k6, k7, k8, k9, reduceIte, Nat.reduceEqDiff, ne_eq, not_false_eq_true]), (by intro i k0 k1 k2 k3 k4 k5 k6; simp only [f204_0, f204_1, f35_0, f35_1, f35_2, f30_0, f30_1, em24, em19, em14, em9, f4_0, f4_1, upc, upn, k0, k1, k2, k3, k4, k5, k6, reduceIte, Nat.reduceEqDiff, ne_eq, not_false_eq_true]), (by intro i k0 k1 k2 k3 k4 k5 k6; simp only [f204_0, f204_1, f35_0, f35_1, f35_2, f30_0, f30_1, em24, em19, em14, em9, f4_0, f4_1, upc, upn, k0, k1, k2, k3, k4, k5, k6, reduceIte, Nat.reduceEqDiff, ne_eq, not_false_eq_true])⟩)
            · refine Z_tableIn hk dX4_readPlan_63 h63 (by decide) (by decide) (by decide) (by decide) (off := 121) rfl (tgt := 184) (by decide) ?_
              refine Z_aload0 hk dX4_readPlan_184 ?_
              refine Z_Vv hk (c_X4_readReference κ.2.1 δ ad _ hA  hz (by (try simp only [f35_0, f35_1, f35_2, f30_0, f30_1, em24, em19, em14, em9, f4_0, f4_1, and_true, true_and, or_true, true_or, implies_true, upn, reduceIte, Nat.reduceEqDiff, ne_eq, not_false_eq_true, upc]) <;> (first | omega | assumption)) (by (try simp only [f35_0, f35_1, f35_2, f30_0, f30_1, em24, em19, em14, em9, f4_0, f4_1, and_true, true_and, or_true, true_or, implies_true, upn, reduceIte, Nat.reduceEqDiff, ne_eq, not_false_eq_true, upc]) <;> (first | omega | assumption)) (by (try simp only [f35_0, f35_1, f35_2, f30_0, f30_1, em24, em19, em14, em9, f4_0, f4_1, and_true, true_and, or_true, true_or, implies_true, upn, reduceIte, Nat.reduceEqDiff, ne_eq, not_false_eq_true, upc]) <;> (first | omega | assumption))) ov_X4_readReference ml_X4_65 dX4_readPlan_185 rfl ⟨by decide, by decide⟩ ob_20.1 (by decide) (by decide) rfl (Nat.le_of_ble_eq_true rfl) (fun m185 p185 => ?_)
              obtain ⟨p185, f185_0, f185_1, f185_2⟩ := p185
              try simp only [f185_0, f185_1, f185_2, f35_0, f35_1, f35_2, f30_0, f30_1, em24, em19, em14, em9, f4_0, f4_1, e43, e50, e60, and_true, true_and, or_true, true_or, implies_true, upn, reduceIte, Nat.reduceEqDiff, ne_eq, not_false_eq_true, upc] at p185
              refine Z_goto hk (tgt := 207) dX4_readPlan_188 (by decide) ?_
              exact J207 _ (by exact ⟨(by (exact ⟨(by (try simp only [f185_0, f185_1, f185_2, f35_0, f35_1, f35_2, f30_0, f30_1, em24, em19, em14, em9, f4_0, f4_1, e43, e50, e60, and_true, true_and, or_true, true_or, implies_true, upn, reduceIte, Nat.reduceEqDiff, ne_eq, not_false_eq_true, upc, upc]) <;> omega), (by (try simp only [f185_0, f185_1, f185_2, f35_0, f35_1, f35_2, f30_0, f30_1, em24, em19, em14, em9, f4_0, f4_1, e43, e50, e60, and_true, true_and, or_true, true_or, implies_true, upn, reduceIte, Nat.reduceEqDiff, ne_eq, not_false_eq_true, upc, upc]) <;> assumption), (by (try simp only [f185_0, f185_1, f185_2, f35_0, f35_1, f35_2, f30_0, f30_1, em24, em19, em14, em9, f4_0, f4_1, e43, e50, e60, and_true, true_and, or_true, true_or, implies_true, upn, reduceIte, Nat.reduceEqDiff, ne_eq, not_false_eq_true, upc, upc]) <;> assumption), (by (try simp only [f185_0, f185_1, f185_2, f35_0, f35_1, f35_2, f30_0, f30_1, em24, em19, em14, em9, f4_0, f4_1, e43, e50, e60, and_true, true_and, or_true, true_or, implies_true, upn, reduceIte, Nat.reduceEqDiff, ne_eq, not_false_eq_true, upc, upc]) <;> assumption)⟩)), (by intro c k0 k1 k2 k3 k4 k5 k6 k7 k8 k9; simp only [f185_0, f185_1, f185_2, f35_0, f35_1, f35_2, f30_0, f30_1, em24, em19, em14, em9, f4_0, f4_1, upc, upn, k0, k1, k2, k3, k4, k5, k6, k7, k8, k9, reduceIte, Nat.reduceEqDiff, ne_eq, not_false_eq_true]), (by intro i k0 k1 k2 k3 k4 k5 k6; simp only [f185_0, f185_1, f185_2, f35_0, f35_1, f35_2, f30_0, f30_1, em24, em19, em14, em9, f4_0, f4_1, upc, upn, k0, k1, k2, k3, k4, k5, k6, reduceIte, Nat.reduceEqDiff, ne_eq, not_false_eq_true]), (by intro i k0 k1 k2 k3 k4 k5 k6; simp only [f185_0, f185_1, f185_2, f35_0, f35_1, f35_2, f30_0, f30_1, em24, em19, em14, em9, f4_0, f4_1, upc, upn, k0, k1, k2, k3, k4, k5, k6, reduceIte, Nat.reduceEqDiff, ne_eq, not_false_eq_true])⟩)
            · refine Z_tableIn hk dX4_readPlan_63 h63 (by decide) (by decide) (by decide) (by decide) (off := 128) rfl (tgt := 191) (by decide) ?_
              refine Z_aload0 hk dX4_readPlan_191 ?_
              refine Z_Vv hk (c_X4_readClaim κ.2.1 δ ad _ hA  hz (by (try simp only [f35_0, f35_1, f35_2, f30_0, f30_1, em24, em19, em14, em9, f4_0, f4_1, and_true, true_and, or_true, true_or, implies_true, upn, reduceIte, Nat.reduceEqDiff, ne_eq, not_false_eq_true, upc]) <;> (first | omega | assumption)) (by (try simp only [f35_0, f35_1, f35_2, f30_0, f30_1, em24, em19, em14, em9, f4_0, f4_1, and_true, true_and, or_true, true_or, implies_true, upn, reduceIte, Nat.reduceEqDiff, ne_eq, not_false_eq_true, upc]) <;> (first | omega | assumption)) (by (try simp only [f35_0, f35_1, f35_2, f30_0, f30_1, em24, em19, em14, em9, f4_0, f4_1, and_true, true_and, or_true, true_or, implies_true, upn, reduceIte, Nat.reduceEqDiff, ne_eq, not_false_eq_true, upc]) <;> (first | omega | assumption)) (by (try simp only [f35_0, f35_1, f35_2, f30_0, f30_1, em24, em19, em14, em9, f4_0, f4_1, and_true, true_and, or_true, true_or, implies_true, upn, reduceIte, Nat.reduceEqDiff, ne_eq, not_false_eq_true, upc]) <;> (first | omega | assumption)) (by (try simp only [f35_0, f35_1, f35_2, f30_0, f30_1, em24, em19, em14, em9, f4_0, f4_1, and_true, true_and, or_true, true_or, implies_true, upn, reduceIte, Nat.reduceEqDiff, ne_eq, not_false_eq_true, upc]) <;> (first | omega | assumption)) (by (try simp only [f35_0, f35_1, f35_2, f30_0, f30_1, em24, em19, em14, em9, f4_0, f4_1, and_true, true_and, or_true, true_or, implies_true, upn, reduceIte, Nat.reduceEqDiff, ne_eq, not_false_eq_true, upc]) <;> (first | omega | assumption))) ov_X4_readClaim ml_X4_68 dX4_readPlan_192 rfl ⟨by decide, by decide⟩ ob_20.1 (by decide) (by decide) rfl (Nat.le_of_ble_eq_true rfl) (fun m192 p192 => ?_)
              obtain ⟨p192, f192_0, f192_1, f192_2, f192_3, f192_4⟩ := p192
              try simp only [f192_0, f192_1, f192_2, f192_3, f192_4, f35_0, f35_1, f35_2, f30_0, f30_1, em24, em19, em14, em9, f4_0, f4_1, e43, e50, e60, and_true, true_and, or_true, true_or, implies_true, upn, reduceIte, Nat.reduceEqDiff, ne_eq, not_false_eq_true, upc] at p192
              refine Z_goto hk (tgt := 207) dX4_readPlan_195 (by decide) ?_
              exact J207 _ (by exact ⟨(by (exact ⟨(by (try simp only [f192_0, f192_1, f192_2, f192_3, f192_4, f35_0, f35_1, f35_2, f30_0, f30_1, em24, em19, em14, em9, f4_0, f4_1, e43, e50, e60, and_true, true_and, or_true, true_or, implies_true, upn, reduceIte, Nat.reduceEqDiff, ne_eq, not_false_eq_true, upc, upc]) <;> omega), (by (try simp only [f192_0, f192_1, f192_2, f192_3, f192_4, f35_0, f35_1, f35_2, f30_0, f30_1, em24, em19, em14, em9, f4_0, f4_1, e43, e50, e60, and_true, true_and, or_true, true_or, implies_true, upn, reduceIte, Nat.reduceEqDiff, ne_eq, not_false_eq_true, upc, upc]) <;> assumption), (by (try simp only [f192_0, f192_1, f192_2, f192_3, f192_4, f35_0, f35_1, f35_2, f30_0, f30_1, em24, em19, em14, em9, f4_0, f4_1, e43, e50, e60, and_true, true_and, or_true, true_or, implies_true, upn, reduceIte, Nat.reduceEqDiff, ne_eq, not_false_eq_true, upc, upc]) <;> assumption), (by (try simp only [f192_0, f192_1, f192_2, f192_3, f192_4, f35_0, f35_1, f35_2, f30_0, f30_1, em24, em19, em14, em9, f4_0, f4_1, e43, e50, e60, and_true, true_and, or_true, true_or, implies_true, upn, reduceIte, Nat.reduceEqDiff, ne_eq, not_false_eq_true, upc, upc]) <;> assumption)⟩)), (by intro c k0 k1 k2 k3 k4 k5 k6 k7 k8 k9; simp only [f192_0, f192_1, f192_2, f192_3, f192_4, f35_0, f35_1, f35_2, f30_0, f30_1, em24, em19, em14, em9, f4_0, f4_1, upc, upn, k0, k1, k2, k3, k4, k5, k6, k7, k8, k9, reduceIte, Nat.reduceEqDiff, ne_eq, not_false_eq_true]), (by intro i k0 k1 k2 k3 k4 k5 k6; simp only [f192_0, f192_1, f192_2, f192_3, f192_4, f35_0, f35_1, f35_2, f30_0, f30_1, em24, em19, em14, em9, f4_0, f4_1, upc, upn, k0, k1, k2, k3, k4, k5, k6, reduceIte, Nat.reduceEqDiff, ne_eq, not_false_eq_true]), (by intro i k0 k1 k2 k3 k4 k5 k6; simp only [f192_0, f192_1, f192_2, f192_3, f192_4, f35_0, f35_1, f35_2, f30_0, f30_1, em24, em19, em14, em9, f4_0, f4_1, upc, upn, k0, k1, k2, k3, k4, k5, k6, reduceIte, Nat.reduceEqDiff, ne_eq, not_false_eq_true])⟩)
  refine Z_istore2 hk rfl (by decide) dX4_readPlan_34 ?_
  exact J35 (((700 - 0) : Int).toNat + 1) _ _ _ (by exact ⟨(by (exact ⟨(by (try simp only [f30_0, f30_1, em24, em19, em14, em9, f4_0, f4_1, and_true, true_and, or_true, true_or, implies_true, upn, reduceIte, Nat.reduceEqDiff, ne_eq, not_false_eq_true, upc, upc]) <;> omega), (by (try simp only [f30_0, f30_1, em24, em19, em14, em9, f4_0, f4_1, and_true, true_and, or_true, true_or, implies_true, upn, reduceIte, Nat.reduceEqDiff, ne_eq, not_false_eq_true, upc, upc]) <;> assumption), (by (try simp only [f30_0, f30_1, em24, em19, em14, em9, f4_0, f4_1, and_true, true_and, or_true, true_or, implies_true, upn, reduceIte, Nat.reduceEqDiff, ne_eq, not_false_eq_true, upc, upc]) <;> assumption), (by (try simp only [f30_0, f30_1, em24, em19, em14, em9, f4_0, f4_1, and_true, true_and, or_true, true_or, implies_true, upn, reduceIte, Nat.reduceEqDiff, ne_eq, not_false_eq_true, upc, upc]) <;> assumption)⟩)), (by intro c k0 k1 k2 k3 k4 k5 k6 k7 k8 k9; simp only [f30_0, f30_1, em24, em19, em14, em9, f4_0, f4_1, upc, upn, k0, k1, k2, k3, k4, k5, k6, k7, k8, k9, reduceIte, Nat.reduceEqDiff, ne_eq, not_false_eq_true]), (by intro i k0 k1 k2 k3 k4 k5 k6; simp only [f30_0, f30_1, em24, em19, em14, em9, f4_0, f4_1, upc, upn, k0, k1, k2, k3, k4, k5, k6, reduceIte, Nat.reduceEqDiff, ne_eq, not_false_eq_true]), (by intro i k0 k1 k2 k3 k4 k5 k6; simp only [f30_0, f30_1, em24, em19, em14, em9, f4_0, f4_1, upc, upn, k0, k1, k2, k3, k4, k5, k6, reduceIte, Nat.reduceEqDiff, ne_eq, not_false_eq_true])⟩) (by omega)
def RW (t : Int) (f : Nat → Int) : Prop := ∀ j : Nat, (j : Int) < t → 0 ≤ f j ∧ f j < t
def CB (b : Int) (f : Nat → Int) : Prop := ∀ j : Nat, j < 25 → 0 ≤ f j ∧ f j ≤ b
theorem RW.put {t : Int} {f : Nat → Int} {i : Nat} {v : Int} (h : RW t f) (hv : 0 ≤ v ∧ v < t) : RW t (upr f i v) := by
  intro j hj
  by_cases e : j = i
  · subst e; rw [upr_eq]; exact hv
  · rw [upr_ne e]; exact h j hj
theorem CB.put {b : Int} {f : Nat → Int} {i : Nat} {v : Int} (h : CB b f) (hv : 0 ≤ v ∧ v ≤ b + 1) : CB (b + 1) (upr f i v) := by
  intro j hj
  by_cases e : j = i
  · subst e; rw [upr_eq]; exact hv
  · rw [upr_ne e]; have := h j hj; omega
theorem CB.mono {b c : Int} {f : Nat → Int} (h : CB b f) (hc : b ≤ c) : CB c f := fun j hj => by have := h j hj; omega
theorem n_or {m n : Nat} (hm : m < 2 ^ 16) (hn : n < 2 ^ 16) : nI m ||| nI n = nI (m ||| n) := by
  have ho : m ||| n < 2 ^ 16 := Nat.or_lt_two_pow hm hn
  apply Int32.toBitVec_inj.mp
  show BitVec.ofNat 32 m ||| BitVec.ofNat 32 n = BitVec.ofNat 32 (m ||| n)
  apply BitVec.eq_of_toNat_eq
  rw [BitVec.toNat_or, BitVec.toNat_ofNat, BitVec.toNat_ofNat, BitVec.toNat_ofNat, Nat.mod_eq_of_lt (by omega), Nat.mod_eq_of_lt (by omega), Nat.mod_eq_of_lt (by omega)]
theorem n_sh : ∀ k, k < 16 → Int32.ofInt 1 <<< (nI k &&& 31) = nI (2 ^ k) := by decide +kernel
theorem seen_or {x a : Int} (h0 : 0 ≤ x) (h1 : x < 65536) (a0 : 0 ≤ a) (a1 : a ≤ 15) : (Int32.ofInt x ||| Int32.ofInt (Int32.ofInt 1 <<< (Int32.ofInt a &&& 31)).toInt).toInt = ((x.toNat ||| 2 ^ a.toNat : Nat) : Int) := by
  have hp : 2 ^ a.toNat < 2 ^ 16 := Nat.pow_lt_pow_right (by decide) (by omega)
  have ho : x.toNat ||| 2 ^ a.toNat < 2 ^ 16 := Nat.or_lt_two_pow (by omega) hp
  rw [zI_of, zI_nI a0 (by omega), n_sh _ (by omega), zI_nI h0 (by omega), n_or (by omega) hp, nI_toInt (by omega)]
theorem seen_all {t : Int} (t0 : 2 ≤ t) (t1 : t ≤ 5) : (Int32.ofInt 1 <<< (Int32.ofInt t &&& 31)).toInt = ((2 ^ t.toNat : Nat) : Int) := by
  have hp : 2 ^ t.toNat < 2 ^ 16 := Nat.pow_lt_pow_right (by decide) (by omega)
  rw [zI_nI (x := t) (by omega) (by omega), n_sh _ (by omega), nI_toInt (by omega)]
theorem tb_or {s k a : Nat} (h : s.testBit a = true ∨ a = k) : (s ||| 2 ^ k).testBit a = true := by
  rw [Nat.testBit_or]
  rcases h with h | h
  · rw [h]; rfl
  · rw [h, Nat.testBit_two_pow_self, Bool.or_true]
theorem tb_lt {t : Int} {s a : Int} (ht : 2 ≤ t) (hs : s = ((2 ^ t.toNat : Nat) : Int) - 1) (ha : 0 ≤ a) (h : s.toNat.testBit a.toNat = true) : a < t := by
  have e : s.toNat = 2 ^ t.toNat - 1 := by omega
  rw [e, Nat.testBit_two_pow_sub_one] at h
  have := of_decide_eq_true h
  omega
theorem Z_acopy {κ : Kp} {δ : Dp} {ad : Nat → Nat} {Q : State → Prop} {mL : Nat} {ρ : Nat × Nat × Nat} {pc : Nat} {L : List (Option Value)} {S : List Value} {M : Mem} {cc : ByteArray} {ret : Option FieldType} {fr lo : Nat} (hk : okK κ δ cc RX6 mL ret (rmN fr lo)) (hA : okA δ ad) (hz : NS δ) (hd : decode cc pc = .ok (.invokestatic 57, 3)) (hf : 1 ≤ fr) (hS : (S.map fun v => v.category).sum + 18 ≤ lo) (hρ : ρ.1 = 121) (kk : ∀ M' : Mem, (∀ c, c ≠ 37 → M' c = M c) → (∀ j : Nat, j < 5 → M' 37 j = M 36 j) → Zj κ δ ad rs Q mL ρ (pc + 3) L S M') : Zj κ δ ad rs Q mL ρ pc L (iv 5 :: iv 0 :: .ref (ad 37) :: iv 0 :: .ref (ad 36) :: S) M := by
  intro H locs ls hw hs hl T hT X
  obtain ⟨p, l, e, R, s, m, args, below, meth, c⟩ := κ
  have hRm : R = rmN fr lo := hk.2.2.2.2.2.2.2.2.1
  have ht : ∀ w ∈ lw_g, w.before args s = true := hk.2.2.2.2.1
  have hW : δ.2.2.2.WarmedH s.vm := hk.2.2.2.2.2.2.2.2.2.1
  obtain ⟨az, hz1, -⟩ := hz
  have hlk : (Cond.methodLink RX6 57 arraycopyName).before args s = true := word_at hW (Or.inl rfl) (hz1 _ (List.mem_of_getElem? (i := 930) (by decide +kernel)))
  have hst : (Cond.static arraycopyName).before args s = true := word_at hW (Or.inl rfl) (hz1 _ (List.mem_of_getElem? (i := 931) (by decide +kernel)))
  have hna : (Cond.native arraycopyName).before args s = true := word_at hW (Or.inl rfl) (hz1 _ (List.mem_of_getElem? (i := 932) (by decide +kernel)))
  have hin : (Cond.initialized "java/lang/System").before args s = true := word_at hW (Or.inl rfl) (hz1 _ (List.mem_of_getElem? (i := 17) (by decide +kernel)))
  have h36 := hw.2 36 (by rw [hρ]; decide)
  have h37 := hw.2 37 (by rw [hρ]; decide)
  rw [ar_36.1] at h36
  rw [ar_37.1] at h37
  obtain ⟨hc0, i0⟩ := h36.2 (by decide)
  obtain ⟨hc1, i1⟩ := h37.2 (by decide)
  have hc0 : H[ad 36]? = some (arrV (δ.2.1 100) 5 (fun j => .int (Int32.ofInt (M 36 j)))) := hc0
  have hc1 : H[ad 37]? = some (arrV (δ.2.1 100) 5 (fun j => .int (Int32.ofInt (M 37 j)))) := hc1
  have hKd : va_K δ.1 vwCl (tysL δ) s := hk.2.2.2.2.2.1
  obtain ⟨-, k0, hk0, cm0, hkk0⟩ := (hKd.2 0 _ rfl).1 5 (fun j => .int (Int32.ofInt (M 36 j)))
  obtain ⟨-, k1, hk1, cm1, hkk1⟩ := (hKd.2 0 _ rfl).1 5 (fun j => .int (Int32.ofInt (M 37 j)))
  obtain ⟨vm', X', step⟩ := Stand.arraycopy X hk.1 hk.2.2.2.1 hlk hna hst hin (src := ad 36) (dst := ad 37) (cs := arrV (δ.2.1 100) 5 (fun j => .int (Int32.ofInt (M 36 j)))) (cd := arrV (δ.2.1 100) 5 (fun j => .int (Int32.ofInt (M 37 j)))) (srcPos := Int32.ofInt 0) (destPos := Int32.ofInt 0) (n := Int32.ofInt 5) (by rw [hT]; exact hc0) (by rw [hT]; exact hc1)
    (fun _ h => by cases h) (fun _ h => by cases h) (fun h => by cases h) (fun h => by cases h) hk0 hk1 hkk0 hkk1 (by simp [refKind]) (by decide) (by decide) (by decide)
    (by rw [arrV_size]; decide)
    (by rw [arrV_size]; decide)
    (fun vm₁ _ i hi => by
      have hi5 : i < 5 := hi
      have ee : (arrV (δ.2.1 100) 5 (fun j => Value.int (Int32.ofInt (M 36 j)))).slots.getD ((Int32.ofInt 0).toNatClampNeg + i) .null = .int (Int32.ofInt (M 36 ((Int32.ofInt 0).toNatClampNeg + i))) := by
        rw [Array.getD_eq_getD_getElem?, arrV_read _ _ (by show 0 + i < 5; omega)]
        rfl
      refine ⟨?_, ?_⟩
      · rw [ee]
        rfl
      · rw [ee]
        exact trivial)
    (g := F0 m pc ls (iv 5 :: iv 0 :: .ref (ad 37) :: iv 0 :: .ref (ad 36) :: S)) rfl (by show ls.size = _; rw [hl.1]; exact hk.2.2.1.symm) (rest := S) rfl (by rw [hk.2.1]; exact hd) (by rw [hRm]; exact hf) (by rw [hRm]; show 2 * 0 + _ + (7 + 11) ≤ lo; omega)
  have e1 : copied (arrV (δ.2.1 100) 5 (fun j => .int (Int32.ofInt (M 36 j)))) (arrV (δ.2.1 100) 5 (fun j => .int (Int32.ofInt (M 37 j)))) (Int32.ofInt 0) (Int32.ofInt 0) (Int32.ofInt 5) = arrV (δ.2.1 100) 5 (fun j => .int (va_cpy (fun j => Int32.ofInt (M 36 j)) (fun j => Int32.ofInt (M 37 j)) 0 0 5 j)) := va_copied (fun z => .int z) (δ.2.1 100) (δ.2.1 100) (fun j => Int32.ofInt (M 36 j)) (fun j => Int32.ofInt (M 37 j)) (by decide)
  rw [e1] at X' step
  have hlt : ad 37 < H.size := (Array.getElem?_eq_some_iff.mp hc1).1
  have hheap : ((T.setVm vm').setCell (ad 37) (arrV (δ.2.1 100) 5 (fun j => .int (va_cpy (fun j => Int32.ofInt (M 36 j)) (fun j => Int32.ofInt (M 37 j)) 0 0 5 j)))).heap = H.setIfInBounds (ad 37) (arrV (δ.2.1 100) 5 (fun j => .int (va_cpy (fun j => Int32.ofInt (M 36 j)) (fun j => Int32.ofInt (M 37 j)) 0 0 5 j))) := by rw [← hT]; rfl
  generalize hN : arrV (δ.2.1 100) 5 (fun j => .int (va_cpy (fun j => Int32.ofInt (M 36 j)) (fun j => Int32.ofInt (M 37 j)) 0 0 5 j)) = N at X' step hheap
  have oq : ∀ q : Nat, q ≠ ad 37 → (H.setIfInBounds (ad 37) N)[q]? = H[q]? := fun q hq => by simp [Array.getElem?_setIfInBounds, Ne.symm hq]
  obtain ⟨t, a1, b1⟩ := kk (fun c => if c = 37 then (fun j => if j < 5 then M 36 j else M 37 j) else M c) (fun c hc => if_neg hc) (fun j hj => by rw [if_pos rfl, if_pos hj]) (H.setIfInBounds (ad 37) N) _ ls
    (wd.set hA hw (by simp) oq (by
      rw [ar_37.1]
      refine ⟨fun h => absurd h (by decide), fun _ => ⟨?_, fun j hj => ?_⟩⟩
      · rw [show (H.setIfInBounds (ad 37) N)[ad 37]? = some N by simp [Array.getElem?_setIfInBounds, hlt], ← hN]
        congr 2
        funext j
        show Value.int (va_cpy _ _ 0 0 5 j) = iv (if j < 5 then M 36 j else M 37 j)
        unfold va_cpy iv
        by_cases hj : j < 5
        · rw [if_pos ⟨Nat.zero_le _, by omega⟩, if_pos hj, Nat.zero_add, Nat.sub_zero]
        · rw [if_neg (fun h => hj (by omega)), if_neg hj]
      · dsimp only
        rw [if_pos hj]
        exact i0 j hj) _ (if_pos rfl) (fun d hd => if_neg hd))
    ⟨by simp; exact hs.1, fun q g1 g2 => by
      rw [oq q (fun e => g2 (by rw [e]; exact hA.2 37))]
      exact hs.2.1 q g1 g2, fun q hq => by
      rcases List.mem_append.mp hq with h | h
      · exact hs.2.2 q h
      · obtain ⟨z, -, hzz⟩ := List.mem_map.mp h
        rw [← hzz]
        exact hA.2 37⟩ hl _ hheap X'
  exact ⟨t, step t a1, b1⟩
set_option maxRecDepth 10000 in
theorem c_X6_exchange (l : Launch) (δ : Dp) (ad : Nat → Nat) (M : Mem) (hA : okA δ ad) (a : Int) (b : Int) (q0 : 0 ≤ a ∧ a < (M 32 0) ∧ 0 ≤ b ∧ b < (M 32 0)) (q1 : 2 ≤ (M 32 0) ∧ (M 32 0) ≤ 5) (q2 : RW (M 32 0) (M 36)) : Mv l δ yX6_exchange cX6_exchange 4 none 0 0 ad rs [.ref (ad 32), iv a, iv b] M (fun M' => (True) ∧ (∀ c : Nat, c ≠ 36 → M' c = M c) ∧ (RW (M 32 0) (M' 36))) := by
  refine Mg.of (rm := rmN 0 0) (by decide) (Nat.le_of_ble_eq_true rfl) fun κ _ hk _ => ?_
  generalize hQ : Qg κ δ 121 (rmN 0 0).cells (rmN 0 0).slots _ = Q
  show Zj κ δ ad rs Q 4 (121, 0, 0) 0 [some (.ref (ad 32)), some (iv a), some (iv b), none] [] M
  refine Z_aload0 hk dX6_exchange_0 ?_
  refine Z_getR hk fl_6_21 dX6_exchange_1 ob_32.1 ob_32.2.1 ob_32.2.2.1 ob_32.2.2.2 ft_6_5 rs_32_5 ?_
  refine Z_iload1 hk dX6_exchange_4 ?_
  refine Z_iald hk dX6_exchange_5 ar_36.1 ar_36.2.1 ar_36.2.2 (by omega) (by omega) (fun v5 e5 a5 b5 => ?_)
  refine Z_istore3 hk rfl (by decide) dX6_exchange_6 ?_
  refine Z_aload0 hk dX6_exchange_7 ?_
  refine Z_getR hk fl_6_21 dX6_exchange_8 ob_32.1 ob_32.2.1 ob_32.2.2.1 ob_32.2.2.2 ft_6_5 rs_32_5 ?_
  refine Z_iload1 hk dX6_exchange_11 ?_
  refine Z_aload0 hk dX6_exchange_12 ?_
  refine Z_getR hk fl_6_21 dX6_exchange_13 ob_32.1 ob_32.2.1 ob_32.2.2.1 ob_32.2.2.2 ft_6_5 rs_32_5 ?_
  refine Z_iload2 hk dX6_exchange_16 ?_
  refine Z_iald hk dX6_exchange_17 ar_36.1 ar_36.2.1 ar_36.2.2 (by omega) (by omega) (fun v17 e17 a17 b17 => ?_)
  try simp only [e5, and_true, true_and, or_true, true_or, implies_true, upn, reduceIte, Nat.reduceEqDiff, ne_eq, not_false_eq_true, upc] at e17
  refine Z_iast hk hA dX6_exchange_18 ar_36.1 ar_36.2.1 ar_36.2.2 (by omega) (by omega) (by omega) (by omega) ?_
  refine Z_nm (fun m18 em18 => ?_)
  refine Z_aload0 hk dX6_exchange_19 ?_
  refine Z_getR hk fl_6_21 dX6_exchange_20 ob_32.1 ob_32.2.1 ob_32.2.2.1 ob_32.2.2.2 ft_6_5 rs_32_5 ?_
  refine Z_iload2 hk dX6_exchange_23 ?_
  refine Z_iload3 hk dX6_exchange_24 ?_
  refine Z_iast hk hA dX6_exchange_25 ar_36.1 ar_36.2.1 ar_36.2.2 (by omega) (by omega) (by omega) (by omega) ?_
  refine Z_nm (fun m25 em25 => ?_)
  exact Z_vret hk hA hQ dX6_exchange_26 ⟨rfl, rfl, rfl, (by exact ⟨(by (try simp only [em25, em18, and_true, true_and, or_true, true_or, implies_true, upn, reduceIte, Nat.reduceEqDiff, ne_eq, not_false_eq_true, upc]) <;> (trivial)), (by intro c k0; simp only [em25, em18, upc, upn, k0, reduceIte, Nat.reduceEqDiff, ne_eq, not_false_eq_true]), (by simp only [em25, em18, e5, e17, and_true, true_and, or_true, true_or, implies_true, upn, reduceIte, Nat.reduceEqDiff, ne_eq, not_false_eq_true, upc, upc]; exact (q2.put (by have := q2 b.toNat (by omega); omega)).put (by have := q2 a.toNat (by omega); omega))⟩)⟩
set_option maxRecDepth 10000 in
theorem c_X6_sumOfCounts (l : Launch) (δ : Dp) (ad : Nat → Nat) (M : Mem) (hA : okA δ ad) (q1 : 2 ≤ (M 32 0) ∧ (M 32 0) ≤ 5) (q2 : RW (M 32 0) (M 36)) (q3 : CB 1000 (M 34)) (q4 : CB 1000 (M 35)) : Mi l δ yX6_sumOfCounts cX6_sumOfCounts 3 (some (.int)) 0 0 ad rs [.ref (ad 32)] M (fun r M' => M = M' ∧ (0 ≤ r ∧ r ≤ 100000)) := by
  refine Mg.of (rm := rmN 0 0) (by decide) (Nat.le_of_ble_eq_true rfl) fun κ _ hk _ => ?_
  generalize hQ : Qg κ δ 121 (rmN 0 0).cells (rmN 0 0).slots _ = Q
  show Zj κ δ ad rs Q 3 (121, 0, 0) 0 [some (.ref (ad 32)), none, none] [] M
  refine Z_iconst hk dX6_sumOfCounts_0 ?_
  refine Z_istore1 hk rfl (by decide) dX6_sumOfCounts_1 ?_
  refine Z_iconst hk dX6_sumOfCounts_2 ?_
  have J4 : ∀ (n : Nat) (x1_4 : Int) (x2_4 : Int), (0 ≤ x2_4 ∧ x2_4 ≤ (M 32 0) ∧ 0 ≤ x1_4 ∧ x1_4 ≤ 2000 * x2_4) → ((M 32 0) - x2_4) < (n : Int) → Zj κ δ ad rs Q 3 (121, 0, 0) 4 [some (.ref (ad 32)), some (iv x1_4), some (iv x2_4)] [] M := by
    intro n
    induction n with
    | zero => intro x1_4 x2_4 h4 hm4; exfalso; omega
    | succ n ih4 =>
      intro x1_4 x2_4 h4 hm4
      refine Z_iload2 hk dX6_sumOfCounts_4 ?_
      refine Z_aload0 hk dX6_sumOfCounts_5 ?_
      refine Z_getI hk fl_6_27 dX6_sumOfCounts_6 ob_32.1 ob_32.2.1 ob_32.2.2.1 ob_32.2.2.2 ft_6_0 (fun v6 e6 a6 b6 => ?_)
      refine Z_icmp_ge hk (tgt := 65) dX6_sumOfCounts_9 (by decide) (by omega) (by omega) (by omega) (by omega) (fun h9 => ?_) (fun h9 => ?_)
      · refine Z_iload1 hk dX6_sumOfCounts_65 ?_
        exact Z_iret hk hA hQ dX6_sumOfCounts_66 ⟨rfl, rfl, _, rfl, (by exact ⟨rfl, (by omega)⟩)⟩
      · refine Z_iload1 hk dX6_sumOfCounts_12 ?_
        refine Z_aload0 hk dX6_sumOfCounts_13 ?_
        refine Z_getR hk fl_6_15 dX6_sumOfCounts_14 ob_32.1 ob_32.2.1 ob_32.2.2.1 ob_32.2.2.2 ft_6_3 rs_32_3 ?_
        refine Z_aload0 hk dX6_sumOfCounts_17 ?_
        refine Z_getR hk fl_6_21 dX6_sumOfCounts_18 ob_32.1 ob_32.2.1 ob_32.2.2.1 ob_32.2.2.2 ft_6_5 rs_32_5 ?_
        refine Z_iload2 hk dX6_sumOfCounts_21 ?_
        refine Z_iald hk dX6_sumOfCounts_22 ar_36.1 ar_36.2.1 ar_36.2.2 (by omega) (by omega) (fun v22 e22 a22 b22 => ?_)
        try simp only [e6, and_true, true_and, or_true, true_or, implies_true, upn, reduceIte, Nat.reduceEqDiff, ne_eq, not_false_eq_true, upc] at e22
        have g22 := q2 x2_4.toNat (by omega)
        rw [← e22] at g22
        refine Z_iconst hk dX6_sumOfCounts_23 ?_
        refine Z_imul hk dX6_sumOfCounts_24 ?_
        refine Z_iload2 hk dX6_sumOfCounts_25 ?_
        refine Z_iadd hk dX6_sumOfCounts_26 ?_
        refine Z_iald hk dX6_sumOfCounts_27 ar_34.1 ar_34.2.1 ar_34.2.2 (by omega) (by omega) (fun v27 e27 a27 b27 => ?_)
        try simp only [e6, e22, and_true, true_and, or_true, true_or, implies_true, upn, reduceIte, Nat.reduceEqDiff, ne_eq, not_false_eq_true, upc] at e27
        have g27 := q3 (v22 * 5 + x2_4).toNat (by omega)
        rw [e22, ← e27] at g27
        refine Z_iadd hk dX6_sumOfCounts_28 ?_
        refine Z_istore1 hk rfl (by decide) dX6_sumOfCounts_29 ?_
        refine Z_iload2 hk dX6_sumOfCounts_30 ?_
        have J59 : ∀ (x1_59 : Int), (0 ≤ x1_59 ∧ x1_59 ≤ 2000 * x2_4 + 2000) → Zj κ δ ad rs Q 3 (121, 0, 0) 59 [some (.ref (ad 32)), some (iv x1_59), some (iv x2_4)] [] M := by
          intro x1_59 h59
          refine Z_iinc2 hk rfl (by decide) dX6_sumOfCounts_59 ?_
          refine Z_goto hk (tgt := 4) dX6_sumOfCounts_62 (by decide) ?_
          exact ih4 _ _ (by omega) (by (omega))
        refine Z_if_le hk (tgt := 59) dX6_sumOfCounts_31 (by decide) (by omega) (by omega) (fun h31 => ?_) (fun h31 => ?_)
        · exact J59 _ (by omega)
        · refine Z_iload1 hk dX6_sumOfCounts_34 ?_
          refine Z_aload0 hk dX6_sumOfCounts_35 ?_
          refine Z_getR hk fl_6_18 dX6_sumOfCounts_36 ob_32.1 ob_32.2.1 ob_32.2.2.1 ob_32.2.2.2 ft_6_4 rs_32_4 ?_
          refine Z_aload0 hk dX6_sumOfCounts_39 ?_
          refine Z_getR hk fl_6_21 dX6_sumOfCounts_40 ob_32.1 ob_32.2.1 ob_32.2.2.1 ob_32.2.2.2 ft_6_5 rs_32_5 ?_
          refine Z_iload2 hk dX6_sumOfCounts_43 ?_
          refine Z_iconst hk dX6_sumOfCounts_44 ?_
          refine Z_isub hk dX6_sumOfCounts_45 ?_
          refine Z_iald hk dX6_sumOfCounts_46 ar_36.1 ar_36.2.1 ar_36.2.2 (by omega) (by omega) (fun v46 e46 a46 b46 => ?_)
          try simp only [e6, e22, e27, and_true, true_and, or_true, true_or, implies_true, upn, reduceIte, Nat.reduceEqDiff, ne_eq, not_false_eq_true, upc] at e46
          have g46 := q2 (x2_4 - 1).toNat (by omega)
          rw [← e46] at g46
          refine Z_iconst hk dX6_sumOfCounts_47 ?_
          refine Z_imul hk dX6_sumOfCounts_48 ?_
          refine Z_aload0 hk dX6_sumOfCounts_49 ?_
          refine Z_getR hk fl_6_21 dX6_sumOfCounts_50 ob_32.1 ob_32.2.1 ob_32.2.2.1 ob_32.2.2.2 ft_6_5 rs_32_5 ?_
          refine Z_iload2 hk dX6_sumOfCounts_53 ?_
          refine Z_iald hk dX6_sumOfCounts_54 ar_36.1 ar_36.2.1 ar_36.2.2 (by omega) (by omega) (fun v54 e54 a54 b54 => ?_)
          try simp only [e6, e22, e27, e46, and_true, true_and, or_true, true_or, implies_true, upn, reduceIte, Nat.reduceEqDiff, ne_eq, not_false_eq_true, upc] at e54
          have g54 := q2 x2_4.toNat (by omega)
          rw [← e54] at g54
          refine Z_iadd hk dX6_sumOfCounts_55 ?_
          refine Z_iald hk dX6_sumOfCounts_56 ar_35.1 ar_35.2.1 ar_35.2.2 (by omega) (by omega) (fun v56 e56 a56 b56 => ?_)
          try simp only [e6, e22, e27, e46, e54, and_true, true_and, or_true, true_or, implies_true, upn, reduceIte, Nat.reduceEqDiff, ne_eq, not_false_eq_true, upc] at e56
          have g56 := q4 (v46 * 5 + v54).toNat (by omega)
          rw [e46, e54, ← e56] at g56
          refine Z_iadd hk dX6_sumOfCounts_57 ?_
          refine Z_istore1 hk rfl (by decide) dX6_sumOfCounts_58 ?_
          exact J59 _ (by omega)
  refine Z_istore2 hk rfl (by decide) dX6_sumOfCounts_3 ?_
  exact J4 ((((M 32 0) - 0) : Int).toNat + 1) _ _ (by omega) (by omega)
set_option maxRecDepth 10000 in
theorem c_X6_nextRow (l : Launch) (δ : Dp) (ad : Nat → Nat) (M : Mem) (hA : okA δ ad) (q1 : 2 ≤ (M 32 0) ∧ (M 32 0) ≤ 5) (q2 : RW (M 32 0) (M 36)) : Mi l δ yX6_nextRow cX6_nextRow 5 (some (.boolean)) 1 23 ad rs [.ref (ad 32)] M (fun r M' => (0 ≤ r ∧ r ≤ 1) ∧ (∀ c : Nat, c ≠ 36 → M' c = M c) ∧ (RW (M 32 0) (M' 36))) := by
  refine Mg.of (rm := rmN 1 23) (by decide) (Nat.le_of_ble_eq_true rfl) fun κ _ hk _ => ?_
  generalize hQ : Qg κ δ 121 (rmN 1 23).cells (rmN 1 23).slots _ = Q
  show Zj κ δ ad rs Q 5 (121, 0, 0) 0 [some (.ref (ad 32)), none, none, none, none] [] M
  refine Z_aload0 hk dX6_nextRow_0 ?_
  refine Z_getI hk fl_6_27 dX6_nextRow_1 ob_32.1 ob_32.2.1 ob_32.2.2.1 ob_32.2.2.2 ft_6_0 (fun v1 e1 a1 b1 => ?_)
  refine Z_iconst hk dX6_nextRow_4 ?_
  refine Z_isub hk dX6_nextRow_5 ?_
  have J7 : ∀ (n : Nat) (x1_7 : Int), (-1 ≤ x1_7 ∧ x1_7 ≤ (M 32 0) - 2) → (x1_7 + 1) < (n : Int) → Zj κ δ ad rs Q 5 (121, 0, 0) 7 [some (.ref (ad 32)), some (iv x1_7), none, none, none] [] M := by
    intro n
    induction n with
    | zero => intro x1_7 h7 hm7; exfalso; omega
    | succ n ih7 =>
      intro x1_7 h7 hm7
      refine Z_iload1 hk dX6_nextRow_7 ?_
      have J34 : ∀ (_ : Unit), (True) → Zj κ δ ad rs Q 5 (121, 0, 0) 34 [some (.ref (ad 32)), some (iv x1_7), none, none, none] [] M := by
        intro _ h34
        refine Z_iload1 hk dX6_nextRow_34 ?_
        refine Z_if_ge hk (tgt := 40) dX6_nextRow_35 (by decide) (by omega) (by omega) (fun h35 => ?_) (fun h35 => ?_)
        · refine Z_aload0 hk dX6_nextRow_40 ?_
          refine Z_getI hk fl_6_27 dX6_nextRow_41 ob_32.1 ob_32.2.1 ob_32.2.2.1 ob_32.2.2.2 ft_6_0 (fun v41 e41 a41 b41 => ?_)
          try simp only [e1, and_true, true_and, or_true, true_or, implies_true, upn, reduceIte, Nat.reduceEqDiff, ne_eq, not_false_eq_true, upc] at e41
          refine Z_iconst hk dX6_nextRow_44 ?_
          refine Z_isub hk dX6_nextRow_45 ?_
          have J47 : ∀ (n : Nat) (x2_47 : Int), (x1_7 ≤ x2_47 ∧ x2_47 ≤ (M 32 0) - 1) → (x2_47 - x1_7) < (n : Int) → Zj κ δ ad rs Q 5 (121, 0, 0) 47 [some (.ref (ad 32)), some (iv x1_7), some (iv x2_47), none, none] [] M := by
            intro n
            induction n with
            | zero => intro x2_47 h47 hm47; exfalso; omega
            | succ n ih47 =>
              intro x2_47 h47 hm47
              refine Z_iload2 hk dX6_nextRow_47 ?_
              refine Z_iload1 hk dX6_nextRow_48 ?_
              have J73 : ∀ (_ : Unit), (True) → Zj κ δ ad rs Q 5 (121, 0, 0) 73 [some (.ref (ad 32)), some (iv x1_7), some (iv x2_47), none, none] [] M := by
                intro _ h73
                refine Z_aload0 hk dX6_nextRow_73 ?_
                refine Z_iload1 hk dX6_nextRow_74 ?_
                refine Z_iload2 hk dX6_nextRow_75 ?_
                refine Z_Vv hk (c_X6_exchange κ.2.1 δ ad _ hA x1_7 x2_47 (by (first | omega | assumption)) (by (first | omega | assumption)) (by (first | omega | assumption))) ov_X6_exchange ml_X6_67 dX6_nextRow_76 rfl ⟨by decide, by decide⟩ ob_32.1 (by decide) (by decide) rfl (Nat.le_of_ble_eq_true rfl) (fun m76 p76 => ?_)
                obtain ⟨p76, f76_0, f76_1⟩ := p76
                try simp only [f76_0, f76_1, e1, e41, and_true, true_and, or_true, true_or, implies_true, upn, reduceIte, Nat.reduceEqDiff, ne_eq, not_false_eq_true, upc] at p76
                try simp only [f76_0, and_true, true_and, or_true, true_or, implies_true, upn, reduceIte, Nat.reduceEqDiff, ne_eq, not_false_eq_true, upc] at f76_1
                refine Z_aload0 hk dX6_nextRow_79 ?_
                refine Z_getI hk fl_6_27 dX6_nextRow_80 ob_32.1 ob_32.2.1 ob_32.2.2.1 ob_32.2.2.2 ft_6_0 (fun v80 e80 a80 b80 => ?_)
                try simp only [f76_0, f76_1, e1, e41, and_true, true_and, or_true, true_or, implies_true, upn, reduceIte, Nat.reduceEqDiff, ne_eq, not_false_eq_true, upc] at e80
                refine Z_iconst hk dX6_nextRow_83 ?_
                refine Z_isub hk dX6_nextRow_84 ?_
                refine Z_istore3 hk rfl (by decide) dX6_nextRow_85 ?_
                refine Z_iload1 hk dX6_nextRow_86 ?_
                refine Z_iconst hk dX6_nextRow_87 ?_
                refine Z_iadd hk dX6_nextRow_88 ?_
                have J91 : ∀ (n : Nat) (x3_91 : Int) (x4_91 : Int) (m91 : Mem), (((0 ≤ x4_91 ∧ x4_91 ≤ x3_91 + 6 ∧ x3_91 ≤ (M 32 0) - 1) ∧ RW (M 32 0) (m91 36)) ∧ (∀ c : Nat, c ≠ 36 → m91 c = m76 c)) → (x3_91 - x4_91 + 6) < (n : Int) → Zj κ δ ad rs Q 5 (121, 0, 0) 91 [some (.ref (ad 32)), some (iv x1_7), some (iv x2_47), some (iv x3_91), some (iv x4_91)] [] m91 := by
                  intro n
                  induction n with
                  | zero => intro x3_91 x4_91 m91 h91 hm91; exfalso; obtain ⟨h91, -⟩ := h91; obtain ⟨h91, -⟩ := h91; omega
                  | succ n ih91 =>
                    intro x3_91 x4_91 m91 h91 hm91
                    obtain ⟨h91, f91_0⟩ := h91
                    try simp only [f91_0, f76_0, f76_1, and_true, true_and, or_true, true_or, implies_true, upn, reduceIte, Nat.reduceEqDiff, ne_eq, not_false_eq_true, upc] at h91 hm91
                    obtain ⟨h91, h91s⟩ := h91
                    refine Z_iload4 hk dX6_nextRow_91 ?_
                    refine Z_iload3 hk dX6_nextRow_93 ?_
                    refine Z_icmp_ge hk (tgt := 113) dX6_nextRow_94 (by decide) (by omega) (by omega) (by omega) (by omega) (fun h94 => ?_) (fun h94 => ?_)
                    · refine Z_iconst hk dX6_nextRow_113 ?_
                      exact Z_zret hk hA hQ dX6_nextRow_114 (by decide) (by decide) ⟨rfl, rfl, _, rfl, (by exact ⟨(by (try simp only [f91_0, f76_0, f76_1, and_true, true_and, or_true, true_or, implies_true, upn, reduceIte, Nat.reduceEqDiff, ne_eq, not_false_eq_true, upc]) <;> (omega)), (by intro c k0; simp only [f91_0, f76_0, f76_1, upc, upn, k0, reduceIte, Nat.reduceEqDiff, ne_eq, not_false_eq_true]), (by (try simp only [f91_0, f76_0, f76_1, e1, e41, e80, and_true, true_and, or_true, true_or, implies_true, upn, reduceIte, Nat.reduceEqDiff, ne_eq, not_false_eq_true, upc, upc]) <;> (first | assumption | exact h91.2 | exact q2))⟩)⟩
                    · refine Z_aload0 hk dX6_nextRow_97 ?_
                      refine Z_iload4 hk dX6_nextRow_98 ?_
                      refine Z_iload3 hk dX6_nextRow_100 ?_
                      refine Z_Vv hk (c_X6_exchange κ.2.1 δ ad _ hA x4_91 x3_91 (by (try simp only [f91_0, f76_0, f76_1, and_true, true_and, or_true, true_or, implies_true, upn, reduceIte, Nat.reduceEqDiff, ne_eq, not_false_eq_true, upc]) <;> (first | omega | assumption)) (by (try simp only [f91_0, f76_0, f76_1, and_true, true_and, or_true, true_or, implies_true, upn, reduceIte, Nat.reduceEqDiff, ne_eq, not_false_eq_true, upc]) <;> (first | omega | assumption)) (by (try simp only [f91_0, f76_0, f76_1, and_true, true_and, or_true, true_or, implies_true, upn, reduceIte, Nat.reduceEqDiff, ne_eq, not_false_eq_true, upc]) <;> (first | omega | assumption))) ov_X6_exchange ml_X6_67 dX6_nextRow_101 rfl ⟨by decide, by decide⟩ ob_32.1 (by decide) (by decide) rfl (Nat.le_of_ble_eq_true rfl) (fun m101 p101 => ?_)
                      obtain ⟨p101, f101_0, f101_1⟩ := p101
                      try simp only [f101_0, f101_1, f91_0, f76_0, f76_1, e1, e41, e80, and_true, true_and, or_true, true_or, implies_true, upn, reduceIte, Nat.reduceEqDiff, ne_eq, not_false_eq_true, upc] at p101
                      try simp only [f101_0, f91_0, f76_0, f76_1, and_true, true_and, or_true, true_or, implies_true, upn, reduceIte, Nat.reduceEqDiff, ne_eq, not_false_eq_true, upc] at f101_1
                      refine Z_iinc3 hk rfl (by decide) dX6_nextRow_104 ?_
                      refine Z_iinc4 hk rfl (by decide) dX6_nextRow_107 ?_
                      refine Z_goto hk (tgt := 91) dX6_nextRow_110 (by decide) ?_
                      exact ih91 _ _ _ (by exact ⟨(by (exact ⟨(by (try simp only [f101_0, f101_1, f91_0, f76_0, f76_1, e1, e41, e80, and_true, true_and, or_true, true_or, implies_true, upn, reduceIte, Nat.reduceEqDiff, ne_eq, not_false_eq_true, upc, upc]) <;> omega), (by (try simp only [f101_0, f101_1, f91_0, f76_0, f76_1, e1, e41, e80, and_true, true_and, or_true, true_or, implies_true, upn, reduceIte, Nat.reduceEqDiff, ne_eq, not_false_eq_true, upc, upc]) <;> assumption)⟩)), (by intro c k0; simp only [f101_0, f101_1, f91_0, f76_0, f76_1, upc, upn, k0, reduceIte, Nat.reduceEqDiff, ne_eq, not_false_eq_true])⟩) (by (try simp only [f101_0, f101_1, f91_0, f76_0, f76_1, and_true, true_and, or_true, true_or, implies_true, upn, reduceIte, Nat.reduceEqDiff, ne_eq, not_false_eq_true, upc]) <;> (omega))
                refine Z_istore4 hk rfl (by decide) dX6_nextRow_89 ?_
                exact J91 ((((v80 - 1) - (x1_7 + 1) + 6) : Int).toNat + 1) _ _ _ (by exact ⟨(by (exact ⟨(by (try simp only [f76_0, f76_1, e1, e41, e80, and_true, true_and, or_true, true_or, implies_true, upn, reduceIte, Nat.reduceEqDiff, ne_eq, not_false_eq_true, upc, upc]) <;> omega), (by (try simp only [f76_0, f76_1, e1, e41, e80, and_true, true_and, or_true, true_or, implies_true, upn, reduceIte, Nat.reduceEqDiff, ne_eq, not_false_eq_true, upc, upc]) <;> assumption)⟩)), (by intro c k0; simp only [f76_0, f76_1, upc, upn, k0, reduceIte, Nat.reduceEqDiff, ne_eq, not_false_eq_true])⟩) (by omega)
              refine Z_icmp_le hk (tgt := 73) dX6_nextRow_49 (by decide) (by omega) (by omega) (by omega) (by omega) (fun h49 => ?_) (fun h49 => ?_)
              · exact J73 () (by trivial)
              · refine Z_aload0 hk dX6_nextRow_52 ?_
                refine Z_getR hk fl_6_21 dX6_nextRow_53 ob_32.1 ob_32.2.1 ob_32.2.2.1 ob_32.2.2.2 ft_6_5 rs_32_5 ?_
                refine Z_iload2 hk dX6_nextRow_56 ?_
                refine Z_iald hk dX6_nextRow_57 ar_36.1 ar_36.2.1 ar_36.2.2 (by omega) (by omega) (fun v57 e57 a57 b57 => ?_)
                try simp only [e1, e41, and_true, true_and, or_true, true_or, implies_true, upn, reduceIte, Nat.reduceEqDiff, ne_eq, not_false_eq_true, upc] at e57
                refine Z_aload0 hk dX6_nextRow_58 ?_
                refine Z_getR hk fl_6_21 dX6_nextRow_59 ob_32.1 ob_32.2.1 ob_32.2.2.1 ob_32.2.2.2 ft_6_5 rs_32_5 ?_
                refine Z_iload1 hk dX6_nextRow_62 ?_
                refine Z_iald hk dX6_nextRow_63 ar_36.1 ar_36.2.1 ar_36.2.2 (by omega) (by omega) (fun v63 e63 a63 b63 => ?_)
                try simp only [e1, e41, e57, and_true, true_and, or_true, true_or, implies_true, upn, reduceIte, Nat.reduceEqDiff, ne_eq, not_false_eq_true, upc] at e63
                refine Z_icmp_ge hk (tgt := 73) dX6_nextRow_64 (by decide) (by omega) (by omega) (by omega) (by omega) (fun h64 => ?_) (fun h64 => ?_)
                · exact J73 () (by trivial)
                · refine Z_iinc2 hk rfl (by decide) dX6_nextRow_67 ?_
                  refine Z_goto hk (tgt := 47) dX6_nextRow_70 (by decide) ?_
                  exact ih47 _ (by omega) (by (omega))
          refine Z_istore2 hk rfl (by decide) dX6_nextRow_46 ?_
          exact J47 ((((v41 - 1) - x1_7) : Int).toNat + 1) _ (by omega) (by omega)
        · refine Z_iconst hk dX6_nextRow_38 ?_
          exact Z_zret hk hA hQ dX6_nextRow_39 (by decide) (by decide) ⟨rfl, rfl, _, rfl, (by exact ⟨(by (omega)), (by intro c k0; rfl), (by (try simp only [e1, and_true, true_and, or_true, true_or, implies_true, upn, reduceIte, Nat.reduceEqDiff, ne_eq, not_false_eq_true, upc, upc]) <;> (first | assumption | exact h91.2 | exact q2))⟩)⟩
      refine Z_if_lt hk (tgt := 34) dX6_nextRow_8 (by decide) (by omega) (by omega) (fun h8 => ?_) (fun h8 => ?_)
      · exact J34 () (by trivial)
      · refine Z_aload0 hk dX6_nextRow_11 ?_
        refine Z_getR hk fl_6_21 dX6_nextRow_12 ob_32.1 ob_32.2.1 ob_32.2.2.1 ob_32.2.2.2 ft_6_5 rs_32_5 ?_
        refine Z_iload1 hk dX6_nextRow_15 ?_
        refine Z_iald hk dX6_nextRow_16 ar_36.1 ar_36.2.1 ar_36.2.2 (by omega) (by omega) (fun v16 e16 a16 b16 => ?_)
        try simp only [e1, and_true, true_and, or_true, true_or, implies_true, upn, reduceIte, Nat.reduceEqDiff, ne_eq, not_false_eq_true, upc] at e16
        refine Z_aload0 hk dX6_nextRow_17 ?_
        refine Z_getR hk fl_6_21 dX6_nextRow_18 ob_32.1 ob_32.2.1 ob_32.2.2.1 ob_32.2.2.2 ft_6_5 rs_32_5 ?_
        refine Z_iload1 hk dX6_nextRow_21 ?_
        refine Z_iconst hk dX6_nextRow_22 ?_
        refine Z_iadd hk dX6_nextRow_23 ?_
        refine Z_iald hk dX6_nextRow_24 ar_36.1 ar_36.2.1 ar_36.2.2 (by omega) (by omega) (fun v24 e24 a24 b24 => ?_)
        try simp only [e1, e16, and_true, true_and, or_true, true_or, implies_true, upn, reduceIte, Nat.reduceEqDiff, ne_eq, not_false_eq_true, upc] at e24
        refine Z_icmp_le hk (tgt := 34) dX6_nextRow_25 (by decide) (by omega) (by omega) (by omega) (by omega) (fun h25 => ?_) (fun h25 => ?_)
        · exact J34 () (by trivial)
        · refine Z_iinc1 hk rfl (by decide) dX6_nextRow_28 ?_
          refine Z_goto hk (tgt := 7) dX6_nextRow_31 (by decide) ?_
          exact ih7 _ (by omega) (by (omega))
  refine Z_istore1 hk rfl (by decide) dX6_nextRow_6 ?_
  exact J7 ((((v1 - 2) + 1) : Int).toNat + 1) _ (by omega) (by omega)
set_option maxRecDepth 10000 in
theorem c_X6_findBest (l : Launch) (δ : Dp) (ad : Nat → Nat) (M : Mem) (hA : okA δ ad) (hz : NS δ) (q1 : 2 ≤ (M 32 0) ∧ (M 32 0) ≤ 5) (q3 : CB 1000 (M 34)) (q4 : CB 1000 (M 35)) : Mv l δ yX6_findBest cX6_findBest 5 none 2 47 ad rs [.ref (ad 32)] M (fun M' => (True) ∧ (∀ c : Nat, c ≠ 36 → c ≠ 37 → M' c = M c) ∧ (RW (M 32 0) (M' 37))) := by
  refine Mg.of (rm := rmN 2 47) (by decide) (Nat.le_of_ble_eq_true rfl) fun κ _ hk _ => ?_
  generalize hQ : Qg κ δ 121 (rmN 2 47).cells (rmN 2 47).slots _ = Q
  show Zj κ δ ad rs Q 5 (121, 0, 0) 0 [some (.ref (ad 32)), none, none, none, none] [] M
  refine Z_iconst hk dX6_findBest_0 ?_
  have J2 : ∀ (n : Nat) (x1_2 : Int) (m2 : Mem), (((0 ≤ x1_2 ∧ x1_2 ≤ (M 32 0)) ∧ ∀ j : Nat, (j : Int) < x1_2 → m2 36 j = j) ∧ (∀ c : Nat, c ≠ 36 → m2 c = M c)) → ((M 32 0) - x1_2) < (n : Int) → Zj κ δ ad rs Q 5 (121, 0, 0) 2 [some (.ref (ad 32)), some (iv x1_2), none, none, none] [] m2 := by
    intro n
    induction n with
    | zero => intro x1_2 m2 h2 hm2; exfalso; obtain ⟨h2, -⟩ := h2; omega
    | succ n ih2 =>
      intro x1_2 m2 h2 hm2
      obtain ⟨h2, f2_0⟩ := h2
      try simp only [f2_0, and_true, true_and, or_true, true_or, implies_true, upn, reduceIte, Nat.reduceEqDiff, ne_eq, not_false_eq_true, upc] at h2 hm2
      refine Z_iload1 hk dX6_findBest_2 ?_
      refine Z_aload0 hk dX6_findBest_3 ?_
      refine Z_getI hk fl_6_27 dX6_findBest_4 ob_32.1 ob_32.2.1 ob_32.2.2.1 ob_32.2.2.2 ft_6_0 (fun v4 e4 a4 b4 => ?_)
      try simp only [f2_0, and_true, true_and, or_true, true_or, implies_true, upn, reduceIte, Nat.reduceEqDiff, ne_eq, not_false_eq_true, upc] at e4
      refine Z_icmp_ge hk (tgt := 23) dX6_findBest_7 (by decide) (by omega) (by omega) (by omega) (by omega) (fun h7 => ?_) (fun h7 => ?_)
      · refine Z_ldc hk (n := 2147483647) (mem_g (by decide +kernel)) dX6_findBest_23 ?_
        refine Z_istore1 hk rfl (by decide) dX6_findBest_25 ?_
        refine Z_iconst hk dX6_findBest_26 ?_
        refine Z_istore2 hk rfl (by decide) dX6_findBest_27 ?_
        refine Z_iconst hk dX6_findBest_28 ?_
        have J30 : ∀ (n : Nat) (x1_30 : Int) (x2_30 : Int) (x3_30 : Int) (m30 : Mem), (((0 ≤ x3_30 ∧ x3_30 ≤ 120 ∧ 0 ≤ x2_30 ∧ x2_30 ≤ 1 ∧ -2147483648 ≤ x1_30 ∧ x1_30 ≤ 2147483647 ∧ (x3_30 = 0 → x1_30 = 2147483647 ∧ x2_30 = 1)) ∧ RW (M 32 0) (m30 36) ∧ Imp (1 ≤ x3_30) (RW (M 32 0) (m30 37))) ∧ (∀ c : Nat, c ≠ 36 → c ≠ 37 → m30 c = m2 c)) → (120 - x3_30) < (n : Int) → Zj κ δ ad rs Q 5 (121, 0, 0) 30 [some (.ref (ad 32)), some (iv x1_30), some (iv x2_30), some (iv x3_30), none] [] m30 := by
          intro n
          induction n with
          | zero => intro x1_30 x2_30 x3_30 m30 h30 hm30; exfalso; obtain ⟨h30, -⟩ := h30; obtain ⟨h30, -⟩ := h30; omega
          | succ n ih30 =>
            intro x1_30 x2_30 x3_30 m30 h30 hm30
            obtain ⟨h30, f30_0⟩ := h30
            try simp only [f30_0, f2_0, and_true, true_and, or_true, true_or, implies_true, upn, reduceIte, Nat.reduceEqDiff, ne_eq, not_false_eq_true, upc] at h30 hm30
            obtain ⟨h30, h30b, h30c⟩ := h30
            refine Z_iload3 hk dX6_findBest_30 ?_
            refine Z_bipush hk dX6_findBest_31 (by decide) ?_
            refine Z_icmp_ge hk (tgt := 80) dX6_findBest_33 (by decide) (by omega) (by omega) (by decide) (by decide) (fun h33 => ?_) (fun h33 => ?_)
            · exact Z_vret hk hA hQ dX6_findBest_80 ⟨rfl, rfl, rfl, (by exact ⟨(by (try simp only [f30_0, f2_0, and_true, true_and, or_true, true_or, implies_true, upn, reduceIte, Nat.reduceEqDiff, ne_eq, not_false_eq_true, upc]) <;> (trivial)), (by intro c k0 k1; simp only [f30_0, f2_0, upc, upn, k0, k1, reduceIte, Nat.reduceEqDiff, ne_eq, not_false_eq_true]), (by (try simp only [f30_0, f2_0, e4, and_true, true_and, or_true, true_or, implies_true, upn, reduceIte, Nat.reduceEqDiff, ne_eq, not_false_eq_true, upc, upc]) <;> exact h30c (by omega))⟩)⟩
            · refine Z_iload2 hk dX6_findBest_36 ?_
              refine Z_if_eq hk (tgt := 80) dX6_findBest_37 (by decide) (by omega) (by omega) (fun h37 => ?_) (fun h37 => ?_)
              · exact Z_vret hk hA hQ dX6_findBest_80 ⟨rfl, rfl, rfl, (by exact ⟨(by (try simp only [f30_0, f2_0, and_true, true_and, or_true, true_or, implies_true, upn, reduceIte, Nat.reduceEqDiff, ne_eq, not_false_eq_true, upc]) <;> (trivial)), (by intro c k0 k1; simp only [f30_0, f2_0, upc, upn, k0, k1, reduceIte, Nat.reduceEqDiff, ne_eq, not_false_eq_true]), (by (try simp only [f30_0, f2_0, e4, and_true, true_and, or_true, true_or, implies_true, upn, reduceIte, Nat.reduceEqDiff, ne_eq, not_false_eq_true, upc, upc]) <;> exact h30c (by omega))⟩)⟩
              · refine Z_aload0 hk dX6_findBest_40 ?_
                refine Z_Vi hk (c_X6_sumOfCounts κ.2.1 δ ad _ hA  (by (try simp only [f30_0, f2_0, and_true, true_and, or_true, true_or, implies_true, upn, reduceIte, Nat.reduceEqDiff, ne_eq, not_false_eq_true, upc]) <;> (first | omega | assumption)) (by (try simp only [f30_0, f2_0, and_true, true_and, or_true, true_or, implies_true, upn, reduceIte, Nat.reduceEqDiff, ne_eq, not_false_eq_true, upc]) <;> (first | omega | assumption)) (by (try simp only [f30_0, f2_0, and_true, true_and, or_true, true_or, implies_true, upn, reduceIte, Nat.reduceEqDiff, ne_eq, not_false_eq_true, upc]) <;> (first | omega | assumption)) (by (try simp only [f30_0, f2_0, and_true, true_and, or_true, true_or, implies_true, upn, reduceIte, Nat.reduceEqDiff, ne_eq, not_false_eq_true, upc]) <;> (first | omega | assumption))) ov_X6_sumOfCounts ml_X6_54 dX6_findBest_41 rfl ⟨by decide, by decide⟩ ob_32.1 (by decide) (by decide) rfl (Nat.le_of_ble_eq_true rfl) (fun r41 m41 p41 => ?_)
                obtain ⟨rfl, p41⟩ := p41
                try simp only [f30_0, f2_0, e4, and_true, true_and, or_true, true_or, implies_true, upn, reduceIte, Nat.reduceEqDiff, ne_eq, not_false_eq_true, upc] at p41
                refine Z_istore4 hk rfl (by decide) dX6_findBest_44 ?_
                refine Z_iload4 hk dX6_findBest_46 ?_
                refine Z_iload1 hk dX6_findBest_48 ?_
                have J69 : ∀ (x1_69 : Int) (m69 : Mem), (((-2147483648 ≤ x1_69 ∧ x1_69 ≤ 2147483647) ∧ RW (M 32 0) (m69 37)) ∧ (∀ c : Nat, c ≠ 37 → m69 c = m30 c)) → Zj κ δ ad rs Q 5 (121, 0, 0) 69 [some (.ref (ad 32)), some (iv x1_69), some (iv x2_30), some (iv x3_30), some (iv r41)] [] m69 := by
                  intro x1_69 m69 h69
                  obtain ⟨h69, f69_0⟩ := h69
                  try simp only [f69_0, f30_0, f2_0, and_true, true_and, or_true, true_or, implies_true, upn, reduceIte, Nat.reduceEqDiff, ne_eq, not_false_eq_true, upc] at h69
                  refine Z_aload0 hk dX6_findBest_69 ?_
                  refine Z_Vi hk (c_X6_nextRow κ.2.1 δ ad _ hA  (by (try simp only [f69_0, f30_0, f2_0, and_true, true_and, or_true, true_or, implies_true, upn, reduceIte, Nat.reduceEqDiff, ne_eq, not_false_eq_true, upc]) <;> (first | omega | assumption)) (by (try simp only [f69_0, f30_0, f2_0, and_true, true_and, or_true, true_or, implies_true, upn, reduceIte, Nat.reduceEqDiff, ne_eq, not_false_eq_true, upc]) <;> (first | omega | assumption))) ov_X6_nextRow ml_X6_63 dX6_findBest_70 rfl ⟨by decide, by decide⟩ ob_32.1 (by decide) (by decide) rfl (Nat.le_of_ble_eq_true rfl) (fun r70 m70 p70 => ?_)
                  obtain ⟨p70, f70_0, f70_1⟩ := p70
                  try simp only [f70_0, f70_1, f69_0, f30_0, f2_0, e4, and_true, true_and, or_true, true_or, implies_true, upn, reduceIte, Nat.reduceEqDiff, ne_eq, not_false_eq_true, upc] at p70
                  try simp only [f70_0, f69_0, f30_0, f2_0, and_true, true_and, or_true, true_or, implies_true, upn, reduceIte, Nat.reduceEqDiff, ne_eq, not_false_eq_true, upc] at f70_1
                  refine Z_istore2 hk rfl (by decide) dX6_findBest_73 ?_
                  refine Z_iinc3 hk rfl (by decide) dX6_findBest_74 ?_
                  refine Z_goto hk (tgt := 30) dX6_findBest_77 (by decide) ?_
                  refine Z_drop4 ?_
                  exact ih30 _ _ _ _ (by exact ⟨(by (exact ⟨(by (try simp only [f70_0, f70_1, f69_0, f30_0, f2_0, e4, and_true, true_and, or_true, true_or, implies_true, upn, reduceIte, Nat.reduceEqDiff, ne_eq, not_false_eq_true, upc, upc]) <;> omega), (by (try simp only [f70_0, f70_1, f69_0, f30_0, f2_0, e4, and_true, true_and, or_true, true_or, implies_true, upn, reduceIte, Nat.reduceEqDiff, ne_eq, not_false_eq_true, upc, upc]) <;> assumption), fun _ => by (try simp only [f70_0, f70_1, f69_0, f30_0, f2_0, e4, and_true, true_and, or_true, true_or, implies_true, upn, reduceIte, Nat.reduceEqDiff, ne_eq, not_false_eq_true, upc, upc]) <;> exact h69.2⟩)), (by intro c k0 k1; simp only [f70_0, f70_1, f69_0, f30_0, f2_0, upc, upn, k0, k1, reduceIte, Nat.reduceEqDiff, ne_eq, not_false_eq_true])⟩) (by (try simp only [f70_0, f70_1, f69_0, f30_0, f2_0, and_true, true_and, or_true, true_or, implies_true, upn, reduceIte, Nat.reduceEqDiff, ne_eq, not_false_eq_true, upc]) <;> (omega))
                refine Z_icmp_ge hk (tgt := 69) dX6_findBest_49 (by decide) (by omega) (by omega) (by omega) (by omega) (fun h49 => ?_) (fun h49 => ?_)
                · exact J69 _ _ (by exact ⟨(by (exact ⟨by omega, h30c (by omega)⟩)), (by intro c k0; simp only [f30_0, f2_0, upc, upn, k0, reduceIte, Nat.reduceEqDiff, ne_eq, not_false_eq_true])⟩)
                · refine Z_iload4 hk dX6_findBest_52 ?_
                  refine Z_istore1 hk rfl (by decide) dX6_findBest_54 ?_
                  refine Z_aload0 hk dX6_findBest_55 ?_
                  refine Z_getR hk fl_6_21 dX6_findBest_56 ob_32.1 ob_32.2.1 ob_32.2.2.1 ob_32.2.2.2 ft_6_5 rs_32_5 ?_
                  refine Z_iconst hk dX6_findBest_59 ?_
                  refine Z_aload0 hk dX6_findBest_60 ?_
                  refine Z_getR hk fl_6_24 dX6_findBest_61 ob_32.1 ob_32.2.1 ob_32.2.2.1 ob_32.2.2.2 ft_6_6 rs_32_6 ?_
                  refine Z_iconst hk dX6_findBest_64 ?_
                  refine Z_iconst hk dX6_findBest_65 ?_
                  refine Z_acopy hk hA hz dX6_findBest_66 (by decide) (by decide) rfl (fun m66 f66_0 c66 => ?_)
                  exact J69 _ _ (by exact ⟨(by (exact ⟨by omega, fun j hj => by rw [c66 j (by omega)]; exact h30b j hj⟩)), (by intro c k0; simp only [f66_0, f30_0, f2_0, upc, upn, k0, reduceIte, Nat.reduceEqDiff, ne_eq, not_false_eq_true])⟩)
        refine Z_istore3 hk rfl (by decide) dX6_findBest_29 ?_
        exact J30 (((120 - 0) : Int).toNat + 1) _ _ _ _ (by exact ⟨(by (exact ⟨by omega, (fun j hj => by rw [h2.2 j (by omega)]; omega), fun z => by omega⟩)), (by intro c k0 k1; simp only [f2_0, upc, upn, k0, k1, reduceIte, Nat.reduceEqDiff, ne_eq, not_false_eq_true])⟩) (by omega)
      · refine Z_aload0 hk dX6_findBest_10 ?_
        refine Z_getR hk fl_6_21 dX6_findBest_11 ob_32.1 ob_32.2.1 ob_32.2.2.1 ob_32.2.2.2 ft_6_5 rs_32_5 ?_
        refine Z_iload1 hk dX6_findBest_14 ?_
        refine Z_iload1 hk dX6_findBest_15 ?_
        refine Z_iast hk hA dX6_findBest_16 ar_36.1 ar_36.2.1 ar_36.2.2 (by omega) (by omega) (by omega) (by omega) ?_
        refine Z_nm (fun m16 em16 => ?_)
        refine Z_iinc1 hk rfl (by decide) dX6_findBest_17 ?_
        refine Z_goto hk (tgt := 2) dX6_findBest_20 (by decide) ?_
        exact ih2 _ _ (by exact ⟨(by (exact ⟨by omega, fun j hj => by simp only [em16, f2_0, e4, and_true, true_and, or_true, true_or, implies_true, upn, reduceIte, Nat.reduceEqDiff, ne_eq, not_false_eq_true, upc, upc]; split; omega; exact h2.2 j (by omega)⟩)), (by intro c k0; simp only [em16, f2_0, upc, upn, k0, reduceIte, Nat.reduceEqDiff, ne_eq, not_false_eq_true])⟩) (by (try simp only [em16, f2_0, and_true, true_and, or_true, true_or, implies_true, upn, reduceIte, Nat.reduceEqDiff, ne_eq, not_false_eq_true, upc]) <;> (omega))
  refine Z_istore1 hk rfl (by decide) dX6_findBest_1 ?_
  exact J2 ((((M 32 0) - 0) : Int).toNat + 1) _ _ (by exact ⟨(by (exact ⟨by omega, fun j hj => by omega⟩)), (by intro c k0; rfl)⟩) (by omega)
set_option maxRecDepth 10000 in
theorem c_X6_append_b37 (l : Launch) (δ : Dp) (ad : Nat → Nat) (M : Mem) (hA : okA δ ad) (q1 : 2 ≤ (M 32 0) ∧ (M 32 0) ≤ 5) (q0 : 0 ≤ (M 32 1) ∧ (M 32 1) ≤ 30) (q2 : RW (M 32 0) (M 37)) (q3 : CB (5 * M 32 1) (M 34)) (q4 : CB (5 * M 32 1) (M 35)) : Mv l δ yX6_append cX6_append 3 none 0 0 ad rs [.ref (ad 32), .ref (ad 37)] M (fun M' => ((M 32 1) ≤ (M' 32 1) ∧ (M' 32 1) ≤ 30) ∧ (∀ c : Nat, c ≠ 32 → c ≠ 33 → c ≠ 34 → c ≠ 35 → M' c = M c) ∧ (∀ i : Nat, i ≠ 1 → M' 32 i = M 32 i) ∧ (CB (5 * M' 32 1) (M' 34)) ∧ (CB (5 * M' 32 1) (M' 35))) := by
  refine Mg.of (rm := rmN 0 0) (by decide) (Nat.le_of_ble_eq_true rfl) fun κ _ hk _ => ?_
  generalize hQ : Qg κ δ 121 (rmN 0 0).cells (rmN 0 0).slots _ = Q
  show Zj κ δ ad rs Q 3 (121, 0, 0) 0 [some (.ref (ad 32)), some (.ref (ad 37)), none] [] M
  refine Z_aload0 hk dX6_append_0 ?_
  refine Z_getI hk fl_6_31 dX6_append_1 ob_32.1 ob_32.2.1 ob_32.2.2.1 ob_32.2.2.2 ft_6_1 (fun v1 e1 a1 b1 => ?_)
  refine Z_bipush hk dX6_append_4 (by decide) ?_
  refine Z_icmp_lt hk (tgt := 10) dX6_append_6 (by decide) (by omega) (by omega) (by decide) (by decide) (fun h6 => ?_) (fun h6 => ?_)
  · refine Z_iconst hk dX6_append_10 ?_
    have J12 : ∀ (n : Nat) (x2_12 : Int) (m12 : Mem), (((0 ≤ x2_12 ∧ x2_12 ≤ (M 32 0)) ∧ CB (5 * M 32 1 + x2_12) (m12 34) ∧ CB (5 * M 32 1 + x2_12) (m12 35)) ∧ (∀ c : Nat, c ≠ 33 → c ≠ 34 → c ≠ 35 → m12 c = M c)) → ((M 32 0) - x2_12) < (n : Int) → Zj κ δ ad rs Q 3 (121, 0, 0) 12 [some (.ref (ad 32)), some (.ref (ad 37)), some (iv x2_12)] [] m12 := by
      intro n
      induction n with
      | zero => intro x2_12 m12 h12 hm12; exfalso; obtain ⟨h12, -⟩ := h12; obtain ⟨h12, -⟩ := h12; omega
      | succ n ih12 =>
        intro x2_12 m12 h12 hm12
        obtain ⟨h12, f12_0⟩ := h12
        try simp only [f12_0, and_true, true_and, or_true, true_or, implies_true, upn, reduceIte, Nat.reduceEqDiff, ne_eq, not_false_eq_true, upc] at h12 hm12
        obtain ⟨h12, h12b, h12c⟩ := h12
        refine Z_iload2 hk dX6_append_12 ?_
        refine Z_aload0 hk dX6_append_13 ?_
        refine Z_getI hk fl_6_27 dX6_append_14 ob_32.1 ob_32.2.1 ob_32.2.2.1 ob_32.2.2.2 ft_6_0 (fun v14 e14 a14 b14 => ?_)
        try simp only [f12_0, e1, and_true, true_and, or_true, true_or, implies_true, upn, reduceIte, Nat.reduceEqDiff, ne_eq, not_false_eq_true, upc] at e14
        refine Z_icmp_ge hk (tgt := 82) dX6_append_17 (by decide) (by omega) (by omega) (by omega) (by omega) (fun h17 => ?_) (fun h17 => ?_)
        · refine Z_aload0 hk dX6_append_82 ?_
          refine Z_dup1 hk rfl dX6_append_83 ?_
          refine Z_getI hk fl_6_31 dX6_append_84 ob_32.1 ob_32.2.1 ob_32.2.2.1 ob_32.2.2.2 ft_6_1 (fun v84 e84 a84 b84 => ?_)
          try simp only [f12_0, e1, e14, and_true, true_and, or_true, true_or, implies_true, upn, reduceIte, Nat.reduceEqDiff, ne_eq, not_false_eq_true, upc] at e84
          refine Z_iconst hk dX6_append_87 ?_
          refine Z_iadd hk dX6_append_88 ?_
          refine Z_putI hk hA fl_6_31 dX6_append_89 ob_32.1 ob_32.2.1 ob_32.2.2.1 ob_32.2.2.2 ft_6_1 (by omega) (by omega) ?_
          refine Z_nm (fun m89 em89 => ?_)
          exact Z_vret hk hA hQ dX6_append_92 ⟨rfl, rfl, rfl, (by exact ⟨(by (try simp only [em89, f12_0, and_true, true_and, or_true, true_or, implies_true, upn, reduceIte, Nat.reduceEqDiff, ne_eq, not_false_eq_true, upc]) <;> (omega)), (by intro c k0 k1 k2 k3; simp only [em89, f12_0, upc, upn, k0, k1, k2, k3, reduceIte, Nat.reduceEqDiff, ne_eq, not_false_eq_true]), (by intro i k0; simp only [em89, f12_0, upc, upn, k0, reduceIte, Nat.reduceEqDiff, ne_eq, not_false_eq_true]), (by first | exact q3 | (simp only [em89, f12_0, e1, e14, e84, and_true, true_and, or_true, true_or, implies_true, upn, reduceIte, Nat.reduceEqDiff, ne_eq, not_false_eq_true, upc, upc]; exact h12b.mono (by omega))), (by first | exact q4 | (simp only [em89, f12_0, e1, e14, e84, and_true, true_and, or_true, true_or, implies_true, upn, reduceIte, Nat.reduceEqDiff, ne_eq, not_false_eq_true, upc, upc]; exact h12c.mono (by omega)))⟩)⟩
        · refine Z_aload0 hk dX6_append_20 ?_
          refine Z_getR hk fl_6_11 dX6_append_21 ob_32.1 ob_32.2.1 ob_32.2.2.1 ob_32.2.2.2 ft_6_2 rs_32_2 ?_
          refine Z_aload0 hk dX6_append_24 ?_
          refine Z_getI hk fl_6_31 dX6_append_25 ob_32.1 ob_32.2.1 ob_32.2.2.1 ob_32.2.2.2 ft_6_1 (fun v25 e25 a25 b25 => ?_)
          try simp only [f12_0, e1, e14, and_true, true_and, or_true, true_or, implies_true, upn, reduceIte, Nat.reduceEqDiff, ne_eq, not_false_eq_true, upc] at e25
          refine Z_iconst hk dX6_append_28 ?_
          refine Z_imul hk dX6_append_29 ?_
          refine Z_iload2 hk dX6_append_30 ?_
          refine Z_iadd hk dX6_append_31 ?_
          refine Z_aload1 hk dX6_append_32 ?_
          refine Z_iload2 hk dX6_append_33 ?_
          refine Z_iald hk dX6_append_34 ar_37.1 ar_37.2.1 ar_37.2.2 (by omega) (by omega) (fun v34 e34 a34 b34 => ?_)
          try simp only [f12_0, e1, e14, e25, and_true, true_and, or_true, true_or, implies_true, upn, reduceIte, Nat.reduceEqDiff, ne_eq, not_false_eq_true, upc] at e34
          have g34 := q2 x2_12.toNat (by omega)
          rw [← e34] at g34
          refine Z_iast hk hA dX6_append_35 ar_33.1 ar_33.2.1 ar_33.2.2 (by omega) (by omega) (by omega) (by omega) ?_
          refine Z_nm (fun m35 em35 => ?_)
          refine Z_aload0 hk dX6_append_36 ?_
          refine Z_getR hk fl_6_15 dX6_append_37 ob_32.1 ob_32.2.1 ob_32.2.2.1 ob_32.2.2.2 ft_6_3 rs_32_3 ?_
          refine Z_aload1 hk dX6_append_40 ?_
          refine Z_iload2 hk dX6_append_41 ?_
          refine Z_iald hk dX6_append_42 ar_37.1 ar_37.2.1 ar_37.2.2 (by omega) (by omega) (fun v42 e42 a42 b42 => ?_)
          try simp only [em35, f12_0, e1, e14, e25, e34, and_true, true_and, or_true, true_or, implies_true, upn, reduceIte, Nat.reduceEqDiff, ne_eq, not_false_eq_true, upc] at e42
          have g42 := q2 x2_12.toNat (by omega)
          rw [← e42] at g42
          refine Z_iconst hk dX6_append_43 ?_
          refine Z_imul hk dX6_append_44 ?_
          refine Z_iload2 hk dX6_append_45 ?_
          refine Z_iadd hk dX6_append_46 ?_
          refine Z_dup2 hk rfl rfl dX6_append_47 ?_
          refine Z_iald hk dX6_append_48 ar_34.1 ar_34.2.1 ar_34.2.2 (by omega) (by omega) (fun v48 e48 a48 b48 => ?_)
          try simp only [em35, f12_0, e1, e14, e25, e34, e42, and_true, true_and, or_true, true_or, implies_true, upn, reduceIte, Nat.reduceEqDiff, ne_eq, not_false_eq_true, upc] at e48
          refine Z_iconst hk dX6_append_49 ?_
          refine Z_iadd hk dX6_append_50 ?_
          refine Z_wI (fun w50 a50w b50w g50w => ?_)
          refine Z_iast hk hA dX6_append_51 ar_34.1 ar_34.2.1 ar_34.2.2 (by omega) (by omega) (by omega) (by omega) ?_
          refine Z_nm (fun m51 em51 => ?_)
          refine Z_iload2 hk dX6_append_52 ?_
          have J76 : ∀ (m76 : Mem), ((CB (5 * M 32 1 + (x2_12 + 1)) (m76 35)) ∧ (∀ c : Nat, c ≠ 35 → m76 c = m51 c)) → Zj κ δ ad rs Q 3 (121, 0, 0) 76 [some (.ref (ad 32)), some (.ref (ad 37)), some (iv x2_12)] [] m76 := by
            intro m76 h76
            obtain ⟨h76, f76_0⟩ := h76
            try simp only [f76_0, em51, em35, f12_0, and_true, true_and, or_true, true_or, implies_true, upn, reduceIte, Nat.reduceEqDiff, ne_eq, not_false_eq_true, upc] at h76
            refine Z_iinc2 hk rfl (by decide) dX6_append_76 ?_
            refine Z_goto hk (tgt := 12) dX6_append_79 (by decide) ?_
            exact ih12 _ _ (by exact ⟨(by (exact ⟨by omega, (by (try simp only [f76_0, em51, em35, f12_0, e1, e14, e25, e34, e42, e48, and_true, true_and, or_true, true_or, implies_true, upn, reduceIte, Nat.reduceEqDiff, ne_eq, not_false_eq_true, upc, upc]); rw [show 5 * M 32 1 + (x2_12 + 1) = 5 * M 32 1 + x2_12 + 1 from by omega]; exact h12b.put (by have := h12b (v42 * 5 + x2_12).toNat (by omega); (try simp only [f76_0, em51, em35, f12_0, e1, e14, e25, e34, e42, e48, and_true, true_and, or_true, true_or, implies_true, upn, reduceIte, Nat.reduceEqDiff, ne_eq, not_false_eq_true, upc, upc] at this); omega)), h76⟩)), (by intro c k0 k1 k2; simp only [f76_0, em51, em35, f12_0, upc, upn, k0, k1, k2, reduceIte, Nat.reduceEqDiff, ne_eq, not_false_eq_true])⟩) (by (try simp only [f76_0, em51, em35, f12_0, and_true, true_and, or_true, true_or, implies_true, upn, reduceIte, Nat.reduceEqDiff, ne_eq, not_false_eq_true, upc]) <;> (omega))
          refine Z_if_le hk (tgt := 76) dX6_append_53 (by decide) (by omega) (by omega) (fun h53 => ?_) (fun h53 => ?_)
          · exact J76 _ (by exact ⟨(by (simp only [em51, em35, f12_0, e1, e14, e25, e34, e42, e48, and_true, true_and, or_true, true_or, implies_true, upn, reduceIte, Nat.reduceEqDiff, ne_eq, not_false_eq_true, upc, upc]; exact h12c.mono (by omega))), (by intro c k0; simp only [em51, em35, f12_0, upc, upn, k0, reduceIte, Nat.reduceEqDiff, ne_eq, not_false_eq_true])⟩)
          · refine Z_aload0 hk dX6_append_56 ?_
            refine Z_getR hk fl_6_18 dX6_append_57 ob_32.1 ob_32.2.1 ob_32.2.2.1 ob_32.2.2.2 ft_6_4 rs_32_4 ?_
            refine Z_aload1 hk dX6_append_60 ?_
            refine Z_iload2 hk dX6_append_61 ?_
            refine Z_iconst hk dX6_append_62 ?_
            refine Z_isub hk dX6_append_63 ?_
            refine Z_iald hk dX6_append_64 ar_37.1 ar_37.2.1 ar_37.2.2 (by omega) (by omega) (fun v64 e64 a64 b64 => ?_)
            try simp only [em51, em35, f12_0, e1, e14, e25, e34, e42, e48, and_true, true_and, or_true, true_or, implies_true, upn, reduceIte, Nat.reduceEqDiff, ne_eq, not_false_eq_true, upc] at e64
            have g64 := q2 (x2_12 - 1).toNat (by omega)
            rw [← e64] at g64
            refine Z_iconst hk dX6_append_65 ?_
            refine Z_imul hk dX6_append_66 ?_
            refine Z_aload1 hk dX6_append_67 ?_
            refine Z_iload2 hk dX6_append_68 ?_
            refine Z_iald hk dX6_append_69 ar_37.1 ar_37.2.1 ar_37.2.2 (by omega) (by omega) (fun v69 e69 a69 b69 => ?_)
            try simp only [em51, em35, f12_0, e1, e14, e25, e34, e42, e48, e64, and_true, true_and, or_true, true_or, implies_true, upn, reduceIte, Nat.reduceEqDiff, ne_eq, not_false_eq_true, upc] at e69
            have g69 := q2 x2_12.toNat (by omega)
            rw [← e69] at g69
            refine Z_iadd hk dX6_append_70 ?_
            refine Z_dup2 hk rfl rfl dX6_append_71 ?_
            refine Z_iald hk dX6_append_72 ar_35.1 ar_35.2.1 ar_35.2.2 (by omega) (by omega) (fun v72 e72 a72 b72 => ?_)
            try simp only [em51, em35, f12_0, e1, e14, e25, e34, e42, e48, e64, e69, and_true, true_and, or_true, true_or, implies_true, upn, reduceIte, Nat.reduceEqDiff, ne_eq, not_false_eq_true, upc] at e72
            refine Z_iconst hk dX6_append_73 ?_
            refine Z_iadd hk dX6_append_74 ?_
            refine Z_wI (fun w74 a74w b74w g74w => ?_)
            refine Z_iast hk hA dX6_append_75 ar_35.1 ar_35.2.1 ar_35.2.2 (by omega) (by omega) (by omega) (by omega) ?_
            refine Z_nm (fun m75 em75 => ?_)
            exact J76 _ (by exact ⟨(by (simp only [em75, em51, em35, f12_0, e1, e14, e25, e34, e42, e48, e64, e69, e72, and_true, true_and, or_true, true_or, implies_true, upn, reduceIte, Nat.reduceEqDiff, ne_eq, not_false_eq_true, upc, upc]; rw [show 5 * M 32 1 + (x2_12 + 1) = 5 * M 32 1 + x2_12 + 1 from by omega]; exact h12c.put (by have := h12c (v64 * 5 + v69).toNat (by omega); (try simp only [em75, em51, em35, f12_0, e1, e14, e25, e34, e42, e48, e64, e69, e72, and_true, true_and, or_true, true_or, implies_true, upn, reduceIte, Nat.reduceEqDiff, ne_eq, not_false_eq_true, upc, upc] at this); omega))), (by intro c k0; simp only [em75, em51, em35, f12_0, upc, upn, k0, reduceIte, Nat.reduceEqDiff, ne_eq, not_false_eq_true])⟩)
    refine Z_istore2 hk rfl (by decide) dX6_append_11 ?_
    exact J12 ((((M 32 0) - 0) : Int).toNat + 1) _ _ (by exact ⟨(by (exact ⟨by omega, q3.mono (by omega), q4.mono (by omega)⟩)), (by intro c k0 k1 k2; rfl)⟩) (by omega)
  · exact Z_vret hk hA hQ dX6_append_9 ⟨rfl, rfl, rfl, (by exact ⟨(by (omega)), (by intro c k0 k1 k2 k3; rfl), (by intro i k0; rfl), (by first | exact q3 | (simp only [e1, and_true, true_and, or_true, true_or, implies_true, upn, reduceIte, Nat.reduceEqDiff, ne_eq, not_false_eq_true, upc, upc]; exact h12b.mono (by omega))), (by first | exact q4 | (simp only [e1, and_true, true_and, or_true, true_or, implies_true, upn, reduceIte, Nat.reduceEqDiff, ne_eq, not_false_eq_true, upc, upc]; exact h12c.mono (by omega)))⟩)⟩
set_option maxRecDepth 10000 in
theorem c_X6_append_b36 (l : Launch) (δ : Dp) (ad : Nat → Nat) (M : Mem) (hA : okA δ ad) (q1 : 2 ≤ (M 32 0) ∧ (M 32 0) ≤ 5) (q0 : 0 ≤ (M 32 1) ∧ (M 32 1) ≤ 30) (q2 : RW (M 32 0) (M 36)) (q3 : CB (5 * M 32 1) (M 34)) (q4 : CB (5 * M 32 1) (M 35)) : Mv l δ yX6_append cX6_append 3 none 0 0 ad rs [.ref (ad 32), .ref (ad 36)] M (fun M' => ((M 32 1) ≤ (M' 32 1) ∧ (M' 32 1) ≤ 30) ∧ (∀ c : Nat, c ≠ 32 → c ≠ 33 → c ≠ 34 → c ≠ 35 → M' c = M c) ∧ (∀ i : Nat, i ≠ 1 → M' 32 i = M 32 i) ∧ (CB (5 * M' 32 1) (M' 34)) ∧ (CB (5 * M' 32 1) (M' 35))) := by
  refine Mg.of (rm := rmN 0 0) (by decide) (Nat.le_of_ble_eq_true rfl) fun κ _ hk _ => ?_
  generalize hQ : Qg κ δ 121 (rmN 0 0).cells (rmN 0 0).slots _ = Q
  show Zj κ δ ad rs Q 3 (121, 0, 0) 0 [some (.ref (ad 32)), some (.ref (ad 36)), none] [] M
  refine Z_aload0 hk dX6_append_0 ?_
  refine Z_getI hk fl_6_31 dX6_append_1 ob_32.1 ob_32.2.1 ob_32.2.2.1 ob_32.2.2.2 ft_6_1 (fun v1 e1 a1 b1 => ?_)
  refine Z_bipush hk dX6_append_4 (by decide) ?_
  refine Z_icmp_lt hk (tgt := 10) dX6_append_6 (by decide) (by omega) (by omega) (by decide) (by decide) (fun h6 => ?_) (fun h6 => ?_)
  · refine Z_iconst hk dX6_append_10 ?_
    have J12 : ∀ (n : Nat) (x2_12 : Int) (m12 : Mem), (((0 ≤ x2_12 ∧ x2_12 ≤ (M 32 0)) ∧ CB (5 * M 32 1 + x2_12) (m12 34) ∧ CB (5 * M 32 1 + x2_12) (m12 35)) ∧ (∀ c : Nat, c ≠ 33 → c ≠ 34 → c ≠ 35 → m12 c = M c)) → ((M 32 0) - x2_12) < (n : Int) → Zj κ δ ad rs Q 3 (121, 0, 0) 12 [some (.ref (ad 32)), some (.ref (ad 36)), some (iv x2_12)] [] m12 := by
      intro n
      induction n with
      | zero => intro x2_12 m12 h12 hm12; exfalso; obtain ⟨h12, -⟩ := h12; obtain ⟨h12, -⟩ := h12; omega
      | succ n ih12 =>
        intro x2_12 m12 h12 hm12
        obtain ⟨h12, f12_0⟩ := h12
        try simp only [f12_0, and_true, true_and, or_true, true_or, implies_true, upn, reduceIte, Nat.reduceEqDiff, ne_eq, not_false_eq_true, upc] at h12 hm12
        obtain ⟨h12, h12b, h12c⟩ := h12
        refine Z_iload2 hk dX6_append_12 ?_
        refine Z_aload0 hk dX6_append_13 ?_
        refine Z_getI hk fl_6_27 dX6_append_14 ob_32.1 ob_32.2.1 ob_32.2.2.1 ob_32.2.2.2 ft_6_0 (fun v14 e14 a14 b14 => ?_)
        try simp only [f12_0, e1, and_true, true_and, or_true, true_or, implies_true, upn, reduceIte, Nat.reduceEqDiff, ne_eq, not_false_eq_true, upc] at e14
        refine Z_icmp_ge hk (tgt := 82) dX6_append_17 (by decide) (by omega) (by omega) (by omega) (by omega) (fun h17 => ?_) (fun h17 => ?_)
        · refine Z_aload0 hk dX6_append_82 ?_
          refine Z_dup1 hk rfl dX6_append_83 ?_
          refine Z_getI hk fl_6_31 dX6_append_84 ob_32.1 ob_32.2.1 ob_32.2.2.1 ob_32.2.2.2 ft_6_1 (fun v84 e84 a84 b84 => ?_)
          try simp only [f12_0, e1, e14, and_true, true_and, or_true, true_or, implies_true, upn, reduceIte, Nat.reduceEqDiff, ne_eq, not_false_eq_true, upc] at e84
          refine Z_iconst hk dX6_append_87 ?_
          refine Z_iadd hk dX6_append_88 ?_
          refine Z_putI hk hA fl_6_31 dX6_append_89 ob_32.1 ob_32.2.1 ob_32.2.2.1 ob_32.2.2.2 ft_6_1 (by omega) (by omega) ?_
          refine Z_nm (fun m89 em89 => ?_)
          exact Z_vret hk hA hQ dX6_append_92 ⟨rfl, rfl, rfl, (by exact ⟨(by (try simp only [em89, f12_0, and_true, true_and, or_true, true_or, implies_true, upn, reduceIte, Nat.reduceEqDiff, ne_eq, not_false_eq_true, upc]) <;> (omega)), (by intro c k0 k1 k2 k3; simp only [em89, f12_0, upc, upn, k0, k1, k2, k3, reduceIte, Nat.reduceEqDiff, ne_eq, not_false_eq_true]), (by intro i k0; simp only [em89, f12_0, upc, upn, k0, reduceIte, Nat.reduceEqDiff, ne_eq, not_false_eq_true]), (by first | exact q3 | (simp only [em89, f12_0, e1, e14, e84, and_true, true_and, or_true, true_or, implies_true, upn, reduceIte, Nat.reduceEqDiff, ne_eq, not_false_eq_true, upc, upc]; exact h12b.mono (by omega))), (by first | exact q4 | (simp only [em89, f12_0, e1, e14, e84, and_true, true_and, or_true, true_or, implies_true, upn, reduceIte, Nat.reduceEqDiff, ne_eq, not_false_eq_true, upc, upc]; exact h12c.mono (by omega)))⟩)⟩
        · refine Z_aload0 hk dX6_append_20 ?_
          refine Z_getR hk fl_6_11 dX6_append_21 ob_32.1 ob_32.2.1 ob_32.2.2.1 ob_32.2.2.2 ft_6_2 rs_32_2 ?_
          refine Z_aload0 hk dX6_append_24 ?_
          refine Z_getI hk fl_6_31 dX6_append_25 ob_32.1 ob_32.2.1 ob_32.2.2.1 ob_32.2.2.2 ft_6_1 (fun v25 e25 a25 b25 => ?_)
          try simp only [f12_0, e1, e14, and_true, true_and, or_true, true_or, implies_true, upn, reduceIte, Nat.reduceEqDiff, ne_eq, not_false_eq_true, upc] at e25
          refine Z_iconst hk dX6_append_28 ?_
          refine Z_imul hk dX6_append_29 ?_
          refine Z_iload2 hk dX6_append_30 ?_
          refine Z_iadd hk dX6_append_31 ?_
          refine Z_aload1 hk dX6_append_32 ?_
          refine Z_iload2 hk dX6_append_33 ?_
          refine Z_iald hk dX6_append_34 ar_36.1 ar_36.2.1 ar_36.2.2 (by omega) (by omega) (fun v34 e34 a34 b34 => ?_)
          try simp only [f12_0, e1, e14, e25, and_true, true_and, or_true, true_or, implies_true, upn, reduceIte, Nat.reduceEqDiff, ne_eq, not_false_eq_true, upc] at e34
          have g34 := q2 x2_12.toNat (by omega)
          rw [← e34] at g34
          refine Z_iast hk hA dX6_append_35 ar_33.1 ar_33.2.1 ar_33.2.2 (by omega) (by omega) (by omega) (by omega) ?_
          refine Z_nm (fun m35 em35 => ?_)
          refine Z_aload0 hk dX6_append_36 ?_
          refine Z_getR hk fl_6_15 dX6_append_37 ob_32.1 ob_32.2.1 ob_32.2.2.1 ob_32.2.2.2 ft_6_3 rs_32_3 ?_
          refine Z_aload1 hk dX6_append_40 ?_
          refine Z_iload2 hk dX6_append_41 ?_
          refine Z_iald hk dX6_append_42 ar_36.1 ar_36.2.1 ar_36.2.2 (by omega) (by omega) (fun v42 e42 a42 b42 => ?_)
          try simp only [em35, f12_0, e1, e14, e25, e34, and_true, true_and, or_true, true_or, implies_true, upn, reduceIte, Nat.reduceEqDiff, ne_eq, not_false_eq_true, upc] at e42
          have g42 := q2 x2_12.toNat (by omega)
          rw [← e42] at g42
          refine Z_iconst hk dX6_append_43 ?_
          refine Z_imul hk dX6_append_44 ?_
          refine Z_iload2 hk dX6_append_45 ?_
          refine Z_iadd hk dX6_append_46 ?_
          refine Z_dup2 hk rfl rfl dX6_append_47 ?_
          refine Z_iald hk dX6_append_48 ar_34.1 ar_34.2.1 ar_34.2.2 (by omega) (by omega) (fun v48 e48 a48 b48 => ?_)
          try simp only [em35, f12_0, e1, e14, e25, e34, e42, and_true, true_and, or_true, true_or, implies_true, upn, reduceIte, Nat.reduceEqDiff, ne_eq, not_false_eq_true, upc] at e48
          refine Z_iconst hk dX6_append_49 ?_
          refine Z_iadd hk dX6_append_50 ?_
          refine Z_wI (fun w50 a50w b50w g50w => ?_)
          refine Z_iast hk hA dX6_append_51 ar_34.1 ar_34.2.1 ar_34.2.2 (by omega) (by omega) (by omega) (by omega) ?_
          refine Z_nm (fun m51 em51 => ?_)
          refine Z_iload2 hk dX6_append_52 ?_
          have J76 : ∀ (m76 : Mem), ((CB (5 * M 32 1 + (x2_12 + 1)) (m76 35)) ∧ (∀ c : Nat, c ≠ 35 → m76 c = m51 c)) → Zj κ δ ad rs Q 3 (121, 0, 0) 76 [some (.ref (ad 32)), some (.ref (ad 36)), some (iv x2_12)] [] m76 := by
            intro m76 h76
            obtain ⟨h76, f76_0⟩ := h76
            try simp only [f76_0, em51, em35, f12_0, and_true, true_and, or_true, true_or, implies_true, upn, reduceIte, Nat.reduceEqDiff, ne_eq, not_false_eq_true, upc] at h76
            refine Z_iinc2 hk rfl (by decide) dX6_append_76 ?_
            refine Z_goto hk (tgt := 12) dX6_append_79 (by decide) ?_
            exact ih12 _ _ (by exact ⟨(by (exact ⟨by omega, (by (try simp only [f76_0, em51, em35, f12_0, e1, e14, e25, e34, e42, e48, and_true, true_and, or_true, true_or, implies_true, upn, reduceIte, Nat.reduceEqDiff, ne_eq, not_false_eq_true, upc, upc]); rw [show 5 * M 32 1 + (x2_12 + 1) = 5 * M 32 1 + x2_12 + 1 from by omega]; exact h12b.put (by have := h12b (v42 * 5 + x2_12).toNat (by omega); (try simp only [f76_0, em51, em35, f12_0, e1, e14, e25, e34, e42, e48, and_true, true_and, or_true, true_or, implies_true, upn, reduceIte, Nat.reduceEqDiff, ne_eq, not_false_eq_true, upc, upc] at this); omega)), h76⟩)), (by intro c k0 k1 k2; simp only [f76_0, em51, em35, f12_0, upc, upn, k0, k1, k2, reduceIte, Nat.reduceEqDiff, ne_eq, not_false_eq_true])⟩) (by (try simp only [f76_0, em51, em35, f12_0, and_true, true_and, or_true, true_or, implies_true, upn, reduceIte, Nat.reduceEqDiff, ne_eq, not_false_eq_true, upc]) <;> (omega))
          refine Z_if_le hk (tgt := 76) dX6_append_53 (by decide) (by omega) (by omega) (fun h53 => ?_) (fun h53 => ?_)
          · exact J76 _ (by exact ⟨(by (simp only [em51, em35, f12_0, e1, e14, e25, e34, e42, e48, and_true, true_and, or_true, true_or, implies_true, upn, reduceIte, Nat.reduceEqDiff, ne_eq, not_false_eq_true, upc, upc]; exact h12c.mono (by omega))), (by intro c k0; simp only [em51, em35, f12_0, upc, upn, k0, reduceIte, Nat.reduceEqDiff, ne_eq, not_false_eq_true])⟩)
          · refine Z_aload0 hk dX6_append_56 ?_
            refine Z_getR hk fl_6_18 dX6_append_57 ob_32.1 ob_32.2.1 ob_32.2.2.1 ob_32.2.2.2 ft_6_4 rs_32_4 ?_
            refine Z_aload1 hk dX6_append_60 ?_
            refine Z_iload2 hk dX6_append_61 ?_
            refine Z_iconst hk dX6_append_62 ?_
            refine Z_isub hk dX6_append_63 ?_
            refine Z_iald hk dX6_append_64 ar_36.1 ar_36.2.1 ar_36.2.2 (by omega) (by omega) (fun v64 e64 a64 b64 => ?_)
            try simp only [em51, em35, f12_0, e1, e14, e25, e34, e42, e48, and_true, true_and, or_true, true_or, implies_true, upn, reduceIte, Nat.reduceEqDiff, ne_eq, not_false_eq_true, upc] at e64
            have g64 := q2 (x2_12 - 1).toNat (by omega)
            rw [← e64] at g64
            refine Z_iconst hk dX6_append_65 ?_
            refine Z_imul hk dX6_append_66 ?_
            refine Z_aload1 hk dX6_append_67 ?_
            refine Z_iload2 hk dX6_append_68 ?_
            refine Z_iald hk dX6_append_69 ar_36.1 ar_36.2.1 ar_36.2.2 (by omega) (by omega) (fun v69 e69 a69 b69 => ?_)
            try simp only [em51, em35, f12_0, e1, e14, e25, e34, e42, e48, e64, and_true, true_and, or_true, true_or, implies_true, upn, reduceIte, Nat.reduceEqDiff, ne_eq, not_false_eq_true, upc] at e69
            have g69 := q2 x2_12.toNat (by omega)
            rw [← e69] at g69
            refine Z_iadd hk dX6_append_70 ?_
            refine Z_dup2 hk rfl rfl dX6_append_71 ?_
            refine Z_iald hk dX6_append_72 ar_35.1 ar_35.2.1 ar_35.2.2 (by omega) (by omega) (fun v72 e72 a72 b72 => ?_)
            try simp only [em51, em35, f12_0, e1, e14, e25, e34, e42, e48, e64, e69, and_true, true_and, or_true, true_or, implies_true, upn, reduceIte, Nat.reduceEqDiff, ne_eq, not_false_eq_true, upc] at e72
            refine Z_iconst hk dX6_append_73 ?_
            refine Z_iadd hk dX6_append_74 ?_
            refine Z_wI (fun w74 a74w b74w g74w => ?_)
            refine Z_iast hk hA dX6_append_75 ar_35.1 ar_35.2.1 ar_35.2.2 (by omega) (by omega) (by omega) (by omega) ?_
            refine Z_nm (fun m75 em75 => ?_)
            exact J76 _ (by exact ⟨(by (simp only [em75, em51, em35, f12_0, e1, e14, e25, e34, e42, e48, e64, e69, e72, and_true, true_and, or_true, true_or, implies_true, upn, reduceIte, Nat.reduceEqDiff, ne_eq, not_false_eq_true, upc, upc]; rw [show 5 * M 32 1 + (x2_12 + 1) = 5 * M 32 1 + x2_12 + 1 from by omega]; exact h12c.put (by have := h12c (v64 * 5 + v69).toNat (by omega); (try simp only [em75, em51, em35, f12_0, e1, e14, e25, e34, e42, e48, e64, e69, e72, and_true, true_and, or_true, true_or, implies_true, upn, reduceIte, Nat.reduceEqDiff, ne_eq, not_false_eq_true, upc, upc] at this); omega))), (by intro c k0; simp only [em75, em51, em35, f12_0, upc, upn, k0, reduceIte, Nat.reduceEqDiff, ne_eq, not_false_eq_true])⟩)
    refine Z_istore2 hk rfl (by decide) dX6_append_11 ?_
    exact J12 ((((M 32 0) - 0) : Int).toNat + 1) _ _ (by exact ⟨(by (exact ⟨by omega, q3.mono (by omega), q4.mono (by omega)⟩)), (by intro c k0 k1 k2; rfl)⟩) (by omega)
  · exact Z_vret hk hA hQ dX6_append_9 ⟨rfl, rfl, rfl, (by exact ⟨(by (omega)), (by intro c k0 k1 k2 k3; rfl), (by intro i k0; rfl), (by first | exact q3 | (simp only [e1, and_true, true_and, or_true, true_or, implies_true, upn, reduceIte, Nat.reduceEqDiff, ne_eq, not_false_eq_true, upc, upc]; exact h12b.mono (by omega))), (by first | exact q4 | (simp only [e1, and_true, true_and, or_true, true_or, implies_true, upn, reduceIte, Nat.reduceEqDiff, ne_eq, not_false_eq_true, upc, upc]; exact h12c.mono (by omega)))⟩)⟩
set_option maxRecDepth 10000 in
theorem c_X6_squareOfGap (l : Launch) (δ : Dp) (ad : Nat → Nat) (M : Mem) (hA : okA δ ad) (c : Int) (i_c : -2147483648 ≤ c ∧ c ≤ 2147483647) : Mi l δ yX6_squareOfGap cX6_squareOfGap 3 (some (.int)) 0 0 ad rs [.ref (ad 32), iv c] M (fun r M' => M = M' ∧ (-2147483648 ≤ r ∧ r ≤ 2147483647)) := by
  refine Mg.of (rm := rmN 0 0) (by decide) (Nat.le_of_ble_eq_true rfl) fun κ _ hk _ => ?_
  generalize hQ : Qg κ δ 121 (rmN 0 0).cells (rmN 0 0).slots _ = Q
  show Zj κ δ ad rs Q 3 (121, 0, 0) 0 [some (.ref (ad 32)), some (iv c), none] [] M
  refine Z_iload1 hk dX6_squareOfGap_0 ?_
  refine Z_aload0 hk dX6_squareOfGap_1 ?_
  refine Z_getI hk fl_6_27 dX6_squareOfGap_2 ob_32.1 ob_32.2.1 ob_32.2.2.1 ob_32.2.2.2 ft_6_0 (fun v2 e2 a2 b2 => ?_)
  refine Z_imul hk dX6_squareOfGap_5 ?_
  refine Z_wI (fun w5 a5w b5w g5w => ?_)
  refine Z_aload0 hk dX6_squareOfGap_6 ?_
  refine Z_getI hk fl_6_31 dX6_squareOfGap_7 ob_32.1 ob_32.2.1 ob_32.2.2.1 ob_32.2.2.2 ft_6_1 (fun v7 e7 a7 b7 => ?_)
  try simp only [e2, and_true, true_and, or_true, true_or, implies_true, upn, reduceIte, Nat.reduceEqDiff, ne_eq, not_false_eq_true, upc] at e7
  refine Z_isub hk dX6_squareOfGap_10 ?_
  refine Z_wI (fun w10 a10w b10w g10w => ?_)
  refine Z_istore2 hk rfl (by decide) dX6_squareOfGap_11 ?_
  refine Z_iload2 hk dX6_squareOfGap_12 ?_
  refine Z_iload2 hk dX6_squareOfGap_13 ?_
  refine Z_imul hk dX6_squareOfGap_14 ?_
  refine Z_wI (fun w14 a14w b14w g14w => ?_)
  exact Z_iret hk hA hQ dX6_squareOfGap_15 ⟨rfl, rfl, _, rfl, (by exact ⟨rfl, (by omega)⟩)⟩
set_option maxRecDepth 10000 in
theorem c_X6_unevenness (l : Launch) (δ : Dp) (ad : Nat → Nat) (M : Mem) (hA : okA δ ad) (q1 : 2 ≤ (M 32 0) ∧ (M 32 0) ≤ 5) : Mi l δ yX6_unevenness cX6_unevenness 5 (some (.int)) 1 22 ad rs [.ref (ad 32)] M (fun r M' => M = M' ∧ (-2147483648 ≤ r ∧ r ≤ 2147483647)) := by
  refine Mg.of (rm := rmN 1 22) (by decide) (Nat.le_of_ble_eq_true rfl) fun κ _ hk _ => ?_
  generalize hQ : Qg κ δ 121 (rmN 1 22).cells (rmN 1 22).slots _ = Q
  show Zj κ δ ad rs Q 5 (121, 0, 0) 0 [some (.ref (ad 32)), none, none, none, none] [] M
  refine Z_iconst hk dX6_unevenness_0 ?_
  refine Z_istore1 hk rfl (by decide) dX6_unevenness_1 ?_
  refine Z_iconst hk dX6_unevenness_2 ?_
  have J4 : ∀ (n : Nat) (x1_4 : Int) (x2_4 : Int), (0 ≤ x2_4 ∧ x2_4 ≤ (M 32 0) ∧ -2147483648 ≤ x1_4 ∧ x1_4 ≤ 2147483647) → ((M 32 0) - x2_4) < (n : Int) → Zj κ δ ad rs Q 5 (121, 0, 0) 4 [some (.ref (ad 32)), some (iv x1_4), some (iv x2_4), none, none] [] M := by
    intro n
    induction n with
    | zero => intro x1_4 x2_4 h4 hm4; exfalso; omega
    | succ n ih4 =>
      intro x1_4 x2_4 h4 hm4
      refine Z_iload2 hk dX6_unevenness_4 ?_
      refine Z_aload0 hk dX6_unevenness_5 ?_
      refine Z_getI hk fl_6_27 dX6_unevenness_6 ob_32.1 ob_32.2.1 ob_32.2.2.1 ob_32.2.2.2 ft_6_0 (fun v6 e6 a6 b6 => ?_)
      refine Z_icmp_ge hk (tgt := 78) dX6_unevenness_9 (by decide) (by omega) (by omega) (by omega) (by omega) (fun h9 => ?_) (fun h9 => ?_)
      · refine Z_iload1 hk dX6_unevenness_78 ?_
        exact Z_iret hk hA hQ dX6_unevenness_79 ⟨rfl, rfl, _, rfl, (by exact ⟨rfl, (by omega)⟩)⟩
      · refine Z_iconst hk dX6_unevenness_12 ?_
        have J14 : ∀ (n : Nat) (x1_14 : Int) (x3_14 : Int), (0 ≤ x3_14 ∧ x3_14 ≤ (M 32 0) ∧ -2147483648 ≤ x1_14 ∧ x1_14 ≤ 2147483647) → ((M 32 0) - x3_14) < (n : Int) → Zj κ δ ad rs Q 5 (121, 0, 0) 14 [some (.ref (ad 32)), some (iv x1_14), some (iv x2_4), some (iv x3_14), none] [] M := by
          intro n
          induction n with
          | zero => intro x1_14 x3_14 h14 hm14; exfalso; omega
          | succ n ih14 =>
            intro x1_14 x3_14 h14 hm14
            refine Z_iload3 hk dX6_unevenness_14 ?_
            refine Z_aload0 hk dX6_unevenness_15 ?_
            refine Z_getI hk fl_6_27 dX6_unevenness_16 ob_32.1 ob_32.2.1 ob_32.2.2.1 ob_32.2.2.2 ft_6_0 (fun v16 e16 a16 b16 => ?_)
            try simp only [e6, and_true, true_and, or_true, true_or, implies_true, upn, reduceIte, Nat.reduceEqDiff, ne_eq, not_false_eq_true, upc] at e16
            refine Z_icmp_ge hk (tgt := 72) dX6_unevenness_19 (by decide) (by omega) (by omega) (by omega) (by omega) (fun h19 => ?_) (fun h19 => ?_)
            · refine Z_iinc2 hk rfl (by decide) dX6_unevenness_72 ?_
              refine Z_goto hk (tgt := 4) dX6_unevenness_75 (by decide) ?_
              refine Z_drop3 ?_
              exact ih4 _ _ (by omega) (by (omega))
            · refine Z_iload2 hk dX6_unevenness_22 ?_
              refine Z_iconst hk dX6_unevenness_23 ?_
              refine Z_imul hk dX6_unevenness_24 ?_
              refine Z_iload3 hk dX6_unevenness_25 ?_
              refine Z_iadd hk dX6_unevenness_26 ?_
              refine Z_istore4 hk rfl (by decide) dX6_unevenness_27 ?_
              refine Z_iload1 hk dX6_unevenness_29 ?_
              refine Z_aload0 hk dX6_unevenness_30 ?_
              refine Z_aload0 hk dX6_unevenness_31 ?_
              refine Z_getR hk fl_6_15 dX6_unevenness_32 ob_32.1 ob_32.2.1 ob_32.2.2.1 ob_32.2.2.2 ft_6_3 rs_32_3 ?_
              refine Z_iload4 hk dX6_unevenness_35 ?_
              refine Z_iald hk dX6_unevenness_37 ar_34.1 ar_34.2.1 ar_34.2.2 (by omega) (by omega) (fun v37 e37 a37 b37 => ?_)
              try simp only [e6, e16, and_true, true_and, or_true, true_or, implies_true, upn, reduceIte, Nat.reduceEqDiff, ne_eq, not_false_eq_true, upc] at e37
              refine Z_Vi hk (c_X6_squareOfGap κ.2.1 δ ad _ hA v37 (by (omega))) ov_X6_squareOfGap ml_X6_71 dX6_unevenness_38 rfl ⟨by decide, by decide⟩ ob_32.1 (by decide) (by decide) rfl (Nat.le_of_ble_eq_true rfl) (fun r38 m38 p38 => ?_)
              obtain ⟨rfl, p38⟩ := p38
              refine Z_iadd hk dX6_unevenness_41 ?_
              refine Z_wI (fun w41 a41w b41w g41w => ?_)
              refine Z_istore1 hk rfl (by decide) dX6_unevenness_42 ?_
              refine Z_iload1 hk dX6_unevenness_43 ?_
              refine Z_iload2 hk dX6_unevenness_44 ?_
              refine Z_iload3 hk dX6_unevenness_45 ?_
              have J64 : ∀ (y1_64 : Int), (-2147483648 ≤ y1_64 ∧ y1_64 ≤ 2147483647) → Zj κ δ ad rs Q 5 (121, 0, 0) 64 [some (.ref (ad 32)), some (iv w41), some (iv x2_4), some (iv x3_14), some (iv ((x2_4 * 5) + x3_14))] [iv y1_64, iv w41] M := by
                intro y1_64 h64
                refine Z_iadd hk dX6_unevenness_64 ?_
                refine Z_wI (fun w64 a64w b64w g64w => ?_)
                refine Z_istore1 hk rfl (by decide) dX6_unevenness_65 ?_
                refine Z_iinc3 hk rfl (by decide) dX6_unevenness_66 ?_
                refine Z_goto hk (tgt := 14) dX6_unevenness_69 (by decide) ?_
                refine Z_drop4 ?_
                exact ih14 _ _ (by omega) (by (omega))
              refine Z_icmp_ne hk (tgt := 53) dX6_unevenness_46 (by decide) (by omega) (by omega) (by omega) (by omega) (fun h46 => ?_) (fun h46 => ?_)
              · refine Z_aload0 hk dX6_unevenness_53 ?_
                refine Z_aload0 hk dX6_unevenness_54 ?_
                refine Z_getR hk fl_6_18 dX6_unevenness_55 ob_32.1 ob_32.2.1 ob_32.2.2.1 ob_32.2.2.2 ft_6_4 rs_32_4 ?_
                refine Z_iload4 hk dX6_unevenness_58 ?_
                refine Z_iald hk dX6_unevenness_60 ar_35.1 ar_35.2.1 ar_35.2.2 (by omega) (by omega) (fun v60 e60 a60 b60 => ?_)
                try simp only [e6, e16, e37, and_true, true_and, or_true, true_or, implies_true, upn, reduceIte, Nat.reduceEqDiff, ne_eq, not_false_eq_true, upc] at e60
                refine Z_Vi hk (c_X6_squareOfGap κ.2.1 δ ad _ hA v60 (by (omega))) ov_X6_squareOfGap ml_X6_71 dX6_unevenness_61 rfl ⟨by decide, by decide⟩ ob_32.1 (by decide) (by decide) rfl (Nat.le_of_ble_eq_true rfl) (fun r61 m61 p61 => ?_)
                obtain ⟨rfl, p61⟩ := p61
                exact J64 _ (by omega)
              · refine Z_iconst hk dX6_unevenness_49 ?_
                refine Z_goto hk (tgt := 64) dX6_unevenness_50 (by decide) ?_
                exact J64 _ (by omega)
        refine Z_istore3 hk rfl (by decide) dX6_unevenness_13 ?_
        exact J14 ((((M 32 0) - 0) : Int).toNat + 1) _ _ (by omega) (by omega)
  refine Z_istore2 hk rfl (by decide) dX6_unevenness_3 ?_
  exact J4 ((((M 32 0) - 0) : Int).toNat + 1) _ _ (by omega) (by omega)
set_option maxRecDepth 10000 in
theorem c_X6_lay (l : Launch) (δ : Dp) (ad : Nat → Nat) (M : Mem) (hA : okA δ ad) (t : Int) (nn : Int) (hz : NS δ) (q0 : 2 ≤ t ∧ t ≤ 5 ∧ 1 ≤ nn ∧ nn ≤ 30) : Mi l δ yX6_lay cX6_lay 4 (some (.int)) 3 71 ad rs [.ref (ad 32), iv t, iv nn] M (fun r M' => ((M' 32 0) = t ∧ 0 ≤ (M' 32 1) ∧ (M' 32 1) ≤ 30) ∧ (∀ c : Nat, c ≠ 32 → c ≠ 33 → c ≠ 34 → c ≠ 35 → c ≠ 36 → c ≠ 37 → M' c = M c) ∧ (∀ i : Nat, i ≠ 0 → i ≠ 1 → M' 32 i = M 32 i) ∧ (CB (5 * M' 32 1) (M' 34)) ∧ (CB (5 * M' 32 1) (M' 35))) := by
  refine Mg.of (rm := rmN 3 71) (by decide) (Nat.le_of_ble_eq_true rfl) fun κ _ hk _ => ?_
  generalize hQ : Qg κ δ 121 (rmN 3 71).cells (rmN 3 71).slots _ = Q
  show Zj κ δ ad rs Q 4 (121, 0, 0) 0 [some (.ref (ad 32)), some (iv t), some (iv nn), none] [] M
  refine Z_aload0 hk dX6_lay_0 ?_
  refine Z_iload1 hk dX6_lay_1 ?_
  refine Z_putI hk hA fl_6_27 dX6_lay_2 ob_32.1 ob_32.2.1 ob_32.2.2.1 ob_32.2.2.2 ft_6_0 (by omega) (by omega) ?_
  refine Z_nm (fun m2 em2 => ?_)
  refine Z_aload0 hk dX6_lay_5 ?_
  refine Z_iconst hk dX6_lay_6 ?_
  refine Z_putI hk hA fl_6_31 dX6_lay_7 ob_32.1 ob_32.2.1 ob_32.2.2.1 ob_32.2.2.2 ft_6_1 (by decide) (by decide) ?_
  refine Z_nm (fun m7 em7 => ?_)
  refine Z_aload0 hk dX6_lay_10 ?_
  refine Z_getR hk fl_6_15 dX6_lay_11 ob_32.1 ob_32.2.1 ob_32.2.2.1 ob_32.2.2.2 ft_6_3 rs_32_3 ?_
  refine Z_iconst hk dX6_lay_14 ?_
  refine Z_Sv hk (c_J7_fill_53178 κ.2.1 δ ad _ hA 34 25 ar_34 0 (by (try simp only [em7, em2, and_true, true_and, or_true, true_or, implies_true, upn, reduceIte, Nat.reduceEqDiff, ne_eq, not_false_eq_true, upc]) <;> (first | omega | assumption | exact (h28b.mono (by omega)) | exact (h28c.mono (by omega))))) os_J7_fill_53178 ml_X6_34 dX6_lay_15 rfl ⟨by decide, by decide⟩ rfl (Nat.le_of_ble_eq_true rfl) (fun m15 p15 => ?_)
  obtain ⟨p15, f15_0⟩ := p15
  try simp only [f15_0, em7, em2, and_true, true_and, or_true, true_or, implies_true, upn, reduceIte, Nat.reduceEqDiff, ne_eq, not_false_eq_true, upc] at p15
  refine Z_aload0 hk dX6_lay_18 ?_
  refine Z_getR hk fl_6_18 dX6_lay_19 ob_32.1 ob_32.2.1 ob_32.2.2.1 ob_32.2.2.2 ft_6_4 rs_32_4 ?_
  refine Z_iconst hk dX6_lay_22 ?_
  refine Z_Sv hk (c_J7_fill_53178 κ.2.1 δ ad _ hA 35 25 ar_35 0 (by (try simp only [f15_0, em7, em2, and_true, true_and, or_true, true_or, implies_true, upn, reduceIte, Nat.reduceEqDiff, ne_eq, not_false_eq_true, upc]) <;> (first | omega | assumption | exact (h28b.mono (by omega)) | exact (h28c.mono (by omega))))) os_J7_fill_53178 ml_X6_34 dX6_lay_23 rfl ⟨by decide, by decide⟩ rfl (Nat.le_of_ble_eq_true rfl) (fun m23 p23 => ?_)
  obtain ⟨p23, f23_0⟩ := p23
  try simp only [f23_0, f15_0, em7, em2, and_true, true_and, or_true, true_or, implies_true, upn, reduceIte, Nat.reduceEqDiff, ne_eq, not_false_eq_true, upc] at p23
  refine Z_iconst hk dX6_lay_26 ?_
  have J28 : ∀ (n : Nat) (x3_28 : Int) (m28 : Mem), (((0 ≤ x3_28 ∧ x3_28 ≤ nn ∧ 0 ≤ (m28 32 1) ∧ (m28 32 1) ≤ 30) ∧ CB (5 * m28 32 1) (m28 34) ∧ CB (5 * m28 32 1) (m28 35)) ∧ (∀ c : Nat, c ≠ 32 → c ≠ 33 → c ≠ 34 → c ≠ 35 → c ≠ 36 → c ≠ 37 → m28 c = m23 c) ∧ (∀ i : Nat, i ≠ 1 → m28 32 i = m23 32 i)) → (nn - x3_28) < (n : Int) → Zj κ δ ad rs Q 4 (121, 0, 0) 28 [some (.ref (ad 32)), some (iv t), some (iv nn), some (iv x3_28)] [] m28 := by
    intro n
    induction n with
    | zero => intro x3_28 m28 h28 hm28; exfalso; obtain ⟨h28, -⟩ := h28; obtain ⟨h28, -⟩ := h28; omega
    | succ n ih28 =>
      intro x3_28 m28 h28 hm28
      obtain ⟨h28, f28_0, f28_1⟩ := h28
      try simp only [f28_0, f28_1, f23_0, f15_0, em7, em2, and_true, true_and, or_true, true_or, implies_true, upn, reduceIte, Nat.reduceEqDiff, ne_eq, not_false_eq_true, upc] at h28 hm28
      obtain ⟨h28, h28b, h28c⟩ := h28
      refine Z_iload3 hk dX6_lay_28 ?_
      refine Z_iload2 hk dX6_lay_29 ?_
      refine Z_icmp_ge hk (tgt := 51) dX6_lay_30 (by decide) (by omega) (by omega) (by omega) (by omega) (fun h30 => ?_) (fun h30 => ?_)
      · refine Z_aload0 hk dX6_lay_51 ?_
        refine Z_Vi hk (c_X6_unevenness κ.2.1 δ ad _ hA  (by (try simp only [f28_0, f28_1, f23_0, f15_0, em7, em2, and_true, true_and, or_true, true_or, implies_true, upn, reduceIte, Nat.reduceEqDiff, ne_eq, not_false_eq_true, upc]) <;> (first | omega | assumption | exact (h28b.mono (by omega)) | exact (h28c.mono (by omega))))) ov_X6_unevenness ml_X6_47 dX6_lay_52 rfl ⟨by decide, by decide⟩ ob_32.1 (by decide) (by decide) rfl (Nat.le_of_ble_eq_true rfl) (fun r52 m52 p52 => ?_)
        obtain ⟨rfl, p52⟩ := p52
        try simp only [f28_0, f28_1, f23_0, f15_0, em7, em2, and_true, true_and, or_true, true_or, implies_true, upn, reduceIte, Nat.reduceEqDiff, ne_eq, not_false_eq_true, upc] at p52
        exact Z_iret hk hA hQ dX6_lay_55 ⟨rfl, rfl, _, rfl, (by exact ⟨(by (try simp only [f28_0, f28_1, f23_0, f15_0, em7, em2, and_true, true_and, or_true, true_or, implies_true, upn, reduceIte, Nat.reduceEqDiff, ne_eq, not_false_eq_true, upc]) <;> (omega)), (by intro c k0 k1 k2 k3 k4 k5; simp only [f28_0, f28_1, f23_0, f15_0, em7, em2, upc, upn, k0, k1, k2, k3, k4, k5, reduceIte, Nat.reduceEqDiff, ne_eq, not_false_eq_true]), (by intro i k0 k1; simp only [f28_0, f28_1, f23_0, f15_0, em7, em2, upc, upn, k0, k1, reduceIte, Nat.reduceEqDiff, ne_eq, not_false_eq_true]), (by (try simp only [f28_0, f28_1, f23_0, f15_0, em7, em2, and_true, true_and, or_true, true_or, implies_true, upn, reduceIte, Nat.reduceEqDiff, ne_eq, not_false_eq_true, upc, upc]) <;> (first | exact h28b | exact q3)), (by (try simp only [f28_0, f28_1, f23_0, f15_0, em7, em2, and_true, true_and, or_true, true_or, implies_true, upn, reduceIte, Nat.reduceEqDiff, ne_eq, not_false_eq_true, upc, upc]) <;> (first | exact h28c | exact q4))⟩)⟩
      · refine Z_aload0 hk dX6_lay_33 ?_
        refine Z_Vv hk (c_X6_findBest κ.2.1 δ ad _ hA  hz (by (try simp only [f28_0, f28_1, f23_0, f15_0, em7, em2, and_true, true_and, or_true, true_or, implies_true, upn, reduceIte, Nat.reduceEqDiff, ne_eq, not_false_eq_true, upc]) <;> (first | omega | assumption | exact (h28b.mono (by omega)) | exact (h28c.mono (by omega)))) (by (try simp only [f28_0, f28_1, f23_0, f15_0, em7, em2, and_true, true_and, or_true, true_or, implies_true, upn, reduceIte, Nat.reduceEqDiff, ne_eq, not_false_eq_true, upc]) <;> (first | omega | assumption | exact (h28b.mono (by omega)) | exact (h28c.mono (by omega)))) (by (try simp only [f28_0, f28_1, f23_0, f15_0, em7, em2, and_true, true_and, or_true, true_or, implies_true, upn, reduceIte, Nat.reduceEqDiff, ne_eq, not_false_eq_true, upc]) <;> (first | omega | assumption | exact (h28b.mono (by omega)) | exact (h28c.mono (by omega))))) ov_X6_findBest ml_X6_40 dX6_lay_34 rfl ⟨by decide, by decide⟩ ob_32.1 (by decide) (by decide) rfl (Nat.le_of_ble_eq_true rfl) (fun m34 p34 => ?_)
        obtain ⟨p34, f34_0, f34_1⟩ := p34
        try simp only [f34_0, f34_1, f28_0, f28_1, f23_0, f15_0, em7, em2, and_true, true_and, or_true, true_or, implies_true, upn, reduceIte, Nat.reduceEqDiff, ne_eq, not_false_eq_true, upc] at p34
        try simp only [f34_0, f28_0, f28_1, f23_0, f15_0, em7, em2, and_true, true_and, or_true, true_or, implies_true, upn, reduceIte, Nat.reduceEqDiff, ne_eq, not_false_eq_true, upc] at f34_1
        refine Z_aload0 hk dX6_lay_37 ?_
        refine Z_aload0 hk dX6_lay_38 ?_
        refine Z_getR hk fl_6_24 dX6_lay_39 ob_32.1 ob_32.2.1 ob_32.2.2.1 ob_32.2.2.2 ft_6_6 rs_32_6 ?_
        refine Z_Vv hk (c_X6_append_b37 κ.2.1 δ ad _ hA  (by (try simp only [f34_0, f34_1, f28_0, f28_1, f23_0, f15_0, em7, em2, and_true, true_and, or_true, true_or, implies_true, upn, reduceIte, Nat.reduceEqDiff, ne_eq, not_false_eq_true, upc]) <;> (first | omega | assumption | exact (h28b.mono (by omega)) | exact (h28c.mono (by omega)))) (by (try simp only [f34_0, f34_1, f28_0, f28_1, f23_0, f15_0, em7, em2, and_true, true_and, or_true, true_or, implies_true, upn, reduceIte, Nat.reduceEqDiff, ne_eq, not_false_eq_true, upc]) <;> (first | omega | assumption | exact (h28b.mono (by omega)) | exact (h28c.mono (by omega)))) (by (try simp only [f34_0, f34_1, f28_0, f28_1, f23_0, f15_0, em7, em2, and_true, true_and, or_true, true_or, implies_true, upn, reduceIte, Nat.reduceEqDiff, ne_eq, not_false_eq_true, upc]) <;> (first | omega | assumption | exact (h28b.mono (by omega)) | exact (h28c.mono (by omega)))) (by (try simp only [f34_0, f34_1, f28_0, f28_1, f23_0, f15_0, em7, em2, and_true, true_and, or_true, true_or, implies_true, upn, reduceIte, Nat.reduceEqDiff, ne_eq, not_false_eq_true, upc]) <;> (first | omega | assumption | exact (h28b.mono (by omega)) | exact (h28c.mono (by omega)))) (by (try simp only [f34_0, f34_1, f28_0, f28_1, f23_0, f15_0, em7, em2, and_true, true_and, or_true, true_or, implies_true, upn, reduceIte, Nat.reduceEqDiff, ne_eq, not_false_eq_true, upc]) <;> (first | omega | assumption | exact (h28b.mono (by omega)) | exact (h28c.mono (by omega))))) ov_X6_append ml_X6_43 dX6_lay_42 rfl ⟨by decide, by decide⟩ ob_32.1 (by decide) (by decide) rfl (Nat.le_of_ble_eq_true rfl) (fun m42 p42 => ?_)
        obtain ⟨p42, f42_0, f42_1, f42_2, f42_3⟩ := p42
        try simp only [f42_0, f42_1, f42_2, f42_3, f34_0, f34_1, f28_0, f28_1, f23_0, f15_0, em7, em2, and_true, true_and, or_true, true_or, implies_true, upn, reduceIte, Nat.reduceEqDiff, ne_eq, not_false_eq_true, upc] at p42
        try simp only [f42_0, f42_1, f42_3, f34_0, f34_1, f28_0, f28_1, f23_0, f15_0, em7, em2, and_true, true_and, or_true, true_or, implies_true, upn, reduceIte, Nat.reduceEqDiff, ne_eq, not_false_eq_true, upc] at f42_2
        try simp only [f42_0, f42_1, f42_2, f34_0, f34_1, f28_0, f28_1, f23_0, f15_0, em7, em2, and_true, true_and, or_true, true_or, implies_true, upn, reduceIte, Nat.reduceEqDiff, ne_eq, not_false_eq_true, upc] at f42_3
        refine Z_iinc3 hk rfl (by decide) dX6_lay_45 ?_
        refine Z_goto hk (tgt := 28) dX6_lay_48 (by decide) ?_
        exact ih28 _ _ (by exact ⟨(by (exact ⟨(by (try simp only [f42_0, f42_1, f42_2, f42_3, f34_0, f34_1, f28_0, f28_1, f23_0, f15_0, em7, em2, and_true, true_and, or_true, true_or, implies_true, upn, reduceIte, Nat.reduceEqDiff, ne_eq, not_false_eq_true, upc, upc]) <;> omega), (by (try simp only [f42_0, f42_1, f42_2, f42_3, f34_0, f34_1, f28_0, f28_1, f23_0, f15_0, em7, em2, and_true, true_and, or_true, true_or, implies_true, upn, reduceIte, Nat.reduceEqDiff, ne_eq, not_false_eq_true, upc, upc]) <;> assumption), (by (try simp only [f42_0, f42_1, f42_2, f42_3, f34_0, f34_1, f28_0, f28_1, f23_0, f15_0, em7, em2, and_true, true_and, or_true, true_or, implies_true, upn, reduceIte, Nat.reduceEqDiff, ne_eq, not_false_eq_true, upc, upc]) <;> assumption)⟩)), (by intro c k0 k1 k2 k3 k4 k5; simp only [f42_0, f42_1, f42_2, f42_3, f34_0, f34_1, f28_0, f28_1, f23_0, f15_0, em7, em2, upc, upn, k0, k1, k2, k3, k4, k5, reduceIte, Nat.reduceEqDiff, ne_eq, not_false_eq_true]), (by intro i k0; simp only [f42_0, f42_1, f42_2, f42_3, f34_0, f34_1, f28_0, f28_1, f23_0, f15_0, em7, em2, upc, upn, k0, reduceIte, Nat.reduceEqDiff, ne_eq, not_false_eq_true])⟩) (by (try simp only [f42_0, f42_1, f42_2, f42_3, f34_0, f34_1, f28_0, f28_1, f23_0, f15_0, em7, em2, and_true, true_and, or_true, true_or, implies_true, upn, reduceIte, Nat.reduceEqDiff, ne_eq, not_false_eq_true, upc]) <;> (omega))
  refine Z_istore3 hk rfl (by decide) dX6_lay_27 ?_
  exact J28 (((nn - 0) : Int).toNat + 1) _ _ (by exact ⟨(by (exact ⟨(by (try simp only [f23_0, f15_0, em7, em2, and_true, true_and, or_true, true_or, implies_true, upn, reduceIte, Nat.reduceEqDiff, ne_eq, not_false_eq_true, upc, upc]) <;> omega), (fun j hj => by have := p15 j (by omega); (try simp only [f23_0, f15_0, em7, em2, and_true, true_and, or_true, true_or, implies_true, upn, reduceIte, Nat.reduceEqDiff, ne_eq, not_false_eq_true, upc, upc] at this ⊢); omega), (fun j hj => by have := p23 j (by omega); (try simp only [f23_0, f15_0, em7, em2, and_true, true_and, or_true, true_or, implies_true, upn, reduceIte, Nat.reduceEqDiff, ne_eq, not_false_eq_true, upc, upc] at this ⊢); omega)⟩)), (by intro c k0 k1 k2 k3 k4 k5; simp only [f23_0, f15_0, em7, em2, upc, upn, k0, k1, k2, k3, k4, k5, reduceIte, Nat.reduceEqDiff, ne_eq, not_false_eq_true]), (by intro i k0; simp only [f23_0, f15_0, em7, em2, upc, upn, k0, reduceIte, Nat.reduceEqDiff, ne_eq, not_false_eq_true])⟩) (by omega)
set_option maxRecDepth 10000 in
theorem c_X6_layByHand (l : Launch) (δ : Dp) (ad : Nat → Nat) (M : Mem) (hA : okA δ ad) (v : Int) (q1 : 2 ≤ (M 32 0) ∧ (M 32 0) ≤ 5) (q0 : 0 ≤ (M 32 1) ∧ (M 32 1) ≤ 30) (q3 : CB (5 * M 32 1) (M 34)) (q4 : CB (5 * M 32 1) (M 35)) (i_v : -2147483648 ≤ v ∧ v ≤ 2147483647) : Mi l δ yX6_layByHand cX6_layByHand 4 (some (.int)) 2 46 ad rs [.ref (ad 32), iv v] M (fun r M' => ((M 32 1) ≤ (M' 32 1) ∧ (M' 32 1) ≤ 30) ∧ (∀ c : Nat, c ≠ 32 → c ≠ 33 → c ≠ 34 → c ≠ 35 → c ≠ 36 → M' c = M c) ∧ (∀ i : Nat, i ≠ 1 → M' 32 i = M 32 i) ∧ (CB (5 * M' 32 1) (M' 34)) ∧ (CB (5 * M' 32 1) (M' 35))) := by
  refine Mg.of (rm := rmN 2 46) (by decide) (Nat.le_of_ble_eq_true rfl) fun κ _ hk _ => ?_
  generalize hQ : Qg κ δ 121 (rmN 2 46).cells (rmN 2 46).slots _ = Q
  show Zj κ δ ad rs Q 4 (121, 0, 0) 0 [some (.ref (ad 32)), some (iv v), none, none] [] M
  refine Z_iconst hk dX6_layByHand_0 ?_
  refine Z_istore2 hk rfl (by decide) dX6_layByHand_1 ?_
  refine Z_iconst hk dX6_layByHand_2 ?_
  have J4 : ∀ (n : Nat) (x2_4 : Int) (x3_4 : Int) (m4 : Mem), (((0 ≤ x3_4 ∧ x3_4 ≤ (M 32 0) ∧ 0 ≤ x2_4 ∧ x2_4 < 65536) ∧ ∀ j : Nat, (j : Int) < x3_4 → 0 ≤ m4 36 j ∧ m4 36 j ≤ 15 ∧ (x2_4).toNat.testBit (m4 36 j).toNat = true) ∧ (∀ c : Nat, c ≠ 36 → m4 c = M c)) → ((M 32 0) - x3_4) < (n : Int) → Zj κ δ ad rs Q 4 (121, 0, 0) 4 [some (.ref (ad 32)), some (iv v), some (iv x2_4), some (iv x3_4)] [] m4 := by
    intro n
    induction n with
    | zero => intro x2_4 x3_4 m4 h4 hm4; exfalso; obtain ⟨h4, -⟩ := h4; obtain ⟨h4, -⟩ := h4; omega
    | succ n ih4 =>
      intro x2_4 x3_4 m4 h4 hm4
      obtain ⟨h4, f4_0⟩ := h4
      try simp only [f4_0, and_true, true_and, or_true, true_or, implies_true, upn, reduceIte, Nat.reduceEqDiff, ne_eq, not_false_eq_true, upc] at h4 hm4
      refine Z_iload3 hk dX6_layByHand_4 ?_
      refine Z_aload0 hk dX6_layByHand_5 ?_
      refine Z_getI hk fl_6_27 dX6_layByHand_6 ob_32.1 ob_32.2.1 ob_32.2.2.1 ob_32.2.2.2 ft_6_0 (fun v6 e6 a6 b6 => ?_)
      try simp only [f4_0, and_true, true_and, or_true, true_or, implies_true, upn, reduceIte, Nat.reduceEqDiff, ne_eq, not_false_eq_true, upc] at e6
      refine Z_icmp_ge hk (tgt := 43) dX6_layByHand_9 (by decide) (by omega) (by omega) (by omega) (by omega) (fun h9 => ?_) (fun h9 => ?_)
      · refine Z_iload1 hk dX6_layByHand_43 ?_
        refine Z_iconst hk dX6_layByHand_44 ?_
        refine Z_aload0 hk dX6_layByHand_45 ?_
        refine Z_getI hk fl_6_27 dX6_layByHand_46 ob_32.1 ob_32.2.1 ob_32.2.2.1 ob_32.2.2.2 ft_6_0 (fun v46 e46 a46 b46 => ?_)
        try simp only [f4_0, e6, and_true, true_and, or_true, true_or, implies_true, upn, reduceIte, Nat.reduceEqDiff, ne_eq, not_false_eq_true, upc] at e46
        refine Z_imul hk dX6_layByHand_49 ?_
        refine Z_iushr hk dX6_layByHand_50 (fun v50 e50 a50 b50 => ?_)
        refine Z_if_ne hk (tgt := 66) dX6_layByHand_51 (by decide) (by omega) (by omega) (fun h51 => ?_) (fun h51 => ?_)
        · refine Z_iconst hk dX6_layByHand_66 ?_
          exact Z_iret hk hA hQ dX6_layByHand_67 ⟨rfl, rfl, _, rfl, (by exact ⟨(by (try simp only [f4_0, and_true, true_and, or_true, true_or, implies_true, upn, reduceIte, Nat.reduceEqDiff, ne_eq, not_false_eq_true, upc]) <;> (omega)), (by intro c k0 k1 k2 k3 k4; simp only [f4_0, upc, upn, k0, k1, k2, k3, k4, reduceIte, Nat.reduceEqDiff, ne_eq, not_false_eq_true]), (by intro i k0; simp only [f4_0, upc, upn, k0, reduceIte, Nat.reduceEqDiff, ne_eq, not_false_eq_true]), (by (try simp only [f4_0, e6, e46, and_true, true_and, or_true, true_or, implies_true, upn, reduceIte, Nat.reduceEqDiff, ne_eq, not_false_eq_true, upc, upc]) <;> (first | assumption | exact q3)), (by (try simp only [f4_0, e6, e46, and_true, true_and, or_true, true_or, implies_true, upn, reduceIte, Nat.reduceEqDiff, ne_eq, not_false_eq_true, upc, upc]) <;> (first | assumption | exact q4))⟩)⟩
        · refine Z_iload2 hk dX6_layByHand_54 ?_
          refine Z_iconst hk dX6_layByHand_55 ?_
          refine Z_aload0 hk dX6_layByHand_56 ?_
          refine Z_getI hk fl_6_27 dX6_layByHand_57 ob_32.1 ob_32.2.1 ob_32.2.2.1 ob_32.2.2.2 ft_6_0 (fun v57 e57 a57 b57 => ?_)
          try simp only [f4_0, e6, e46, and_true, true_and, or_true, true_or, implies_true, upn, reduceIte, Nat.reduceEqDiff, ne_eq, not_false_eq_true, upc] at e57
          refine Z_ishl hk dX6_layByHand_60 (fun v60 e60 a60 b60 => ?_)
          have s60 : v60 = ((2 ^ (M 32 0).toNat : Nat) : Int) := by
            rw [e60, e57]
            exact seen_all (by omega) (by omega)
          have s61 : 2 ^ (M 32 0).toNat ≤ 2 ^ 5 := Nat.pow_le_pow_right (by decide) (by omega)
          have s62 : 1 ≤ 2 ^ (M 32 0).toNat := Nat.one_le_two_pow
          obtain ⟨g60, hg60⟩ : ∃ g : Nat, g = 2 ^ (M 32 0).toNat := ⟨_, rfl⟩
          rw [← hg60] at s60 s61 s62
          refine Z_iconst hk dX6_layByHand_61 ?_
          refine Z_isub hk dX6_layByHand_62 ?_
          refine Z_icmp_eq hk (tgt := 68) dX6_layByHand_63 (by decide) (by omega) (by omega) (by omega) (by omega) (fun h63 => ?_) (fun h63 => ?_)
          · have rw68 : RW (M 32 0) (m4 36) := fun j hj => ⟨(h4.2 j (by omega)).1, tb_lt (by omega) (s := x2_4) (by rw [← hg60]; omega) (h4.2 j (by omega)).1 (h4.2 j (by omega)).2.2⟩
            refine Z_aload0 hk dX6_layByHand_68 ?_
            refine Z_aload0 hk dX6_layByHand_69 ?_
            refine Z_getR hk fl_6_21 dX6_layByHand_70 ob_32.1 ob_32.2.1 ob_32.2.2.1 ob_32.2.2.2 ft_6_5 rs_32_5 ?_
            refine Z_Vv hk (c_X6_append_b36 κ.2.1 δ ad _ hA  (by (try simp only [f4_0, and_true, true_and, or_true, true_or, implies_true, upn, reduceIte, Nat.reduceEqDiff, ne_eq, not_false_eq_true, upc]) <;> (first | omega | assumption)) (by (try simp only [f4_0, and_true, true_and, or_true, true_or, implies_true, upn, reduceIte, Nat.reduceEqDiff, ne_eq, not_false_eq_true, upc]) <;> (first | omega | assumption)) (by (try simp only [f4_0, and_true, true_and, or_true, true_or, implies_true, upn, reduceIte, Nat.reduceEqDiff, ne_eq, not_false_eq_true, upc]) <;> (first | omega | assumption)) (by (try simp only [f4_0, and_true, true_and, or_true, true_or, implies_true, upn, reduceIte, Nat.reduceEqDiff, ne_eq, not_false_eq_true, upc]) <;> (first | omega | assumption)) (by (try simp only [f4_0, and_true, true_and, or_true, true_or, implies_true, upn, reduceIte, Nat.reduceEqDiff, ne_eq, not_false_eq_true, upc]) <;> (first | omega | assumption))) ov_X6_append ml_X6_43 dX6_layByHand_73 rfl ⟨by decide, by decide⟩ ob_32.1 (by decide) (by decide) rfl (Nat.le_of_ble_eq_true rfl) (fun m73 p73 => ?_)
            obtain ⟨p73, f73_0, f73_1, f73_2, f73_3⟩ := p73
            try simp only [f73_0, f73_1, f73_2, f73_3, f4_0, e6, e46, e57, and_true, true_and, or_true, true_or, implies_true, upn, reduceIte, Nat.reduceEqDiff, ne_eq, not_false_eq_true, upc] at p73
            try simp only [f73_0, f73_1, f73_3, f4_0, and_true, true_and, or_true, true_or, implies_true, upn, reduceIte, Nat.reduceEqDiff, ne_eq, not_false_eq_true, upc] at f73_2
            try simp only [f73_0, f73_1, f73_2, f4_0, and_true, true_and, or_true, true_or, implies_true, upn, reduceIte, Nat.reduceEqDiff, ne_eq, not_false_eq_true, upc] at f73_3
            refine Z_aload0 hk dX6_layByHand_76 ?_
            refine Z_Vi hk (c_X6_unevenness κ.2.1 δ ad _ hA  (by (try simp only [f73_0, f73_1, f73_2, f73_3, f4_0, and_true, true_and, or_true, true_or, implies_true, upn, reduceIte, Nat.reduceEqDiff, ne_eq, not_false_eq_true, upc]) <;> (first | omega | assumption))) ov_X6_unevenness ml_X6_47 dX6_layByHand_77 rfl ⟨by decide, by decide⟩ ob_32.1 (by decide) (by decide) rfl (Nat.le_of_ble_eq_true rfl) (fun r77 m77 p77 => ?_)
            obtain ⟨rfl, p77⟩ := p77
            try simp only [f73_0, f73_1, f73_2, f73_3, f4_0, e6, e46, e57, and_true, true_and, or_true, true_or, implies_true, upn, reduceIte, Nat.reduceEqDiff, ne_eq, not_false_eq_true, upc] at p77
            exact Z_iret hk hA hQ dX6_layByHand_80 ⟨rfl, rfl, _, rfl, (by exact ⟨(by (try simp only [f73_0, f73_1, f73_2, f73_3, f4_0, and_true, true_and, or_true, true_or, implies_true, upn, reduceIte, Nat.reduceEqDiff, ne_eq, not_false_eq_true, upc]) <;> (omega)), (by intro c k0 k1 k2 k3 k4; simp only [f73_0, f73_1, f73_2, f73_3, f4_0, upc, upn, k0, k1, k2, k3, k4, reduceIte, Nat.reduceEqDiff, ne_eq, not_false_eq_true]), (by intro i k0; simp only [f73_0, f73_1, f73_2, f73_3, f4_0, upc, upn, k0, reduceIte, Nat.reduceEqDiff, ne_eq, not_false_eq_true]), (by (try simp only [f73_0, f73_1, f73_2, f73_3, f4_0, e6, e46, e57, and_true, true_and, or_true, true_or, implies_true, upn, reduceIte, Nat.reduceEqDiff, ne_eq, not_false_eq_true, upc, upc]) <;> (first | assumption | exact q3)), (by (try simp only [f73_0, f73_1, f73_2, f73_3, f4_0, e6, e46, e57, and_true, true_and, or_true, true_or, implies_true, upn, reduceIte, Nat.reduceEqDiff, ne_eq, not_false_eq_true, upc, upc]) <;> (first | assumption | exact q4))⟩)⟩
          · refine Z_iconst hk dX6_layByHand_66 ?_
            exact Z_iret hk hA hQ dX6_layByHand_67 ⟨rfl, rfl, _, rfl, (by exact ⟨(by (try simp only [f4_0, and_true, true_and, or_true, true_or, implies_true, upn, reduceIte, Nat.reduceEqDiff, ne_eq, not_false_eq_true, upc]) <;> (omega)), (by intro c k0 k1 k2 k3 k4; simp only [f4_0, upc, upn, k0, k1, k2, k3, k4, reduceIte, Nat.reduceEqDiff, ne_eq, not_false_eq_true]), (by intro i k0; simp only [f4_0, upc, upn, k0, reduceIte, Nat.reduceEqDiff, ne_eq, not_false_eq_true]), (by (try simp only [f4_0, e6, e46, e57, and_true, true_and, or_true, true_or, implies_true, upn, reduceIte, Nat.reduceEqDiff, ne_eq, not_false_eq_true, upc, upc]) <;> (first | assumption | exact q3)), (by (try simp only [f4_0, e6, e46, e57, and_true, true_and, or_true, true_or, implies_true, upn, reduceIte, Nat.reduceEqDiff, ne_eq, not_false_eq_true, upc, upc]) <;> (first | assumption | exact q4))⟩)⟩
      · refine Z_aload0 hk dX6_layByHand_12 ?_
        refine Z_getR hk fl_6_21 dX6_layByHand_13 ob_32.1 ob_32.2.1 ob_32.2.2.1 ob_32.2.2.2 ft_6_5 rs_32_5 ?_
        refine Z_iload3 hk dX6_layByHand_16 ?_
        refine Z_iload1 hk dX6_layByHand_17 ?_
        refine Z_iconst hk dX6_layByHand_18 ?_
        refine Z_iload3 hk dX6_layByHand_19 ?_
        refine Z_imul hk dX6_layByHand_20 ?_
        refine Z_iushr hk dX6_layByHand_21 (fun v21 e21 a21 b21 => ?_)
        refine Z_bipush hk dX6_layByHand_22 (by decide) ?_
        refine Z_iand hk dX6_layByHand_24 (fun v24 e24 a24 b24 => ?_)
        have g24 := and_mask (Int32.ofInt v21) 4 (m := 15) (by decide +kernel) (by decide)
        rw [← e24] at g24
        refine Z_iast hk hA dX6_layByHand_25 ar_36.1 ar_36.2.1 ar_36.2.2 (by omega) (by omega) (by omega) (by omega) ?_
        refine Z_nm (fun m25 em25 => ?_)
        refine Z_iload2 hk dX6_layByHand_26 ?_
        refine Z_iconst hk dX6_layByHand_27 ?_
        refine Z_aload0 hk dX6_layByHand_28 ?_
        refine Z_getR hk fl_6_21 dX6_layByHand_29 ob_32.1 ob_32.2.1 ob_32.2.2.1 ob_32.2.2.2 ft_6_5 rs_32_5 ?_
        refine Z_iload3 hk dX6_layByHand_32 ?_
        refine Z_iald hk dX6_layByHand_33 ar_36.1 ar_36.2.1 ar_36.2.2 (by omega) (by omega) (fun v33 e33 a33 b33 => ?_)
        try simp only [em25, f4_0, e6, and_true, true_and, or_true, true_or, implies_true, upn, reduceIte, Nat.reduceEqDiff, ne_eq, not_false_eq_true, upc] at e33
        refine Z_ishl hk dX6_layByHand_34 (fun v34 e34 a34 b34 => ?_)
        refine Z_ior hk dX6_layByHand_35 (fun v35 e35 a35 b35 => ?_)
        have s35 : v35 = ((x2_4.toNat ||| 2 ^ v24.toNat : Nat) : Int) := by
          rw [e35, e34, show v33 = v24 from by omega]
          exact seen_or (by omega) (by omega) (by omega) (by omega)
        have s36 : x2_4.toNat ||| 2 ^ v24.toNat < 2 ^ 16 := Nat.or_lt_two_pow (by omega) (Nat.pow_lt_pow_right (by decide) (by omega))
        refine Z_istore2 hk rfl (by decide) dX6_layByHand_36 ?_
        refine Z_iinc3 hk rfl (by decide) dX6_layByHand_37 ?_
        refine Z_goto hk (tgt := 4) dX6_layByHand_40 (by decide) ?_
        exact ih4 _ _ _ (by exact ⟨(by (refine ⟨by omega, fun j hj => ?_⟩; have y := h4.2 j; rw [show v35 = _ from s35]; simp only [em25, f4_0, e6, e33, and_true, true_and, or_true, true_or, implies_true, upn, reduceIte, Nat.reduceEqDiff, ne_eq, not_false_eq_true, upc, upc]; split; exact ⟨by omega, by omega, tb_or (Or.inr rfl)⟩; exact ⟨(y (by omega)).1, (y (by omega)).2.1, tb_or (Or.inl (y (by omega)).2.2)⟩)), (by intro c k0; simp only [em25, f4_0, upc, upn, k0, reduceIte, Nat.reduceEqDiff, ne_eq, not_false_eq_true])⟩) (by (try simp only [em25, f4_0, and_true, true_and, or_true, true_or, implies_true, upn, reduceIte, Nat.reduceEqDiff, ne_eq, not_false_eq_true, upc]) <;> (omega))
  refine Z_istore3 hk rfl (by decide) dX6_layByHand_3 ?_
  exact J4 ((((M 32 0) - 0) : Int).toNat + 1) _ _ _ (by exact ⟨(by (exact ⟨by omega, fun j hj => by omega⟩)), (by intro c k0; rfl)⟩) (by omega)
