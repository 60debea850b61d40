def NL (M : Mem) : Prop := ∀ k : Nat, (k : Int) < M 48 50 → 0 ≤ M 88 k ∧ M 88 k ≤ 5
def NK (M : Mem) : Prop := ∀ j : Nat, 0 ≤ M 89 j ∧ M 89 j ≤ 9999 ∧ 0 ≤ M 90 j ∧ M 90 j ≤ 9999 ∧ 0 ≤ M 91 j ∧ M 91 j ≤ 9999
set_option maxRecDepth 10000 in
theorem c_X9_trialTold (l : Launch) (δ : Dp) (ad : Nat → Nat) (M : Mem) (hA : okA δ ad) (z : Int) (q0 : 0 ≤ (M 48 2) ∧ (M 48 2) ≤ (M 48 3) ∧ (M 48 3) ≤ 700) (q1 : 0 ≤ (M 48 50) ∧ (M 48 50) ≤ 4) (q2 : 0 ≤ (M 48 48) ∧ (M 48 48) ≤ 6) (q3 : 0 ≤ z ∧ z ≤ 1) (q4 : NL M) : Mv l δ yX9_trialTold cX9_trialTold 2 none 5 109 ad rs [.ref (ad 48), iv z] M (fun M' => ((M 48 2) ≤ (M' 48 2) ∧ (M' 48 2) ≤ (M 48 3) ∧ ((M 48 5) ≠ 0 → (M' 48 5) = (M 48 5)) ∧ 0 ≤ (M' 48 50) ∧ (M' 48 50) ≤ 4) ∧ (∀ c : Nat, c ≠ 48 → c ≠ 85 → c ≠ 86 → c ≠ 87 → c ≠ 88 → M' c = M c) ∧ (∀ i : Nat, i ≠ 2 → i ≠ 4 → i ≠ 5 → i ≠ 6 → i ≠ 41 → i ≠ 50 → M' 48 i = M 48 i) ∧ (NL M')) := by
  refine Mg.of (rm := rmN 5 109) (by decide) (Nat.le_of_ble_eq_true rfl) fun κ _ hk _ => ?_
  generalize hQ : Qg κ δ 121 (rmN 5 109).cells (rmN 5 109).slots _ = Q
  show Zj κ δ ad rs Q 2 (121, 0, 0) 0 [some (.ref (ad 48)), some (iv z)] [] M
  refine Z_aload0 hk dX9_trialTold_0 ?_
  refine Z_getI hk fl_9_346 dX9_trialTold_1 ob_48.1 ob_48.2.1 ob_48.2.2.1 ob_48.2.2.2 ft_9_50 (fun v1 e1 a1 b1 => ?_)
  refine Z_iconst hk dX9_trialTold_4 ?_
  refine Z_icmp_ne hk (tgt := 18) dX9_trialTold_5 (by decide) (by omega) (by omega) (by decide) (by decide) (fun h5 => ?_) (fun h5 => ?_)
  · refine Z_aload0 hk dX9_trialTold_18 ?_
    refine Z_getR hk fl_9_124 dX9_trialTold_19 ob_48.1 ob_48.2.1 ob_48.2.2.1 ob_48.2.2.2 ft_9_51 rs_48_51 ?_
    refine Z_aload0 hk dX9_trialTold_22 ?_
    refine Z_getI hk fl_9_346 dX9_trialTold_23 ob_48.1 ob_48.2.1 ob_48.2.2.1 ob_48.2.2.2 ft_9_50 (fun v23 e23 a23 b23 => ?_)
    try simp only [e1, and_true, true_and, or_true, true_or, implies_true, upn, reduceIte, Nat.reduceEqDiff, ne_eq, not_false_eq_true] at e23
    refine Z_iload1 hk dX9_trialTold_26 ?_
    refine Z_zast hk hA dX9_trialTold_27 ar_85.1 ar_85.2.1 ar_85.2.2 (by omega) (by omega) (by omega) (by omega) ?_
    refine Z_nm (fun m27 em27 => ?_)
    refine Z_aload0 hk dX9_trialTold_28 ?_
    refine Z_getR hk fl_9_128 dX9_trialTold_29 ob_48.1 ob_48.2.1 ob_48.2.2.1 ob_48.2.2.2 ft_9_52 rs_48_52 ?_
    refine Z_aload0 hk dX9_trialTold_32 ?_
    refine Z_getI hk fl_9_346 dX9_trialTold_33 ob_48.1 ob_48.2.1 ob_48.2.2.1 ob_48.2.2.2 ft_9_50 (fun v33 e33 a33 b33 => ?_)
    try simp only [em27, e1, e23, and_true, true_and, or_true, true_or, implies_true, upn, reduceIte, Nat.reduceEqDiff, ne_eq, not_false_eq_true] at e33
    refine Z_aload0 hk dX9_trialTold_36 ?_
    refine Z_Vi hk (c_X9_product κ.2.1 δ ad _ hA  (by (try simp only [em27, and_true, true_and, or_true, true_or, implies_true, upn, reduceIte, Nat.reduceEqDiff, ne_eq, not_false_eq_true]) <;> (omega)) (by (try simp only [em27, and_true, true_and, or_true, true_or, implies_true, upn, reduceIte, Nat.reduceEqDiff, ne_eq, not_false_eq_true]) <;> (omega))) ov_X9_product ml_X9_353 dX9_trialTold_37 rfl ⟨by decide, by decide⟩ ob_48.1 (by decide) (by decide) rfl (Nat.le_of_ble_eq_true rfl) (fun r37 m37 p37 => ?_)
    obtain ⟨p37, f37_0, f37_1⟩ := p37
    try simp only [f37_0, f37_1, em27, e1, e23, e33, and_true, true_and, or_true, true_or, implies_true, upn, reduceIte, Nat.reduceEqDiff, ne_eq, not_false_eq_true] at p37
    refine Z_iast hk hA dX9_trialTold_40 ar_86.1 ar_86.2.1 ar_86.2.2 (by omega) (by omega) (by omega) (by omega) ?_
    refine Z_nm (fun m40 em40 => ?_)
    refine Z_aload0 hk dX9_trialTold_41 ?_
    refine Z_aload0 hk dX9_trialTold_42 ?_
    refine Z_getR hk fl_9_24 dX9_trialTold_43 ob_48.1 ob_48.2.1 ob_48.2.2.1 ob_48.2.2.2 ft_9_11 rs_48_11 ?_
    refine Z_Vv hk (c_X9_asks κ.2.1 δ ad _ hA 52 7 ar_52 (by (try simp only [em40, f37_0, f37_1, em27, and_true, true_and, or_true, true_or, implies_true, upn, reduceIte, Nat.reduceEqDiff, ne_eq, not_false_eq_true]) <;> (omega))) ov_X9_asks ml_X9_339 dX9_trialTold_46 rfl ⟨by decide, by decide⟩ ob_48.1 (by decide) (by decide) rfl (Nat.le_of_ble_eq_true rfl) (fun m46 p46 => ?_)
    obtain ⟨p46, f46_0, f46_1⟩ := p46
    try simp only [f46_0, f46_1, em40, f37_0, f37_1, em27, e1, e23, e33, and_true, true_and, or_true, true_or, implies_true, upn, reduceIte, Nat.reduceEqDiff, ne_eq, not_false_eq_true] at p46
    refine Z_aload0 hk dX9_trialTold_49 ?_
    refine Z_getR hk fl_9_131 dX9_trialTold_50 ob_48.1 ob_48.2.1 ob_48.2.2.1 ob_48.2.2.2 ft_9_53 rs_48_53 ?_
    refine Z_aload0 hk dX9_trialTold_53 ?_
    refine Z_getI hk fl_9_346 dX9_trialTold_54 ob_48.1 ob_48.2.1 ob_48.2.2.1 ob_48.2.2.2 ft_9_50 (fun v54 e54 a54 b54 => ?_)
    try simp only [f46_0, f46_1, em40, f37_0, f37_1, em27, e1, e23, e33, and_true, true_and, or_true, true_or, implies_true, upn, reduceIte, Nat.reduceEqDiff, ne_eq, not_false_eq_true] at e54
    refine Z_aload0 hk dX9_trialTold_57 ?_
    refine Z_Vi hk (c_X9_product κ.2.1 δ ad _ hA  (by (try simp only [f46_0, f46_1, em40, f37_0, f37_1, em27, and_true, true_and, or_true, true_or, implies_true, upn, reduceIte, Nat.reduceEqDiff, ne_eq, not_false_eq_true]) <;> (omega)) (by (try simp only [f46_0, f46_1, em40, f37_0, f37_1, em27, and_true, true_and, or_true, true_or, implies_true, upn, reduceIte, Nat.reduceEqDiff, ne_eq, not_false_eq_true]) <;> (omega))) ov_X9_product ml_X9_353 dX9_trialTold_58 rfl ⟨by decide, by decide⟩ ob_48.1 (by decide) (by decide) rfl (Nat.le_of_ble_eq_true rfl) (fun r58 m58 p58 => ?_)
    obtain ⟨p58, f58_0, f58_1⟩ := p58
    try simp only [f58_0, f58_1, f46_0, f46_1, em40, f37_0, f37_1, em27, e1, e23, e33, e54, and_true, true_and, or_true, true_or, implies_true, upn, reduceIte, Nat.reduceEqDiff, ne_eq, not_false_eq_true] at p58
    refine Z_iast hk hA dX9_trialTold_61 ar_87.1 ar_87.2.1 ar_87.2.2 (by omega) (by omega) (by omega) (by omega) ?_
    refine Z_nm (fun m61 em61 => ?_)
    refine Z_aload0 hk dX9_trialTold_62 ?_
    refine Z_getI hk fl_9_245 dX9_trialTold_63 ob_48.1 ob_48.2.1 ob_48.2.2.1 ob_48.2.2.2 ft_9_5 (fun v63 e63 a63 b63 => ?_)
    try simp only [em61, f58_0, f58_1, f46_0, f46_1, em40, f37_0, f37_1, em27, e1, e23, e33, e54, and_true, true_and, or_true, true_or, implies_true, upn, reduceIte, Nat.reduceEqDiff, ne_eq, not_false_eq_true] at e63
    have J99 : ∀ (m99 : Mem), (((M 48 2) ≤ (m99 48 2) ∧ (m99 48 2) ≤ (M 48 3) ∧ ((M 48 5) ≠ 0 → (m99 48 5) = (M 48 5))) ∧ (∀ c : Nat, c ≠ 48 → m99 c = m61 c) ∧ (∀ i : Nat, i ≠ 5 → i ≠ 6 → m99 48 i = m61 48 i)) → Zj κ δ ad rs Q 2 (121, 0, 0) 99 [some (.ref (ad 48)), some (iv z)] [] m99 := by
      intro m99 h99
      obtain ⟨h99, f99_0, f99_1⟩ := h99
      try simp only [f99_0, f99_1, em61, f58_0, f58_1, f46_0, f46_1, em40, f37_0, f37_1, em27, and_true, true_and, or_true, true_or, implies_true, upn, reduceIte, Nat.reduceEqDiff, ne_eq, not_false_eq_true] at h99
      refine Z_aload0 hk dX9_trialTold_99 ?_
      refine Z_getR hk fl_9_134 dX9_trialTold_100 ob_48.1 ob_48.2.1 ob_48.2.2.1 ob_48.2.2.2 ft_9_54 rs_48_54 ?_
      refine Z_aload0 hk dX9_trialTold_103 ?_
      refine Z_getI hk fl_9_346 dX9_trialTold_104 ob_48.1 ob_48.2.1 ob_48.2.2.1 ob_48.2.2.2 ft_9_50 (fun v104 e104 a104 b104 => ?_)
      try simp only [f99_0, f99_1, em61, f58_0, f58_1, f46_0, f46_1, em40, f37_0, f37_1, em27, e1, e23, e33, e54, e63, and_true, true_and, or_true, true_or, implies_true, upn, reduceIte, Nat.reduceEqDiff, ne_eq, not_false_eq_true] at e104
      refine Z_iconst hk dX9_trialTold_107 ?_
      refine Z_iast hk hA dX9_trialTold_108 ar_88.1 ar_88.2.1 ar_88.2.2 (by omega) (by omega) (by decide) (by decide) ?_
      refine Z_nm (fun m108 em108 => ?_)
      refine Z_aload0 hk dX9_trialTold_109 ?_
      refine Z_dup1 hk rfl dX9_trialTold_110 ?_
      refine Z_getI hk fl_9_346 dX9_trialTold_111 ob_48.1 ob_48.2.1 ob_48.2.2.1 ob_48.2.2.2 ft_9_50 (fun v111 e111 a111 b111 => ?_)
      try simp only [em108, f99_0, f99_1, em61, f58_0, f58_1, f46_0, f46_1, em40, f37_0, f37_1, em27, e1, e23, e33, e54, e63, e104, and_true, true_and, or_true, true_or, implies_true, upn, reduceIte, Nat.reduceEqDiff, ne_eq, not_false_eq_true] at e111
      refine Z_iconst hk dX9_trialTold_114 ?_
      refine Z_iadd hk dX9_trialTold_115 ?_
      refine Z_putI hk hA fl_9_346 dX9_trialTold_116 ob_48.1 ob_48.2.1 ob_48.2.2.1 ob_48.2.2.2 ft_9_50 (by omega) (by omega) ?_
      refine Z_nm (fun m116 em116 => ?_)
      have hl : NL m116 := fun k hk => by
        have y := q4 k
        simp only [em116, em108, f99_0, f99_1, em61, f58_0, f58_1, f46_0, f46_1, em40, f37_0, f37_1, em27, e1, e23, e33, e54, e63, e104, e111, and_true, true_and, or_true, true_or, implies_true, upn, reduceIte, Nat.reduceEqDiff, ne_eq, not_false_eq_true, upc] at hk ⊢
        split
        · omega
        · exact y (by omega)
      exact Z_vret hk hA hQ dX9_trialTold_119 ⟨rfl, rfl, rfl, (by exact ⟨(by (try simp only [em116, em108, f99_0, f99_1, em61, f58_0, f58_1, f46_0, f46_1, em40, f37_0, f37_1, em27, and_true, true_and, or_true, true_or, implies_true, upn, reduceIte, Nat.reduceEqDiff, ne_eq, not_false_eq_true]) <;> (omega)), (by intro c k0 k1 k2 k3 k4; simp only [em116, em108, f99_0, f99_1, em61, f58_0, f58_1, f46_0, f46_1, em40, f37_0, f37_1, em27, upc, upn, k0, k1, k2, k3, k4, reduceIte, Nat.reduceEqDiff, ne_eq, not_false_eq_true]), (by intro i k0 k1 k2 k3 k4 k5; simp only [em116, em108, f99_0, f99_1, em61, f58_0, f58_1, f46_0, f46_1, em40, f37_0, f37_1, em27, upc, upn, k0, k1, k2, k3, k4, k5, reduceIte, Nat.reduceEqDiff, ne_eq, not_false_eq_true]), (by first | exact hl | exact (fun k hk => by have := q4 k (by (try simp only [em116, em108, f99_0, f99_1, em61, f58_0, f58_1, f46_0, f46_1, em40, f37_0, f37_1, em27, e1, e23, e33, e54, e63, e104, e111, and_true, true_and, or_true, true_or, implies_true, upn, reduceIte, Nat.reduceEqDiff, ne_eq, not_false_eq_true, upc] at hk); omega); (try simp only [em116, em108, f99_0, f99_1, em61, f58_0, f58_1, f46_0, f46_1, em40, f37_0, f37_1, em27, e1, e23, e33, e54, e63, e104, e111, and_true, true_and, or_true, true_or, implies_true, upn, reduceIte, Nat.reduceEqDiff, ne_eq, not_false_eq_true, upc]); omega))⟩)⟩
    refine Z_if_ne hk (tgt := 99) dX9_trialTold_66 (by decide) (by omega) (by omega) (fun h66 => ?_) (fun h66 => ?_)
    · exact J99 _ (by exact ⟨(by (try simp only [em61, f58_0, f58_1, f46_0, f46_1, em40, f37_0, f37_1, em27, and_true, true_and, or_true, true_or, implies_true, upn, reduceIte, Nat.reduceEqDiff, ne_eq, not_false_eq_true]) <;> (omega)), (by intro c k0; simp only [em61, f58_0, f58_1, f46_0, f46_1, em40, f37_0, f37_1, em27, upc, upn, k0, reduceIte, Nat.reduceEqDiff, ne_eq, not_false_eq_true]), (by intro i k0 k1; simp only [em61, f58_0, f58_1, f46_0, f46_1, em40, f37_0, f37_1, em27, upc, upn, k0, k1, reduceIte, Nat.reduceEqDiff, ne_eq, not_false_eq_true])⟩)
    · refine Z_aload0 hk dX9_trialTold_69 ?_
      refine Z_getR hk fl_9_128 dX9_trialTold_70 ob_48.1 ob_48.2.1 ob_48.2.2.1 ob_48.2.2.2 ft_9_52 rs_48_52 ?_
      refine Z_aload0 hk dX9_trialTold_73 ?_
      refine Z_getI hk fl_9_346 dX9_trialTold_74 ob_48.1 ob_48.2.1 ob_48.2.2.1 ob_48.2.2.2 ft_9_50 (fun v74 e74 a74 b74 => ?_)
      try simp only [em61, f58_0, f58_1, f46_0, f46_1, em40, f37_0, f37_1, em27, e1, e23, e33, e54, e63, and_true, true_and, or_true, true_or, implies_true, upn, reduceIte, Nat.reduceEqDiff, ne_eq, not_false_eq_true] at e74
      refine Z_iald hk dX9_trialTold_77 ar_86.1 ar_86.2.1 ar_86.2.2 (by omega) (by omega) (fun v77 e77 a77 b77 => ?_)
      try simp only [em61, f58_0, f58_1, f46_0, f46_1, em40, f37_0, f37_1, em27, e1, e23, e33, e54, e63, e74, and_true, true_and, or_true, true_or, implies_true, upn, reduceIte, Nat.reduceEqDiff, ne_eq, not_false_eq_true] at e77
      refine Z_aload0 hk dX9_trialTold_78 ?_
      refine Z_getR hk fl_9_131 dX9_trialTold_79 ob_48.1 ob_48.2.1 ob_48.2.2.1 ob_48.2.2.2 ft_9_53 rs_48_53 ?_
      refine Z_aload0 hk dX9_trialTold_82 ?_
      refine Z_getI hk fl_9_346 dX9_trialTold_83 ob_48.1 ob_48.2.1 ob_48.2.2.1 ob_48.2.2.2 ft_9_50 (fun v83 e83 a83 b83 => ?_)
      try simp only [em61, f58_0, f58_1, f46_0, f46_1, em40, f37_0, f37_1, em27, e1, e23, e33, e54, e63, e74, e77, and_true, true_and, or_true, true_or, implies_true, upn, reduceIte, Nat.reduceEqDiff, ne_eq, not_false_eq_true] at e83
      refine Z_iald hk dX9_trialTold_86 ar_87.1 ar_87.2.1 ar_87.2.2 (by omega) (by omega) (fun v86 e86 a86 b86 => ?_)
      try simp only [em61, f58_0, f58_1, f46_0, f46_1, em40, f37_0, f37_1, em27, e1, e23, e33, e54, e63, e74, e77, e83, and_true, true_and, or_true, true_or, implies_true, upn, reduceIte, Nat.reduceEqDiff, ne_eq, not_false_eq_true] at e86
      refine Z_icmp_ne hk (tgt := 99) dX9_trialTold_87 (by decide) (by omega) (by omega) (by omega) (by omega) (fun h87 => ?_) (fun h87 => ?_)
      · exact J99 _ (by exact ⟨(by (try simp only [em61, f58_0, f58_1, f46_0, f46_1, em40, f37_0, f37_1, em27, and_true, true_and, or_true, true_or, implies_true, upn, reduceIte, Nat.reduceEqDiff, ne_eq, not_false_eq_true]) <;> (omega)), (by intro c k0; simp only [em61, f58_0, f58_1, f46_0, f46_1, em40, f37_0, f37_1, em27, upc, upn, k0, reduceIte, Nat.reduceEqDiff, ne_eq, not_false_eq_true]), (by intro i k0 k1; simp only [em61, f58_0, f58_1, f46_0, f46_1, em40, f37_0, f37_1, em27, upc, upn, k0, k1, reduceIte, Nat.reduceEqDiff, ne_eq, not_false_eq_true])⟩)
      · refine Z_aload0 hk dX9_trialTold_90 ?_
        refine Z_iconst hk dX9_trialTold_91 ?_
        refine Z_aload0 hk dX9_trialTold_92 ?_
        refine Z_getI hk fl_9_293 dX9_trialTold_93 ob_48.1 ob_48.2.1 ob_48.2.2.1 ob_48.2.2.2 ft_9_41 (fun v93 e93 a93 b93 => ?_)
        try simp only [em61, f58_0, f58_1, f46_0, f46_1, em40, f37_0, f37_1, em27, e1, e23, e33, e54, e63, e74, e77, e83, e86, and_true, true_and, or_true, true_or, implies_true, upn, reduceIte, Nat.reduceEqDiff, ne_eq, not_false_eq_true] at e93
        refine Z_Vv hk (c_X9_fail κ.2.1 δ ad _ hA 3 v93 (by (try simp only [em61, f58_0, f58_1, f46_0, f46_1, em40, f37_0, f37_1, em27, and_true, true_and, or_true, true_or, implies_true, upn, reduceIte, Nat.reduceEqDiff, ne_eq, not_false_eq_true]) <;> (omega)) (by (try simp only [em61, f58_0, f58_1, f46_0, f46_1, em40, f37_0, f37_1, em27, and_true, true_and, or_true, true_or, implies_true, upn, reduceIte, Nat.reduceEqDiff, ne_eq, not_false_eq_true]) <;> (omega))) ov_X9_fail ml_X9_275 dX9_trialTold_96 rfl ⟨by decide, by decide⟩ ob_48.1 (by decide) (by decide) rfl (Nat.le_of_ble_eq_true rfl) (fun m96 p96 => ?_)
        obtain ⟨p96, f96_0, f96_1⟩ := p96
        try simp only [f96_0, f96_1, em61, f58_0, f58_1, f46_0, f46_1, em40, f37_0, f37_1, em27, e1, e23, e33, e54, e63, e74, e77, e83, e86, e93, and_true, true_and, or_true, true_or, implies_true, upn, reduceIte, Nat.reduceEqDiff, ne_eq, not_false_eq_true] at p96
        exact J99 _ (by exact ⟨(by (try simp only [f96_0, f96_1, em61, f58_0, f58_1, f46_0, f46_1, em40, f37_0, f37_1, em27, and_true, true_and, or_true, true_or, implies_true, upn, reduceIte, Nat.reduceEqDiff, ne_eq, not_false_eq_true]) <;> (omega)), (by intro c k0; simp only [f96_0, f96_1, em61, f58_0, f58_1, f46_0, f46_1, em40, f37_0, f37_1, em27, upc, upn, k0, reduceIte, Nat.reduceEqDiff, ne_eq, not_false_eq_true]), (by intro i k0 k1; simp only [f96_0, f96_1, em61, f58_0, f58_1, f46_0, f46_1, em40, f37_0, f37_1, em27, upc, upn, k0, k1, reduceIte, Nat.reduceEqDiff, ne_eq, not_false_eq_true])⟩)
  · refine Z_aload0 hk dX9_trialTold_8 ?_
    refine Z_iconst hk dX9_trialTold_9 ?_
    refine Z_aload0 hk dX9_trialTold_10 ?_
    refine Z_getI hk fl_9_386 dX9_trialTold_11 ob_48.1 ob_48.2.1 ob_48.2.2.1 ob_48.2.2.2 ft_9_80 (fun v11 e11 a11 b11 => ?_)
    try simp only [e1, and_true, true_and, or_true, true_or, implies_true, upn, reduceIte, Nat.reduceEqDiff, ne_eq, not_false_eq_true] at e11
    refine Z_Vv hk (c_X9_fail κ.2.1 δ ad _ hA 5 v11 (by (omega)) (by (omega))) ov_X9_fail ml_X9_275 dX9_trialTold_14 rfl ⟨by decide, by decide⟩ ob_48.1 (by decide) (by decide) rfl (Nat.le_of_ble_eq_true rfl) (fun m14 p14 => ?_)
    obtain ⟨p14, f14_0, f14_1⟩ := p14
    try simp only [f14_0, f14_1, e1, e11, and_true, true_and, or_true, true_or, implies_true, upn, reduceIte, Nat.reduceEqDiff, ne_eq, not_false_eq_true] at p14
    exact Z_vret hk hA hQ dX9_trialTold_17 ⟨rfl, rfl, rfl, (by exact ⟨(by (try simp only [f14_0, f14_1, and_true, true_and, or_true, true_or, implies_true, upn, reduceIte, Nat.reduceEqDiff, ne_eq, not_false_eq_true]) <;> (omega)), (by intro c k0 k1 k2 k3 k4; simp only [f14_0, f14_1, upc, upn, k0, k1, k2, k3, k4, reduceIte, Nat.reduceEqDiff, ne_eq, not_false_eq_true]), (by intro i k0 k1 k2 k3 k4 k5; simp only [f14_0, f14_1, upc, upn, k0, k1, k2, k3, k4, k5, reduceIte, Nat.reduceEqDiff, ne_eq, not_false_eq_true]), (by first | exact hl | exact (fun k hk => by have := q4 k (by (try simp only [f14_0, f14_1, e1, e11, and_true, true_and, or_true, true_or, implies_true, upn, reduceIte, Nat.reduceEqDiff, ne_eq, not_false_eq_true, upc] at hk); omega); (try simp only [f14_0, f14_1, e1, e11, and_true, true_and, or_true, true_or, implies_true, upn, reduceIte, Nat.reduceEqDiff, ne_eq, not_false_eq_true, upc]); omega))⟩)⟩
set_option maxRecDepth 10000 in
theorem c_X9_lookTold (l : Launch) (δ : Dp) (ad : Nat → Nat) (M : Mem) (hA : okA δ ad) (q0 : 0 ≤ (M 48 2) ∧ (M 48 2) ≤ (M 48 3) ∧ (M 48 3) ≤ 700) (q1 : 0 ≤ (M 48 50) ∧ (M 48 50) ≤ 4) (q4 : NL M) (q5 : NK M) : Mv l δ yX9_lookTold cX9_lookTold 4 none 4 85 ad rs [.ref (ad 48)] M (fun M' => ((M 48 2) ≤ (M' 48 2) ∧ (M' 48 2) ≤ (M 48 3) ∧ ((M 48 5) ≠ 0 → (M' 48 5) = (M 48 5))) ∧ (∀ c : Nat, c ≠ 48 → c ≠ 88 → c ≠ 89 → c ≠ 90 → c ≠ 91 → M' c = M c) ∧ (∀ i : Nat, i ≠ 2 → i ≠ 4 → i ≠ 5 → i ≠ 6 → M' 48 i = M 48 i) ∧ (NL M') ∧ (NK M')) := by
  refine Mg.of (rm := rmN 4 85) (by decide) (Nat.le_of_ble_eq_true rfl) fun κ _ hk _ => ?_
  generalize hQ : Qg κ δ 121 (rmN 4 85).cells (rmN 4 85).slots _ = Q
  show Zj κ δ ad rs Q 4 (121, 0, 0) 0 [some (.ref (ad 48)), none, none, none] [] M
  refine Z_aload0 hk dX9_lookTold_0 ?_
  refine Z_getI hk fl_9_346 dX9_lookTold_1 ob_48.1 ob_48.2.1 ob_48.2.2.1 ob_48.2.2.2 ft_9_50 (fun v1 e1 a1 b1 => ?_)
  refine Z_if_ne hk (tgt := 17) dX9_lookTold_4 (by decide) (by omega) (by omega) (fun h4 => ?_) (fun h4 => ?_)
  · refine Z_aload0 hk dX9_lookTold_17 ?_
    refine Z_getI hk fl_9_346 dX9_lookTold_18 ob_48.1 ob_48.2.1 ob_48.2.2.1 ob_48.2.2.2 ft_9_50 (fun v18 e18 a18 b18 => ?_)
    try simp only [e1, and_true, true_and, or_true, true_or, implies_true, upn, reduceIte, Nat.reduceEqDiff, ne_eq, not_false_eq_true] at e18
    refine Z_iconst hk dX9_lookTold_21 ?_
    refine Z_isub hk dX9_lookTold_22 ?_
    refine Z_istore1 hk rfl (by decide) dX9_lookTold_23 ?_
    have g29 := q4 (M 48 50 - 1).toNat (by omega)
    refine Z_aload0 hk dX9_lookTold_24 ?_
    refine Z_getR hk fl_9_134 dX9_lookTold_25 ob_48.1 ob_48.2.1 ob_48.2.2.1 ob_48.2.2.2 ft_9_54 rs_48_54 ?_
    refine Z_iload1 hk dX9_lookTold_28 ?_
    refine Z_iald hk dX9_lookTold_29 ar_88.1 ar_88.2.1 ar_88.2.2 (by omega) (by omega) (fun v29 e29 a29 b29 => ?_)
    try simp only [e1, e18, and_true, true_and, or_true, true_or, implies_true, upn, reduceIte, Nat.reduceEqDiff, ne_eq, not_false_eq_true] at e29
    refine Z_istore2 hk rfl (by decide) dX9_lookTold_30 ?_
    refine Z_iload2 hk dX9_lookTold_31 ?_
    refine Z_iconst hk dX9_lookTold_32 ?_
    refine Z_icmp_ne hk (tgt := 46) dX9_lookTold_33 (by decide) (by omega) (by omega) (by decide) (by decide) (fun h33 => ?_) (fun h33 => ?_)
    · refine Z_iconst hk dX9_lookTold_46 ?_
      refine Z_iload1 hk dX9_lookTold_47 ?_
      refine Z_imul hk dX9_lookTold_48 ?_
      refine Z_iload2 hk dX9_lookTold_49 ?_
      refine Z_iadd hk dX9_lookTold_50 ?_
      refine Z_istore3 hk rfl (by decide) dX9_lookTold_51 ?_
      refine Z_aload0 hk dX9_lookTold_52 ?_
      refine Z_getR hk fl_9_137 dX9_lookTold_53 ob_48.1 ob_48.2.1 ob_48.2.2.1 ob_48.2.2.2 ft_9_55 rs_48_55 ?_
      refine Z_iload3 hk dX9_lookTold_56 ?_
      refine Z_aload0 hk dX9_lookTold_57 ?_
      refine Z_iload2 hk dX9_lookTold_58 ?_
      have J76 : ∀ (y3_76 : Int), (-2147483648 ≤ y3_76 ∧ y3_76 ≤ 2147483647) → Zj κ δ ad rs Q 4 (121, 0, 0) 76 [some (.ref (ad 48)), some (iv (v18 - 1)), some (iv v29), some (iv ((5 * (v18 - 1)) + v29))] [iv y3_76, .ref (ad 48), iv ((5 * (v18 - 1)) + v29), .ref (ad 89)] M := by
        intro y3_76 h76
        refine Z_bipush hk dX9_lookTold_76 (by decide) ?_
        refine Z_Vi hk (c_X9_number κ.2.1 δ ad _ hA y3_76 30 (by (omega)) (by (omega)) (by (omega))) ov_X9_number ml_X9_349 dX9_lookTold_78 rfl ⟨by decide, by decide⟩ ob_48.1 (by decide) (by decide) rfl (Nat.le_of_ble_eq_true rfl) (fun r78 m78 p78 => ?_)
        obtain ⟨p78, f78_0, f78_1⟩ := p78
        try simp only [f78_0, f78_1, e1, e18, e29, and_true, true_and, or_true, true_or, implies_true, upn, reduceIte, Nat.reduceEqDiff, ne_eq, not_false_eq_true] at p78
        refine Z_iast hk hA dX9_lookTold_81 ar_89.1 ar_89.2.1 ar_89.2.2 (by omega) (by omega) (by omega) (by omega) ?_
        refine Z_nm (fun m81 em81 => ?_)
        refine Z_aload0 hk dX9_lookTold_82 ?_
        refine Z_aload0 hk dX9_lookTold_83 ?_
        refine Z_getR hk fl_9_33 dX9_lookTold_84 ob_48.1 ob_48.2.1 ob_48.2.2.1 ob_48.2.2.2 ft_9_14 rs_48_14 ?_
        refine Z_Vv hk (c_X9_asks κ.2.1 δ ad _ hA 55 5 ar_55 (by (try simp only [em81, f78_0, f78_1, and_true, true_and, or_true, true_or, implies_true, upn, reduceIte, Nat.reduceEqDiff, ne_eq, not_false_eq_true]) <;> (omega))) ov_X9_asks ml_X9_339 dX9_lookTold_87 rfl ⟨by decide, by decide⟩ ob_48.1 (by decide) (by decide) rfl (Nat.le_of_ble_eq_true rfl) (fun m87 p87 => ?_)
        obtain ⟨p87, f87_0, f87_1⟩ := p87
        try simp only [f87_0, f87_1, em81, f78_0, f78_1, e1, e18, e29, and_true, true_and, or_true, true_or, implies_true, upn, reduceIte, Nat.reduceEqDiff, ne_eq, not_false_eq_true] at p87
        refine Z_aload0 hk dX9_lookTold_90 ?_
        refine Z_getR hk fl_9_140 dX9_lookTold_91 ob_48.1 ob_48.2.1 ob_48.2.2.1 ob_48.2.2.2 ft_9_56 rs_48_56 ?_
        refine Z_iload3 hk dX9_lookTold_94 ?_
        refine Z_aload0 hk dX9_lookTold_95 ?_
        refine Z_iconst hk dX9_lookTold_96 ?_
        refine Z_sipush hk dX9_lookTold_97 (by decide) ?_
        refine Z_Vi hk (c_X9_number κ.2.1 δ ad _ hA 1 1000 (by (try simp only [f87_0, f87_1, em81, f78_0, f78_1, and_true, true_and, or_true, true_or, implies_true, upn, reduceIte, Nat.reduceEqDiff, ne_eq, not_false_eq_true]) <;> (omega)) (by (try simp only [f87_0, f87_1, em81, f78_0, f78_1, and_true, true_and, or_true, true_or, implies_true, upn, reduceIte, Nat.reduceEqDiff, ne_eq, not_false_eq_true]) <;> (omega)) (by (try simp only [f87_0, f87_1, em81, f78_0, f78_1, and_true, true_and, or_true, true_or, implies_true, upn, reduceIte, Nat.reduceEqDiff, ne_eq, not_false_eq_true]) <;> (omega))) ov_X9_number ml_X9_349 dX9_lookTold_100 rfl ⟨by decide, by decide⟩ ob_48.1 (by decide) (by decide) rfl (Nat.le_of_ble_eq_true rfl) (fun r100 m100 p100 => ?_)
        obtain ⟨p100, f100_0, f100_1⟩ := p100
        try simp only [f100_0, f100_1, f87_0, f87_1, em81, f78_0, f78_1, e1, e18, e29, and_true, true_and, or_true, true_or, implies_true, upn, reduceIte, Nat.reduceEqDiff, ne_eq, not_false_eq_true] at p100
        refine Z_iast hk hA dX9_lookTold_103 ar_90.1 ar_90.2.1 ar_90.2.2 (by omega) (by omega) (by omega) (by omega) ?_
        refine Z_nm (fun m103 em103 => ?_)
        refine Z_aload0 hk dX9_lookTold_104 ?_
        refine Z_aload0 hk dX9_lookTold_105 ?_
        refine Z_getR hk fl_9_36 dX9_lookTold_106 ob_48.1 ob_48.2.1 ob_48.2.2.1 ob_48.2.2.2 ft_9_15 rs_48_15 ?_
        refine Z_Vv hk (c_X9_asks κ.2.1 δ ad _ hA 56 2 ar_56 (by (try simp only [em103, f100_0, f100_1, f87_0, f87_1, em81, f78_0, f78_1, and_true, true_and, or_true, true_or, implies_true, upn, reduceIte, Nat.reduceEqDiff, ne_eq, not_false_eq_true]) <;> (omega))) ov_X9_asks ml_X9_339 dX9_lookTold_109 rfl ⟨by decide, by decide⟩ ob_48.1 (by decide) (by decide) rfl (Nat.le_of_ble_eq_true rfl) (fun m109 p109 => ?_)
        obtain ⟨p109, f109_0, f109_1⟩ := p109
        try simp only [f109_0, f109_1, em103, f100_0, f100_1, f87_0, f87_1, em81, f78_0, f78_1, e1, e18, e29, and_true, true_and, or_true, true_or, implies_true, upn, reduceIte, Nat.reduceEqDiff, ne_eq, not_false_eq_true] at p109
        refine Z_aload0 hk dX9_lookTold_112 ?_
        refine Z_getR hk fl_9_143 dX9_lookTold_113 ob_48.1 ob_48.2.1 ob_48.2.2.1 ob_48.2.2.2 ft_9_57 rs_48_57 ?_
        refine Z_iload3 hk dX9_lookTold_116 ?_
        refine Z_aload0 hk dX9_lookTold_117 ?_
        refine Z_aload0 hk dX9_lookTold_118 ?_
        refine Z_getR hk fl_9_140 dX9_lookTold_119 ob_48.1 ob_48.2.1 ob_48.2.2.1 ob_48.2.2.2 ft_9_56 rs_48_56 ?_
        refine Z_iload3 hk dX9_lookTold_122 ?_
        refine Z_iald hk dX9_lookTold_123 ar_90.1 ar_90.2.1 ar_90.2.2 (by omega) (by omega) (fun v123 e123 a123 b123 => ?_)
        try simp only [f109_0, f109_1, em103, f100_0, f100_1, f87_0, f87_1, em81, f78_0, f78_1, e1, e18, e29, and_true, true_and, or_true, true_or, implies_true, upn, reduceIte, Nat.reduceEqDiff, ne_eq, not_false_eq_true] at e123
        refine Z_sipush hk dX9_lookTold_124 (by decide) ?_
        refine Z_Vi hk (c_X9_number κ.2.1 δ ad _ hA v123 1000 (by (try simp only [f109_0, f109_1, em103, f100_0, f100_1, f87_0, f87_1, em81, f78_0, f78_1, and_true, true_and, or_true, true_or, implies_true, upn, reduceIte, Nat.reduceEqDiff, ne_eq, not_false_eq_true]) <;> (omega)) (by (try simp only [f109_0, f109_1, em103, f100_0, f100_1, f87_0, f87_1, em81, f78_0, f78_1, and_true, true_and, or_true, true_or, implies_true, upn, reduceIte, Nat.reduceEqDiff, ne_eq, not_false_eq_true]) <;> (omega)) (by (try simp only [f109_0, f109_1, em103, f100_0, f100_1, f87_0, f87_1, em81, f78_0, f78_1, and_true, true_and, or_true, true_or, implies_true, upn, reduceIte, Nat.reduceEqDiff, ne_eq, not_false_eq_true]) <;> (omega))) ov_X9_number ml_X9_349 dX9_lookTold_127 rfl ⟨by decide, by decide⟩ ob_48.1 (by decide) (by decide) rfl (Nat.le_of_ble_eq_true rfl) (fun r127 m127 p127 => ?_)
        obtain ⟨p127, f127_0, f127_1⟩ := p127
        try simp only [f127_0, f127_1, f109_0, f109_1, em103, f100_0, f100_1, f87_0, f87_1, em81, f78_0, f78_1, e1, e18, e29, e123, and_true, true_and, or_true, true_or, implies_true, upn, reduceIte, Nat.reduceEqDiff, ne_eq, not_false_eq_true] at p127
        refine Z_iast hk hA dX9_lookTold_130 ar_91.1 ar_91.2.1 ar_91.2.2 (by omega) (by omega) (by omega) (by omega) ?_
        refine Z_nm (fun m130 em130 => ?_)
        refine Z_aload0 hk dX9_lookTold_131 ?_
        refine Z_getR hk fl_9_134 dX9_lookTold_132 ob_48.1 ob_48.2.1 ob_48.2.2.1 ob_48.2.2.2 ft_9_54 rs_48_54 ?_
        refine Z_iload1 hk dX9_lookTold_135 ?_
        refine Z_dup2 hk rfl rfl dX9_lookTold_136 ?_
        refine Z_iald hk dX9_lookTold_137 ar_88.1 ar_88.2.1 ar_88.2.2 (by omega) (by omega) (fun v137 e137 a137 b137 => ?_)
        try simp only [em130, f127_0, f127_1, f109_0, f109_1, em103, f100_0, f100_1, f87_0, f87_1, em81, f78_0, f78_1, e1, e18, e29, e123, and_true, true_and, or_true, true_or, implies_true, upn, reduceIte, Nat.reduceEqDiff, ne_eq, not_false_eq_true] at e137
        refine Z_iconst hk dX9_lookTold_138 ?_
        refine Z_iadd hk dX9_lookTold_139 ?_
        refine Z_iast hk hA dX9_lookTold_140 ar_88.1 ar_88.2.1 ar_88.2.2 (by omega) (by omega) (by omega) (by omega) ?_
        refine Z_nm (fun m140 em140 => ?_)
        have hl : NL m140 := fun k hk => by
          have y := q4 k
          simp only [em140, em130, f127_0, f127_1, f109_0, f109_1, em103, f100_0, f100_1, f87_0, f87_1, em81, f78_0, f78_1, e1, e18, e29, e123, e137, and_true, true_and, or_true, true_or, implies_true, upn, reduceIte, Nat.reduceEqDiff, ne_eq, not_false_eq_true, upc] at hk ⊢
          split
          · have := q4 (M 48 50 - 1).toNat (by omega); omega
          · exact y (by omega)
        have hn : NK m140 := fun j => by
          have y := q5 j
          simp only [em140, em130, f127_0, f127_1, f109_0, f109_1, em103, f100_0, f100_1, f87_0, f87_1, em81, f78_0, f78_1, e1, e18, e29, e123, e137, and_true, true_and, or_true, true_or, implies_true, upn, reduceIte, Nat.reduceEqDiff, ne_eq, not_false_eq_true, upc]
          refine ⟨?_, ?_, ?_, ?_, ?_, ?_⟩ <;> (first | omega | (split <;> omega))
        exact Z_vret hk hA hQ dX9_lookTold_141 ⟨rfl, rfl, rfl, (by exact ⟨(by (try simp only [em140, em130, f127_0, f127_1, f109_0, f109_1, em103, f100_0, f100_1, f87_0, f87_1, em81, f78_0, f78_1, and_true, true_and, or_true, true_or, implies_true, upn, reduceIte, Nat.reduceEqDiff, ne_eq, not_false_eq_true]) <;> (omega)), (by intro c k0 k1 k2 k3 k4; simp only [em140, em130, f127_0, f127_1, f109_0, f109_1, em103, f100_0, f100_1, f87_0, f87_1, em81, f78_0, f78_1, upc, upn, k0, k1, k2, k3, k4, reduceIte, Nat.reduceEqDiff, ne_eq, not_false_eq_true]), (by intro i k0 k1 k2 k3; simp only [em140, em130, f127_0, f127_1, f109_0, f109_1, em103, f100_0, f100_1, f87_0, f87_1, em81, f78_0, f78_1, upc, upn, k0, k1, k2, k3, reduceIte, Nat.reduceEqDiff, ne_eq, not_false_eq_true]), (by first | exact hl | exact (fun k hk => by have := q4 k (by (try simp only [em140, em130, f127_0, f127_1, f109_0, f109_1, em103, f100_0, f100_1, f87_0, f87_1, em81, f78_0, f78_1, e1, e18, e29, e123, e137, and_true, true_and, or_true, true_or, implies_true, upn, reduceIte, Nat.reduceEqDiff, ne_eq, not_false_eq_true, upc] at hk); omega); (try simp only [em140, em130, f127_0, f127_1, f109_0, f109_1, em103, f100_0, f100_1, f87_0, f87_1, em81, f78_0, f78_1, e1, e18, e29, e123, e137, and_true, true_and, or_true, true_or, implies_true, upn, reduceIte, Nat.reduceEqDiff, ne_eq, not_false_eq_true, upc]); omega)), (by first | exact hn | exact (fun j => by have := q5 j; (try simp only [em140, em130, f127_0, f127_1, f109_0, f109_1, em103, f100_0, f100_1, f87_0, f87_1, em81, f78_0, f78_1, e1, e18, e29, e123, e137, and_true, true_and, or_true, true_or, implies_true, upn, reduceIte, Nat.reduceEqDiff, ne_eq, not_false_eq_true, upc]); omega))⟩)⟩
      refine Z_if_ne hk (tgt := 66) dX9_lookTold_59 (by decide) (by omega) (by omega) (fun h59 => ?_) (fun h59 => ?_)
      · refine Z_aload0 hk dX9_lookTold_66 ?_
        refine Z_getR hk fl_9_137 dX9_lookTold_67 ob_48.1 ob_48.2.1 ob_48.2.2.1 ob_48.2.2.2 ft_9_55 rs_48_55 ?_
        refine Z_iload3 hk dX9_lookTold_70 ?_
        refine Z_iconst hk dX9_lookTold_71 ?_
        refine Z_isub hk dX9_lookTold_72 ?_
        refine Z_iald hk dX9_lookTold_73 ar_89.1 ar_89.2.1 ar_89.2.2 (by omega) (by omega) (fun v73 e73 a73 b73 => ?_)
        try simp only [e1, e18, e29, and_true, true_and, or_true, true_or, implies_true, upn, reduceIte, Nat.reduceEqDiff, ne_eq, not_false_eq_true] at e73
        have g73 := q5 (5 * (v18 - 1) + v29 - 1).toNat
        (try simp only [e1, e18, e29, e73, and_true, true_and, or_true, true_or, implies_true, upn, reduceIte, Nat.reduceEqDiff, ne_eq, not_false_eq_true, upc] at g73)
        refine Z_iconst hk dX9_lookTold_74 ?_
        refine Z_iadd hk dX9_lookTold_75 ?_
        exact J76 _ (by omega)
      · refine Z_iconst hk dX9_lookTold_62 ?_
        refine Z_goto hk (tgt := 76) dX9_lookTold_63 (by decide) ?_
        exact J76 _ (by omega)
    · refine Z_aload0 hk dX9_lookTold_36 ?_
      refine Z_iconst hk dX9_lookTold_37 ?_
      refine Z_aload0 hk dX9_lookTold_38 ?_
      refine Z_getI hk fl_9_386 dX9_lookTold_39 ob_48.1 ob_48.2.1 ob_48.2.2.1 ob_48.2.2.2 ft_9_80 (fun v39 e39 a39 b39 => ?_)
      try simp only [e1, e18, e29, and_true, true_and, or_true, true_or, implies_true, upn, reduceIte, Nat.reduceEqDiff, ne_eq, not_false_eq_true] at e39
      refine Z_Vv hk (c_X9_fail κ.2.1 δ ad _ hA 5 v39 (by (omega)) (by (omega))) ov_X9_fail ml_X9_275 dX9_lookTold_42 rfl ⟨by decide, by decide⟩ ob_48.1 (by decide) (by decide) rfl (Nat.le_of_ble_eq_true rfl) (fun m42 p42 => ?_)
      obtain ⟨p42, f42_0, f42_1⟩ := p42
      try simp only [f42_0, f42_1, e1, e18, e29, e39, and_true, true_and, or_true, true_or, implies_true, upn, reduceIte, Nat.reduceEqDiff, ne_eq, not_false_eq_true] at p42
      exact Z_vret hk hA hQ dX9_lookTold_45 ⟨rfl, rfl, rfl, (by exact ⟨(by (try simp only [f42_0, f42_1, and_true, true_and, or_true, true_or, implies_true, upn, reduceIte, Nat.reduceEqDiff, ne_eq, not_false_eq_true]) <;> (omega)), (by intro c k0 k1 k2 k3 k4; simp only [f42_0, f42_1, upc, upn, k0, k1, k2, k3, k4, reduceIte, Nat.reduceEqDiff, ne_eq, not_false_eq_true]), (by intro i k0 k1 k2 k3; simp only [f42_0, f42_1, upc, upn, k0, k1, k2, k3, reduceIte, Nat.reduceEqDiff, ne_eq, not_false_eq_true]), (by first | exact hl | exact (fun k hk => by have := q4 k (by (try simp only [f42_0, f42_1, e1, e18, e29, e39, and_true, true_and, or_true, true_or, implies_true, upn, reduceIte, Nat.reduceEqDiff, ne_eq, not_false_eq_true, upc] at hk); omega); (try simp only [f42_0, f42_1, e1, e18, e29, e39, and_true, true_and, or_true, true_or, implies_true, upn, reduceIte, Nat.reduceEqDiff, ne_eq, not_false_eq_true, upc]); omega)), (by first | exact hn | exact (fun j => by have := q5 j; (try simp only [f42_0, f42_1, e1, e18, e29, e39, and_true, true_and, or_true, true_or, implies_true, upn, reduceIte, Nat.reduceEqDiff, ne_eq, not_false_eq_true, upc]); omega))⟩)⟩
  · refine Z_aload0 hk dX9_lookTold_7 ?_
    refine Z_iconst hk dX9_lookTold_8 ?_
    refine Z_aload0 hk dX9_lookTold_9 ?_
    refine Z_getI hk fl_9_386 dX9_lookTold_10 ob_48.1 ob_48.2.1 ob_48.2.2.1 ob_48.2.2.2 ft_9_80 (fun v10 e10 a10 b10 => ?_)
    try simp only [e1, and_true, true_and, or_true, true_or, implies_true, upn, reduceIte, Nat.reduceEqDiff, ne_eq, not_false_eq_true] at e10
    refine Z_Vv hk (c_X9_fail κ.2.1 δ ad _ hA 1 v10 (by (omega)) (by (omega))) ov_X9_fail ml_X9_275 dX9_lookTold_13 rfl ⟨by decide, by decide⟩ ob_48.1 (by decide) (by decide) rfl (Nat.le_of_ble_eq_true rfl) (fun m13 p13 => ?_)
    obtain ⟨p13, f13_0, f13_1⟩ := p13
    try simp only [f13_0, f13_1, e1, e10, and_true, true_and, or_true, true_or, implies_true, upn, reduceIte, Nat.reduceEqDiff, ne_eq, not_false_eq_true] at p13
    exact Z_vret hk hA hQ dX9_lookTold_16 ⟨rfl, rfl, rfl, (by exact ⟨(by (try simp only [f13_0, f13_1, and_true, true_and, or_true, true_or, implies_true, upn, reduceIte, Nat.reduceEqDiff, ne_eq, not_false_eq_true]) <;> (omega)), (by intro c k0 k1 k2 k3 k4; simp only [f13_0, f13_1, upc, upn, k0, k1, k2, k3, k4, reduceIte, Nat.reduceEqDiff, ne_eq, not_false_eq_true]), (by intro i k0 k1 k2 k3; simp only [f13_0, f13_1, upc, upn, k0, k1, k2, k3, reduceIte, Nat.reduceEqDiff, ne_eq, not_false_eq_true]), (by first | exact hl | exact (fun k hk => by have := q4 k (by (try simp only [f13_0, f13_1, e1, e10, and_true, true_and, or_true, true_or, implies_true, upn, reduceIte, Nat.reduceEqDiff, ne_eq, not_false_eq_true, upc] at hk); omega); (try simp only [f13_0, f13_1, e1, e10, and_true, true_and, or_true, true_or, implies_true, upn, reduceIte, Nat.reduceEqDiff, ne_eq, not_false_eq_true, upc]); omega)), (by first | exact hn | exact (fun j => by have := q5 j; (try simp only [f13_0, f13_1, e1, e10, and_true, true_and, or_true, true_or, implies_true, upn, reduceIte, Nat.reduceEqDiff, ne_eq, not_false_eq_true, upc]); omega))⟩)⟩
