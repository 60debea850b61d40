set_option maxRecDepth 10000 in
theorem c_X7_exchange (l : Launch) (δ : Dp) (ad : Nat → Nat) (M : Mem) (hA : okA δ ad) (a : Int) (b : Int) (q0 : 0 ≤ a ∧ a ≤ 89 ∧ 0 ≤ b ∧ b ≤ 89) : Mv l δ yX7_exchange cX7_exchange 4 none 0 0 ad rs [.ref (ad 10), iv a, iv b] M (fun M' => (True) ∧ (∀ c : Nat, c ≠ 11 → M' c = M c)) := by
  refine Mg.of (rm := rmN 0 0) (by decide) (Nat.le_of_ble_eq_true rfl) fun κ _ hk _ => ?_
  generalize hQ : Qg κ δ 121 (rmN 0 0).cells (rmN 0 0).slots _ = Q
  show Zj κ δ ad rs Q 4 (121, 0, 0) 0 [some (.ref (ad 10)), some (iv a), some (iv b), none] [] M
  refine Z_aload0 hk dX7_exchange_0 ?_
  refine Z_getR hk fl_7_9 dX7_exchange_1 ob_10.1 ob_10.2.1 ob_10.2.2.1 ob_10.2.2.2 ft_7_2 rs_10_2 ?_
  refine Z_iload1 hk dX7_exchange_4 ?_
  refine Z_iald hk dX7_exchange_5 ar_11.1 ar_11.2.1 ar_11.2.2 (by omega) (by omega) (fun v5 e5 a5 b5 => ?_)
  refine Z_istore3 hk rfl (by decide) dX7_exchange_6 ?_
  refine Z_aload0 hk dX7_exchange_7 ?_
  refine Z_getR hk fl_7_9 dX7_exchange_8 ob_10.1 ob_10.2.1 ob_10.2.2.1 ob_10.2.2.2 ft_7_2 rs_10_2 ?_
  refine Z_iload1 hk dX7_exchange_11 ?_
  refine Z_aload0 hk dX7_exchange_12 ?_
  refine Z_getR hk fl_7_9 dX7_exchange_13 ob_10.1 ob_10.2.1 ob_10.2.2.1 ob_10.2.2.2 ft_7_2 rs_10_2 ?_
  refine Z_iload2 hk dX7_exchange_16 ?_
  refine Z_iald hk dX7_exchange_17 ar_11.1 ar_11.2.1 ar_11.2.2 (by omega) (by omega) (fun v17 e17 a17 b17 => ?_)
  try simp only [e5, and_true, true_and, or_true, true_or, implies_true, upn, reduceIte, Nat.reduceEqDiff, ne_eq, not_false_eq_true, upc] at e17
  refine Z_iast hk hA dX7_exchange_18 ar_11.1 ar_11.2.1 ar_11.2.2 (by omega) (by omega) (by omega) (by omega) ?_
  refine Z_nm (fun m18 em18 => ?_)
  refine Z_aload0 hk dX7_exchange_19 ?_
  refine Z_getR hk fl_7_9 dX7_exchange_20 ob_10.1 ob_10.2.1 ob_10.2.2.1 ob_10.2.2.2 ft_7_2 rs_10_2 ?_
  refine Z_iload2 hk dX7_exchange_23 ?_
  refine Z_iload3 hk dX7_exchange_24 ?_
  refine Z_iast hk hA dX7_exchange_25 ar_11.1 ar_11.2.1 ar_11.2.2 (by omega) (by omega) (by omega) (by omega) ?_
  refine Z_nm (fun m25 em25 => ?_)
  exact Z_vret hk hA hQ dX7_exchange_26 ⟨rfl, rfl, rfl, (by exact ⟨(by (try simp only [em25, em18, and_true, true_and, or_true, true_or, implies_true, upn, reduceIte, Nat.reduceEqDiff, ne_eq, not_false_eq_true, upc]) <;> (trivial)), (by intro c k0; simp only [em25, em18, upc, upn, k0, reduceIte, Nat.reduceEqDiff, ne_eq, not_false_eq_true])⟩)⟩
set_option maxRecDepth 10000 in
theorem c_X7_likeCups (l : Launch) (δ : Dp) (ad : Nat → Nat) (M : Mem) (hA : okA δ ad) (c : Int) (f : Int) (p : Int) (q0 : 0 ≤ c ∧ c ≤ 89 ∧ 0 ≤ f ∧ 0 ≤ p ∧ f + p ≤ 90) : Mi l δ yX7_likeCups cX7_likeCups 6 (some (.int)) 0 0 ad rs [.ref (ad 10), iv c, iv f, iv p] M (fun r M' => M = M' ∧ (0 ≤ r ∧ r ≤ p)) := by
  refine Mg.of (rm := rmN 0 0) (by decide) (Nat.le_of_ble_eq_true rfl) fun κ _ hk _ => ?_
  generalize hQ : Qg κ δ 121 (rmN 0 0).cells (rmN 0 0).slots _ = Q
  show Zj κ δ ad rs Q 6 (121, 0, 0) 0 [some (.ref (ad 10)), some (iv c), some (iv f), some (iv p), none, none] [] M
  refine Z_iconst hk dX7_likeCups_0 ?_
  refine Z_istore4 hk rfl (by decide) dX7_likeCups_1 ?_
  refine Z_iload2 hk dX7_likeCups_3 ?_
  have J6 : ∀ (n : Nat) (x4_6 : Int) (x5_6 : Int), (f ≤ x5_6 ∧ x5_6 ≤ f + p ∧ 0 ≤ x4_6 ∧ x4_6 ≤ x5_6 - f) → (f + p - x5_6) < (n : Int) → Zj κ δ ad rs Q 6 (121, 0, 0) 6 [some (.ref (ad 10)), some (iv c), some (iv f), some (iv p), some (iv x4_6), some (iv x5_6)] [] M := by
    intro n
    induction n with
    | zero => intro x4_6 x5_6 h6 hm6; exfalso; omega
    | succ n ih6 =>
      intro x4_6 x5_6 h6 hm6
      refine Z_iload5 hk dX7_likeCups_6 ?_
      refine Z_iload2 hk dX7_likeCups_8 ?_
      refine Z_iload3 hk dX7_likeCups_9 ?_
      refine Z_iadd hk dX7_likeCups_10 ?_
      refine Z_icmp_ge hk (tgt := 39) dX7_likeCups_11 (by decide) (by omega) (by omega) (by omega) (by omega) (fun h11 => ?_) (fun h11 => ?_)
      · refine Z_iload4 hk dX7_likeCups_39 ?_
        exact Z_iret hk hA hQ dX7_likeCups_41 ⟨rfl, rfl, _, rfl, (by exact ⟨rfl, (by omega)⟩)⟩
      · refine Z_aload0 hk dX7_likeCups_14 ?_
        refine Z_getR hk fl_7_9 dX7_likeCups_15 ob_10.1 ob_10.2.1 ob_10.2.2.1 ob_10.2.2.2 ft_7_2 rs_10_2 ?_
        refine Z_iload5 hk dX7_likeCups_18 ?_
        refine Z_iald hk dX7_likeCups_20 ar_11.1 ar_11.2.1 ar_11.2.2 (by omega) (by omega) (fun v20 e20 a20 b20 => ?_)
        refine Z_aload0 hk dX7_likeCups_21 ?_
        refine Z_getR hk fl_7_9 dX7_likeCups_22 ob_10.1 ob_10.2.1 ob_10.2.2.1 ob_10.2.2.2 ft_7_2 rs_10_2 ?_
        refine Z_iload1 hk dX7_likeCups_25 ?_
        refine Z_iald hk dX7_likeCups_26 ar_11.1 ar_11.2.1 ar_11.2.2 (by omega) (by omega) (fun v26 e26 a26 b26 => ?_)
        try simp only [e20, and_true, true_and, or_true, true_or, implies_true, upn, reduceIte, Nat.reduceEqDiff, ne_eq, not_false_eq_true, upc] at e26
        have J33 : ∀ (x4_33 : Int), (0 ≤ x4_33 ∧ x4_33 ≤ x5_6 - f + 1) → Zj κ δ ad rs Q 6 (121, 0, 0) 33 [some (.ref (ad 10)), some (iv c), some (iv f), some (iv p), some (iv x4_33), some (iv x5_6)] [] M := by
          intro x4_33 h33
          refine Z_iinc5 hk rfl (by decide) dX7_likeCups_33 ?_
          refine Z_goto hk (tgt := 6) dX7_likeCups_36 (by decide) ?_
          exact ih6 _ _ (by omega) (by (omega))
        refine Z_icmp_ne hk (tgt := 33) dX7_likeCups_27 (by decide) (by omega) (by omega) (by omega) (by omega) (fun h27 => ?_) (fun h27 => ?_)
        · exact J33 _ (by omega)
        · refine Z_iinc4 hk rfl (by decide) dX7_likeCups_30 ?_
          exact J33 _ (by omega)
  refine Z_istore5 hk rfl (by decide) dX7_likeCups_4 ?_
  exact J6 (((f + p - f) : Int).toNat + 1) _ _ (by omega) (by omega)
set_option maxRecDepth 10000 in
theorem c_X7_clear (l : Launch) (δ : Dp) (ad : Nat → Nat) (M : Mem) (hA : okA δ ad) : Mv l δ yX7_clear cX7_clear 2 none 0 0 ad rs [.ref (ad 10)] M (fun M' => ((M' 10 4) = 0 ∧ (M' 10 5) = 0 ∧ (M' 10 6) = 0 ∧ (M' 10 7) = 0 ∧ (M' 10 8) = 0 ∧ (M' 10 9) = 0 ∧ (M' 10 10) = 0) ∧ (∀ c : Nat, c ≠ 10 → c ≠ 12 → M' c = M c) ∧ (∀ i : Nat, i ≠ 4 → i ≠ 5 → i ≠ 6 → i ≠ 7 → i ≠ 8 → i ≠ 9 → i ≠ 10 → M' 10 i = M 10 i) ∧ (∀ j : Nat, j < 30 → M' 12 j = 0)) := by
  refine Mg.of (rm := rmN 0 0) (by decide) (Nat.le_of_ble_eq_true rfl) fun κ _ hk _ => ?_
  generalize hQ : Qg κ δ 121 (rmN 0 0).cells (rmN 0 0).slots _ = Q
  show Zj κ δ ad rs Q 2 (121, 0, 0) 0 [some (.ref (ad 10)), none] [] M
  refine Z_iconst hk dX7_clear_0 ?_
  have J2 : ∀ (n : Nat) (x1_2 : Int) (m2 : Mem), (((0 ≤ x1_2 ∧ x1_2 ≤ 30) ∧ ∀ j : Nat, (j : Int) < x1_2 → m2 12 j = 0) ∧ (∀ c : Nat, c ≠ 12 → m2 c = M c)) → (30 - x1_2) < (n : Int) → Zj κ δ ad rs Q 2 (121, 0, 0) 2 [some (.ref (ad 10)), some (iv x1_2)] [] m2 := by
    intro n
    induction n with
    | zero => intro x1_2 m2 h2 hm2; exfalso; obtain ⟨h2, -⟩ := h2; omega
    | succ n ih2 =>
      intro x1_2 m2 h2 hm2
      obtain ⟨h2, f2_0⟩ := h2
      try simp only [f2_0, and_true, true_and, or_true, true_or, implies_true, upn, reduceIte, Nat.reduceEqDiff, ne_eq, not_false_eq_true, upc] at h2 hm2
      refine Z_iload1 hk dX7_clear_2 ?_
      refine Z_bipush hk dX7_clear_3 (by decide) ?_
      refine Z_icmp_ge hk (tgt := 21) dX7_clear_5 (by decide) (by omega) (by omega) (by decide) (by decide) (fun h5 => ?_) (fun h5 => ?_)
      · refine Z_aload0 hk dX7_clear_21 ?_
        refine Z_iconst hk dX7_clear_22 ?_
        refine Z_putI hk hA fl_7_90 dX7_clear_23 ob_10.1 ob_10.2.1 ob_10.2.2.1 ob_10.2.2.2 ft_7_4 (by decide) (by decide) ?_
        refine Z_nm (fun m23 em23 => ?_)
        refine Z_aload0 hk dX7_clear_26 ?_
        refine Z_iconst hk dX7_clear_27 ?_
        refine Z_putI hk hA fl_7_93 dX7_clear_28 ob_10.1 ob_10.2.1 ob_10.2.2.1 ob_10.2.2.2 ft_7_5 (by decide) (by decide) ?_
        refine Z_nm (fun m28 em28 => ?_)
        refine Z_aload0 hk dX7_clear_31 ?_
        refine Z_iconst hk dX7_clear_32 ?_
        refine Z_putI hk hA fl_7_96 dX7_clear_33 ob_10.1 ob_10.2.1 ob_10.2.2.1 ob_10.2.2.2 ft_7_6 (by decide) (by decide) ?_
        refine Z_nm (fun m33 em33 => ?_)
        refine Z_aload0 hk dX7_clear_36 ?_
        refine Z_iconst hk dX7_clear_37 ?_
        refine Z_putI hk hA fl_7_99 dX7_clear_38 ob_10.1 ob_10.2.1 ob_10.2.2.1 ob_10.2.2.2 ft_7_7 (by decide) (by decide) ?_
        refine Z_nm (fun m38 em38 => ?_)
        refine Z_aload0 hk dX7_clear_41 ?_
        refine Z_iconst hk dX7_clear_42 ?_
        refine Z_putI hk hA fl_7_68 dX7_clear_43 ob_10.1 ob_10.2.1 ob_10.2.2.1 ob_10.2.2.2 ft_7_8 (by decide) (by decide) ?_
        refine Z_nm (fun m43 em43 => ?_)
        refine Z_aload0 hk dX7_clear_46 ?_
        refine Z_iconst hk dX7_clear_47 ?_
        refine Z_putI hk hA fl_7_76 dX7_clear_48 ob_10.1 ob_10.2.1 ob_10.2.2.1 ob_10.2.2.2 ft_7_9 (by decide) (by decide) ?_
        refine Z_nm (fun m48 em48 => ?_)
        refine Z_aload0 hk dX7_clear_51 ?_
        refine Z_iconst hk dX7_clear_52 ?_
        refine Z_putI hk hA fl_7_102 dX7_clear_53 ob_10.1 ob_10.2.1 ob_10.2.2.1 ob_10.2.2.2 ft_7_10 (by decide) (by decide) ?_
        refine Z_nm (fun m53 em53 => ?_)
        exact Z_vret hk hA hQ dX7_clear_56 ⟨rfl, rfl, rfl, (by exact ⟨(by (try simp only [em53, em48, em43, em38, em33, em28, em23, f2_0, and_true, true_and, or_true, true_or, implies_true, upn, reduceIte, Nat.reduceEqDiff, ne_eq, not_false_eq_true, upc]) <;> (omega)), (by intro c k0 k1; simp only [em53, em48, em43, em38, em33, em28, em23, f2_0, upc, upn, k0, k1, reduceIte, Nat.reduceEqDiff, ne_eq, not_false_eq_true]), (by intro i k0 k1 k2 k3 k4 k5 k6; simp only [em53, em48, em43, em38, em33, em28, em23, f2_0, upc, upn, k0, k1, k2, k3, k4, k5, k6, reduceIte, Nat.reduceEqDiff, ne_eq, not_false_eq_true]), (by intro j hj; simp only [em53, em48, em43, em38, em33, em28, em23, f2_0, and_true, true_and, or_true, true_or, implies_true, upn, reduceIte, Nat.reduceEqDiff, ne_eq, not_false_eq_true, upc, upc]; exact h2.2 j (by omega))⟩)⟩
      · refine Z_aload0 hk dX7_clear_8 ?_
        refine Z_getR hk fl_7_15 dX7_clear_9 ob_10.1 ob_10.2.1 ob_10.2.2.1 ob_10.2.2.2 ft_7_3 rs_10_3 ?_
        refine Z_iload1 hk dX7_clear_12 ?_
        refine Z_iconst hk dX7_clear_13 ?_
        refine Z_zast hk hA dX7_clear_14 ar_12.1 ar_12.2.1 ar_12.2.2 (by omega) (by omega) (by decide) (by decide) ?_
        refine Z_nm (fun m14 em14 => ?_)
        refine Z_iinc1 hk rfl (by decide) dX7_clear_15 ?_
        refine Z_goto hk (tgt := 2) dX7_clear_18 (by decide) ?_
        exact ih2 _ _ (by exact ⟨(by (exact ⟨by omega, fun j hj => by simp only [em14, f2_0, and_true, true_and, or_true, true_or, implies_true, upn, reduceIte, Nat.reduceEqDiff, ne_eq, not_false_eq_true, upc, upc]; split; rfl; exact h2.2 j (by omega)⟩)), (by intro c k0; simp only [em14, f2_0, upc, upn, k0, reduceIte, Nat.reduceEqDiff, ne_eq, not_false_eq_true])⟩) (by (try simp only [em14, f2_0, and_true, true_and, or_true, true_or, implies_true, upn, reduceIte, Nat.reduceEqDiff, ne_eq, not_false_eq_true, upc]) <;> (omega))
  refine Z_istore1 hk rfl (by decide) dX7_clear_1 ?_
  exact J2 (((30 - 0) : Int).toNat + 1) _ _ (by exact ⟨(by (exact ⟨by omega, fun j hj => by omega⟩)), (by intro c k0; rfl)⟩) (by omega)
set_option maxRecDepth 10000 in
theorem c_X7_hear (l : Launch) (δ : Dp) (ad : Nat → Nat) (M : Mem) (hA : okA δ ad) (z : Int) (t : Int) (c : Int) (q0 : 0 ≤ t ∧ t ≤ 29 ∧ -1 ≤ c ∧ c ≤ 89) (q1 : 0 ≤ (M 10 4) ∧ 0 ≤ (M 10 5) ∧ 0 ≤ (M 10 6) ∧ 0 ≤ (M 10 7)) (q2 : (M 10 4) + (M 10 5) + (M 10 6) + (M 10 7) ≤ 1000) (qz : z = 0 ∨ z = 1) : Mv l δ yX7_hear cX7_hear 6 none 1 25 ad rs [.ref (ad 10), iv z, iv t, iv c] M (fun M' => (0 ≤ (M' 10 4) ∧ 0 ≤ (M' 10 5) ∧ 0 ≤ (M' 10 6) ∧ 0 ≤ (M' 10 7) ∧ (M' 10 4) + (M' 10 5) + (M' 10 6) + (M' 10 7) = (M 10 4) + (M 10 5) + (M 10 6) + (M 10 7) + 1) ∧ (∀ c : Nat, c ≠ 10 → M' c = M c) ∧ (∀ i : Nat, i ≠ 4 → i ≠ 5 → i ≠ 6 → i ≠ 7 → M' 10 i = M 10 i)) := by
  refine Mg.of (rm := rmN 1 25) (by decide) (Nat.le_of_ble_eq_true rfl) fun κ _ hk _ => ?_
  generalize hQ : Qg κ δ 121 (rmN 1 25).cells (rmN 1 25).slots _ = Q
  show Zj κ δ ad rs Q 6 (121, 0, 0) 0 [some (.ref (ad 10)), some (iv z), some (iv t), some (iv c), none, none] [] M
  refine Z_iload1 hk dX7_hear_0 ?_
  have J9 : ∀ (y0_9 : Int), (y0_9 = 2 ∨ y0_9 = 3) → Zj κ δ ad rs Q 6 (121, 0, 0) 9 [some (.ref (ad 10)), some (iv z), some (iv t), some (iv c), none, none] [iv y0_9] M := by
    intro y0_9 h9
    have g9 : 0 ≤ t * y0_9 ∧ t * y0_9 ≤ 87 ∧ t * y0_9 + y0_9 ≤ 90 := by
      rcases h9 with e | e <;> (rw [e]; omega)
    refine Z_istore4 hk rfl (by decide) dX7_hear_9 ?_
    refine Z_iload2 hk dX7_hear_11 ?_
    refine Z_iload4 hk dX7_hear_12 ?_
    refine Z_imul hk dX7_hear_14 ?_
    refine Z_istore5 hk rfl (by decide) dX7_hear_15 ?_
    refine Z_aload0 hk dX7_hear_17 ?_
    refine Z_iload5 hk dX7_hear_18 ?_
    refine Z_iload5 hk dX7_hear_20 ?_
    refine Z_iload4 hk dX7_hear_22 ?_
    refine Z_Vi hk (c_X7_likeCups κ.2.1 δ ad _ hA (t * y0_9) (t * y0_9) y0_9 (by (omega))) ov_X7_likeCups ml_X7_105 dX7_hear_24 rfl ⟨by decide, by decide⟩ ob_10.1 (by decide) (by decide) rfl (Nat.le_of_ble_eq_true rfl) (fun r24 m24 p24 => ?_)
    obtain ⟨rfl, p24⟩ := p24
    refine Z_iload4 hk dX7_hear_27 ?_
    refine Z_icmp_ne hk (tgt := 45) dX7_hear_29 (by decide) (by omega) (by omega) (by omega) (by omega) (fun h29 => ?_) (fun h29 => ?_)
    · refine Z_iload3 hk dX7_hear_45 ?_
      refine Z_iconst hk dX7_hear_46 ?_
      refine Z_icmp_ne hk (tgt := 63) dX7_hear_47 (by decide) (by omega) (by omega) (by decide) (by decide) (fun h47 => ?_) (fun h47 => ?_)
      · refine Z_iload1 hk dX7_hear_63 ?_
        have J106 : ∀ (_ : Unit), (True) → Zj κ δ ad rs Q 6 (121, 0, 0) 106 [some (.ref (ad 10)), some (iv z), some (iv t), some (iv c), some (iv y0_9), some (iv (t * y0_9))] [] M := by
          intro _ h106
          refine Z_aload0 hk dX7_hear_106 ?_
          refine Z_dup1 hk rfl dX7_hear_107 ?_
          refine Z_getI hk fl_7_93 dX7_hear_108 ob_10.1 ob_10.2.1 ob_10.2.2.1 ob_10.2.2.2 ft_7_5 (fun v108 e108 a108 b108 => ?_)
          refine Z_iconst hk dX7_hear_111 ?_
          refine Z_iadd hk dX7_hear_112 ?_
          refine Z_putI hk hA fl_7_93 dX7_hear_113 ob_10.1 ob_10.2.1 ob_10.2.2.1 ob_10.2.2.2 ft_7_5 (by omega) (by omega) ?_
          refine Z_nm (fun m113 em113 => ?_)
          exact Z_vret hk hA hQ dX7_hear_116 ⟨rfl, rfl, rfl, (by exact ⟨(by (try simp only [em113, and_true, true_and, or_true, true_or, implies_true, upn, reduceIte, Nat.reduceEqDiff, ne_eq, not_false_eq_true, upc]) <;> (omega)), (by intro c k0; simp only [em113, upc, upn, k0, reduceIte, Nat.reduceEqDiff, ne_eq, not_false_eq_true]), (by intro i k0 k1 k2 k3; simp only [em113, upc, upn, k0, k1, k2, k3, reduceIte, Nat.reduceEqDiff, ne_eq, not_false_eq_true])⟩)⟩
        have J93 : ∀ (_ : Unit), (True) → Zj κ δ ad rs Q 6 (121, 0, 0) 93 [some (.ref (ad 10)), some (iv z), some (iv t), some (iv c), some (iv y0_9), some (iv (t * y0_9))] [] M := by
          intro _ h93
          refine Z_aload0 hk dX7_hear_93 ?_
          refine Z_dup1 hk rfl dX7_hear_94 ?_
          refine Z_getI hk fl_7_90 dX7_hear_95 ob_10.1 ob_10.2.1 ob_10.2.2.1 ob_10.2.2.2 ft_7_4 (fun v95 e95 a95 b95 => ?_)
          refine Z_iconst hk dX7_hear_98 ?_
          refine Z_iadd hk dX7_hear_99 ?_
          refine Z_putI hk hA fl_7_90 dX7_hear_100 ob_10.1 ob_10.2.1 ob_10.2.2.1 ob_10.2.2.2 ft_7_4 (by omega) (by omega) ?_
          refine Z_nm (fun m100 em100 => ?_)
          refine Z_goto hk (tgt := 116) dX7_hear_103 (by decide) ?_
          exact Z_vret hk hA hQ dX7_hear_116 ⟨rfl, rfl, rfl, (by exact ⟨(by (try simp only [em100, and_true, true_and, or_true, true_or, implies_true, upn, reduceIte, Nat.reduceEqDiff, ne_eq, not_false_eq_true, upc]) <;> (omega)), (by intro c k0; simp only [em100, upc, upn, k0, reduceIte, Nat.reduceEqDiff, ne_eq, not_false_eq_true]), (by intro i k0 k1 k2 k3; simp only [em100, upc, upn, k0, k1, k2, k3, reduceIte, Nat.reduceEqDiff, ne_eq, not_false_eq_true])⟩)⟩
        refine Z_if_eq hk (tgt := 83) dX7_hear_64 (by decide) (by omega) (by omega) (fun h64 => ?_) (fun h64 => ?_)
        · refine Z_aload0 hk dX7_hear_83 ?_
          refine Z_getR hk fl_7_9 dX7_hear_84 ob_10.1 ob_10.2.1 ob_10.2.2.1 ob_10.2.2.2 ft_7_2 rs_10_2 ?_
          refine Z_iload3 hk dX7_hear_87 ?_
          refine Z_iald hk dX7_hear_88 ar_11.1 ar_11.2.1 ar_11.2.2 (by omega) (by omega) (fun v88 e88 a88 b88 => ?_)
          refine Z_iconst hk dX7_hear_89 ?_
          refine Z_icmp_ne hk (tgt := 106) dX7_hear_90 (by decide) (by omega) (by omega) (by decide) (by decide) (fun h90 => ?_) (fun h90 => ?_)
          · exact J106 () (by trivial)
          · exact J93 () (by trivial)
        · refine Z_aload0 hk dX7_hear_67 ?_
          refine Z_iload3 hk dX7_hear_68 ?_
          refine Z_iload5 hk dX7_hear_69 ?_
          refine Z_iload4 hk dX7_hear_71 ?_
          refine Z_Vi hk (c_X7_likeCups κ.2.1 δ ad _ hA c (t * y0_9) y0_9 (by (omega))) ov_X7_likeCups ml_X7_105 dX7_hear_73 rfl ⟨by decide, by decide⟩ ob_10.1 (by decide) (by decide) rfl (Nat.le_of_ble_eq_true rfl) (fun r73 m73 p73 => ?_)
          obtain ⟨rfl, p73⟩ := p73
          refine Z_iconst hk dX7_hear_76 ?_
          refine Z_icmp_ne hk (tgt := 106) dX7_hear_77 (by decide) (by omega) (by omega) (by decide) (by decide) (fun h77 => ?_) (fun h77 => ?_)
          · exact J106 () (by trivial)
          · refine Z_goto hk (tgt := 93) dX7_hear_80 (by decide) ?_
            exact J93 () (by trivial)
      · refine Z_aload0 hk dX7_hear_50 ?_
        refine Z_dup1 hk rfl dX7_hear_51 ?_
        refine Z_getI hk fl_7_96 dX7_hear_52 ob_10.1 ob_10.2.1 ob_10.2.2.1 ob_10.2.2.2 ft_7_6 (fun v52 e52 a52 b52 => ?_)
        refine Z_iconst hk dX7_hear_55 ?_
        refine Z_iadd hk dX7_hear_56 ?_
        refine Z_putI hk hA fl_7_96 dX7_hear_57 ob_10.1 ob_10.2.1 ob_10.2.2.1 ob_10.2.2.2 ft_7_6 (by omega) (by omega) ?_
        refine Z_nm (fun m57 em57 => ?_)
        refine Z_goto hk (tgt := 116) dX7_hear_60 (by decide) ?_
        exact Z_vret hk hA hQ dX7_hear_116 ⟨rfl, rfl, rfl, (by exact ⟨(by (try simp only [em57, and_true, true_and, or_true, true_or, implies_true, upn, reduceIte, Nat.reduceEqDiff, ne_eq, not_false_eq_true, upc]) <;> (omega)), (by intro c k0; simp only [em57, upc, upn, k0, reduceIte, Nat.reduceEqDiff, ne_eq, not_false_eq_true]), (by intro i k0 k1 k2 k3; simp only [em57, upc, upn, k0, k1, k2, k3, reduceIte, Nat.reduceEqDiff, ne_eq, not_false_eq_true])⟩)⟩
    · refine Z_aload0 hk dX7_hear_32 ?_
      refine Z_dup1 hk rfl dX7_hear_33 ?_
      refine Z_getI hk fl_7_99 dX7_hear_34 ob_10.1 ob_10.2.1 ob_10.2.2.1 ob_10.2.2.2 ft_7_7 (fun v34 e34 a34 b34 => ?_)
      refine Z_iconst hk dX7_hear_37 ?_
      refine Z_iadd hk dX7_hear_38 ?_
      refine Z_putI hk hA fl_7_99 dX7_hear_39 ob_10.1 ob_10.2.1 ob_10.2.2.1 ob_10.2.2.2 ft_7_7 (by omega) (by omega) ?_
      refine Z_nm (fun m39 em39 => ?_)
      refine Z_goto hk (tgt := 116) dX7_hear_42 (by decide) ?_
      exact Z_vret hk hA hQ dX7_hear_116 ⟨rfl, rfl, rfl, (by exact ⟨(by (try simp only [em39, and_true, true_and, or_true, true_or, implies_true, upn, reduceIte, Nat.reduceEqDiff, ne_eq, not_false_eq_true, upc]) <;> (omega)), (by intro c k0; simp only [em39, upc, upn, k0, reduceIte, Nat.reduceEqDiff, ne_eq, not_false_eq_true]), (by intro i k0 k1 k2 k3; simp only [em39, upc, upn, k0, k1, k2, k3, reduceIte, Nat.reduceEqDiff, ne_eq, not_false_eq_true])⟩)⟩
  refine Z_if_eq hk (tgt := 8) dX7_hear_1 (by decide) (by omega) (by omega) (fun h1 => ?_) (fun h1 => ?_)
  · refine Z_iconst hk dX7_hear_8 ?_
    exact J9 _ (by omega)
  · refine Z_iconst hk dX7_hear_4 ?_
    refine Z_goto hk (tgt := 9) dX7_hear_5 (by decide) ?_
    exact J9 _ (by omega)
set_option maxRecDepth 10000 in
theorem c_X7_count (l : Launch) (δ : Dp) (ad : Nat → Nat) (M : Mem) (hA : okA δ ad) (w : Int) (q1 : 0 ≤ (M 10 4) ∧ 0 ≤ (M 10 5) ∧ 0 ≤ (M 10 6) ∧ 0 ≤ (M 10 7)) (q2 : (M 10 4) + (M 10 5) + (M 10 6) + (M 10 7) ≤ 30) (i_w : -2147483648 ≤ w ∧ w ≤ 2147483647) : Mv l δ yX7_count cX7_count 2 none 0 0 ad rs [.ref (ad 10), iv w] M (fun M' => (0 ≤ (M' 10 10) ∧ (M' 10 10) ≤ (M' 10 9) ∧ (M' 10 9) ≤ 30) ∧ (∀ c : Nat, c ≠ 10 → M' c = M c) ∧ (∀ i : Nat, i ≠ 9 → i ≠ 10 → M' 10 i = M 10 i)) := by
  refine Mg.of (rm := rmN 0 0) (by decide) (Nat.le_of_ble_eq_true rfl) fun κ _ hk _ => ?_
  generalize hQ : Qg κ δ 121 (rmN 0 0).cells (rmN 0 0).slots _ = Q
  show Zj κ δ ad rs Q 2 (121, 0, 0) 0 [some (.ref (ad 10)), some (iv w)] [] M
  refine Z_aload0 hk dX7_count_0 ?_
  refine Z_aload0 hk dX7_count_1 ?_
  refine Z_getI hk fl_7_90 dX7_count_2 ob_10.1 ob_10.2.1 ob_10.2.2.1 ob_10.2.2.2 ft_7_4 (fun v2 e2 a2 b2 => ?_)
  refine Z_aload0 hk dX7_count_5 ?_
  refine Z_getI hk fl_7_93 dX7_count_6 ob_10.1 ob_10.2.1 ob_10.2.2.1 ob_10.2.2.2 ft_7_5 (fun v6 e6 a6 b6 => ?_)
  try simp only [e2, and_true, true_and, or_true, true_or, implies_true, upn, reduceIte, Nat.reduceEqDiff, ne_eq, not_false_eq_true, upc] at e6
  refine Z_iadd hk dX7_count_9 ?_
  refine Z_iload1 hk dX7_count_10 ?_
  refine Z_bipush hk dX7_count_11 (by decide) ?_
  have J24 : ∀ (y2_24 : Int), (0 ≤ y2_24 ∧ y2_24 ≤ (M 10 6) ∧ (w ≠ 9 → y2_24 = (M 10 6))) → Zj κ δ ad rs Q 2 (121, 0, 0) 24 [some (.ref (ad 10)), some (iv w)] [iv y2_24, iv (v2 + v6), .ref (ad 10)] M := by
    intro y2_24 h24
    refine Z_iadd hk dX7_count_24 ?_
    refine Z_putI hk hA fl_7_76 dX7_count_25 ob_10.1 ob_10.2.1 ob_10.2.2.1 ob_10.2.2.2 ft_7_9 (by omega) (by omega) ?_
    refine Z_nm (fun m25 em25 => ?_)
    refine Z_aload0 hk dX7_count_28 ?_
    refine Z_aload0 hk dX7_count_29 ?_
    refine Z_getI hk fl_7_90 dX7_count_30 ob_10.1 ob_10.2.1 ob_10.2.2.1 ob_10.2.2.2 ft_7_4 (fun v30 e30 a30 b30 => ?_)
    try simp only [em25, e2, e6, and_true, true_and, or_true, true_or, implies_true, upn, reduceIte, Nat.reduceEqDiff, ne_eq, not_false_eq_true, upc] at e30
    refine Z_iload1 hk dX7_count_33 ?_
    refine Z_bipush hk dX7_count_34 (by decide) ?_
    refine Z_icmp_ne hk (tgt := 48) dX7_count_36 (by decide) (by omega) (by omega) (by decide) (by decide) (fun h36 => ?_) (fun h36 => ?_)
    · refine Z_iconst hk dX7_count_48 ?_
      refine Z_iadd hk dX7_count_49 ?_
      refine Z_putI hk hA fl_7_102 dX7_count_50 ob_10.1 ob_10.2.1 ob_10.2.2.1 ob_10.2.2.2 ft_7_10 (by omega) (by omega) ?_
      refine Z_nm (fun m50 em50 => ?_)
      exact Z_vret hk hA hQ dX7_count_53 ⟨rfl, rfl, rfl, (by exact ⟨(by (try simp only [em50, em25, and_true, true_and, or_true, true_or, implies_true, upn, reduceIte, Nat.reduceEqDiff, ne_eq, not_false_eq_true, upc]) <;> (omega)), (by intro c k0; simp only [em50, em25, upc, upn, k0, reduceIte, Nat.reduceEqDiff, ne_eq, not_false_eq_true]), (by intro i k0 k1; simp only [em50, em25, upc, upn, k0, k1, reduceIte, Nat.reduceEqDiff, ne_eq, not_false_eq_true])⟩)⟩
    · refine Z_aload0 hk dX7_count_39 ?_
      refine Z_getI hk fl_7_96 dX7_count_40 ob_10.1 ob_10.2.1 ob_10.2.2.1 ob_10.2.2.2 ft_7_6 (fun v40 e40 a40 b40 => ?_)
      try simp only [em25, e2, e6, e30, and_true, true_and, or_true, true_or, implies_true, upn, reduceIte, Nat.reduceEqDiff, ne_eq, not_false_eq_true, upc] at e40
      refine Z_iconst hk dX7_count_43 ?_
      refine Z_idiv hk dX7_count_44 (by omega) (by omega) (by decide) (by decide) (by decide) ?_
      have g45 := td_in (x := v40) (y := 2) (by omega) (by decide)
      refine Z_goto hk (tgt := 49) dX7_count_45 (by decide) ?_
      refine Z_iadd hk dX7_count_49 ?_
      refine Z_putI hk hA fl_7_102 dX7_count_50 ob_10.1 ob_10.2.1 ob_10.2.2.1 ob_10.2.2.2 ft_7_10 (by omega) (by omega) ?_
      refine Z_nm (fun m50 em50 => ?_)
      exact Z_vret hk hA hQ dX7_count_53 ⟨rfl, rfl, rfl, (by exact ⟨(by (try simp only [em50, em25, and_true, true_and, or_true, true_or, implies_true, upn, reduceIte, Nat.reduceEqDiff, ne_eq, not_false_eq_true, upc]) <;> (omega)), (by intro c k0; simp only [em50, em25, upc, upn, k0, reduceIte, Nat.reduceEqDiff, ne_eq, not_false_eq_true]), (by intro i k0 k1; simp only [em50, em25, upc, upn, k0, k1, reduceIte, Nat.reduceEqDiff, ne_eq, not_false_eq_true])⟩)⟩
  refine Z_icmp_ne hk (tgt := 20) dX7_count_13 (by decide) (by omega) (by omega) (by decide) (by decide) (fun h13 => ?_) (fun h13 => ?_)
  · refine Z_aload0 hk dX7_count_20 ?_
    refine Z_getI hk fl_7_96 dX7_count_21 ob_10.1 ob_10.2.1 ob_10.2.2.1 ob_10.2.2.2 ft_7_6 (fun v21 e21 a21 b21 => ?_)
    try simp only [e2, e6, and_true, true_and, or_true, true_or, implies_true, upn, reduceIte, Nat.reduceEqDiff, ne_eq, not_false_eq_true, upc] at e21
    exact J24 _ (by omega)
  · refine Z_iconst hk dX7_count_16 ?_
    refine Z_goto hk (tgt := 24) dX7_count_17 (by decide) ?_
    exact J24 _ (by omega)
set_option maxRecDepth 10000 in
theorem c_X7_lookThatStops (l : Launch) (δ : Dp) (ad : Nat → Nat) (M : Mem) (hA : okA δ ad) (t : Int) (q0 : 0 ≤ t ∧ t ≤ 3) (q1 : LK (M 41)) (q2 : 0 ≤ (M 10 10) ∧ (M 10 10) ≤ (M 10 9) ∧ (M 10 9) ≤ 30) : Mi l δ yX7_lookThatStops cX7_lookThatStops 6 (some (.int)) 2 53 ad rs [.ref (ad 10), .ref (ad 38), iv t] M (fun r M' => M = M' ∧ (-2147483648 ≤ r ∧ r ≤ 2147483647)) := by
  refine Mg.of (rm := rmN 2 53) (by decide) (Nat.le_of_ble_eq_true rfl) fun κ _ hk _ => ?_
  generalize hQ : Qg κ δ 121 (rmN 2 53).cells (rmN 2 53).slots _ = Q
  show Zj κ δ ad rs Q 6 (121, 0, 0) 0 [some (.ref (ad 10)), some (.ref (ad 38)), some (iv t), none, none, none] [] M
  refine Z_iconst hk dX7_lookThatStops_0 ?_
  have J2 : ∀ (n : Nat) (x3_2 : Int), (0 ≤ x3_2 ∧ x3_2 ≤ 5) → (5 - x3_2) < (n : Int) → Zj κ δ ad rs Q 6 (121, 0, 0) 2 [some (.ref (ad 10)), some (.ref (ad 38)), some (iv t), some (iv x3_2), none, none] [] M := by
    intro n
    induction n with
    | zero => intro x3_2 h2 hm2; exfalso; omega
    | succ n ih2 =>
      intro x3_2 h2 hm2
      refine Z_iload3 hk dX7_lookThatStops_2 ?_
      refine Z_aload1 hk dX7_lookThatStops_3 ?_
      refine Z_getR hk fl_7_109 dX7_lookThatStops_4 ob_38.1 ob_38.2.1 ob_38.2.2.1 ob_38.2.2.2 ft_3_9 rs_38_9 ?_
      refine Z_iload2 hk dX7_lookThatStops_7 ?_
      refine Z_iald hk dX7_lookThatStops_8 ar_41.1 ar_41.2.1 ar_41.2.2 (by omega) (by omega) (fun v8 e8 a8 b8 => ?_)
      have g8 := q1 t.toNat (by omega)
      refine Z_icmp_ge hk (tgt := 89) dX7_lookThatStops_9 (by decide) (by omega) (by omega) (by omega) (by omega) (fun h9 => ?_) (fun h9 => ?_)
      · refine Z_iconst hk dX7_lookThatStops_89 ?_
        exact Z_iret hk hA hQ dX7_lookThatStops_90 ⟨rfl, rfl, _, rfl, (by exact ⟨rfl, (by omega)⟩)⟩
      · refine Z_iload2 hk dX7_lookThatStops_12 ?_
        refine Z_iconst hk dX7_lookThatStops_13 ?_
        refine Z_imul hk dX7_lookThatStops_14 ?_
        refine Z_iload3 hk dX7_lookThatStops_15 ?_
        refine Z_iadd hk dX7_lookThatStops_16 ?_
        refine Z_istore4 hk rfl (by decide) dX7_lookThatStops_17 ?_
        refine Z_aload1 hk dX7_lookThatStops_19 ?_
        refine Z_getR hk fl_7_112 dX7_lookThatStops_20 ob_38.1 ob_38.2.1 ob_38.2.2.1 ob_38.2.2.2 ft_3_10 rs_38_10 ?_
        refine Z_iload4 hk dX7_lookThatStops_23 ?_
        refine Z_iald hk dX7_lookThatStops_25 ar_42.1 ar_42.2.1 ar_42.2.2 (by omega) (by omega) (fun v25 e25 a25 b25 => ?_)
        try simp only [e8, and_true, true_and, or_true, true_or, implies_true, upn, reduceIte, Nat.reduceEqDiff, ne_eq, not_false_eq_true, upc] at e25
        refine Z_aload0 hk dX7_lookThatStops_26 ?_
        refine Z_getI hk fl_7_76 dX7_lookThatStops_27 ob_10.1 ob_10.2.1 ob_10.2.2.1 ob_10.2.2.2 ft_7_9 (fun v27 e27 a27 b27 => ?_)
        try simp only [e8, e25, and_true, true_and, or_true, true_or, implies_true, upn, reduceIte, Nat.reduceEqDiff, ne_eq, not_false_eq_true, upc] at e27
        refine Z_icmp_ne hk (tgt := 83) dX7_lookThatStops_30 (by decide) (by omega) (by omega) (by omega) (by omega) (fun h30 => ?_) (fun h30 => ?_)
        · refine Z_iinc3 hk rfl (by decide) dX7_lookThatStops_83 ?_
          refine Z_goto hk (tgt := 2) dX7_lookThatStops_86 (by decide) ?_
          refine Z_drop4 ?_
          exact ih2 _ (by omega) (by (omega))
        · refine Z_aload0 hk dX7_lookThatStops_33 ?_
          refine Z_getR hk fl_7_23 dX7_lookThatStops_34 ob_10.1 ob_10.2.1 ob_10.2.2.1 ob_10.2.2.2 ft_7_1 rs_10_1 ?_
          refine Z_aload1 hk dX7_lookThatStops_37 ?_
          refine Z_getR hk fl_7_31 dX7_lookThatStops_38 ob_38.1 ob_38.2.1 ob_38.2.2.1 ob_38.2.2.2 ft_3_8 rs_38_8 ?_
          refine Z_iload2 hk dX7_lookThatStops_41 ?_
          refine Z_zald hk dX7_lookThatStops_42 ar_40.1 ar_40.2.1 ar_40.2.2 (by omega) (by omega) (fun v42 e42 a42 b42 => ?_)
          try simp only [e8, e25, e27, and_true, true_and, or_true, true_or, implies_true, upn, reduceIte, Nat.reduceEqDiff, ne_eq, not_false_eq_true, upc] at e42
          refine Z_aload0 hk dX7_lookThatStops_43 ?_
          refine Z_getI hk fl_7_102 dX7_lookThatStops_44 ob_10.1 ob_10.2.1 ob_10.2.2.1 ob_10.2.2.2 ft_7_10 (fun v44 e44 a44 b44 => ?_)
          try simp only [e8, e25, e27, e42, and_true, true_and, or_true, true_or, implies_true, upn, reduceIte, Nat.reduceEqDiff, ne_eq, not_false_eq_true, upc] at e44
          refine Z_aload0 hk dX7_lookThatStops_47 ?_
          refine Z_getI hk fl_7_76 dX7_lookThatStops_48 ob_10.1 ob_10.2.1 ob_10.2.2.1 ob_10.2.2.2 ft_7_9 (fun v48 e48 a48 b48 => ?_)
          try simp only [e8, e25, e27, e42, e44, and_true, true_and, or_true, true_or, implies_true, upn, reduceIte, Nat.reduceEqDiff, ne_eq, not_false_eq_true, upc] at e48
          refine Z_aload1 hk dX7_lookThatStops_51 ?_
          refine Z_getR hk fl_7_115 dX7_lookThatStops_52 ob_38.1 ob_38.2.1 ob_38.2.2.1 ob_38.2.2.2 ft_3_11 rs_38_11 ?_
          refine Z_iload4 hk dX7_lookThatStops_55 ?_
          refine Z_iald hk dX7_lookThatStops_57 ar_43.1 ar_43.2.1 ar_43.2.2 (by omega) (by omega) (fun v57 e57 a57 b57 => ?_)
          try simp only [e8, e25, e27, e42, e44, e48, and_true, true_and, or_true, true_or, implies_true, upn, reduceIte, Nat.reduceEqDiff, ne_eq, not_false_eq_true, upc] at e57
          refine Z_aload1 hk dX7_lookThatStops_58 ?_
          refine Z_getR hk fl_7_118 dX7_lookThatStops_59 ob_38.1 ob_38.2.1 ob_38.2.2.1 ob_38.2.2.2 ft_3_12 rs_38_12 ?_
          refine Z_iload4 hk dX7_lookThatStops_62 ?_
          refine Z_iald hk dX7_lookThatStops_64 ar_44.1 ar_44.2.1 ar_44.2.2 (by omega) (by omega) (fun v64 e64 a64 b64 => ?_)
          try simp only [e8, e25, e27, e42, e44, e48, e57, and_true, true_and, or_true, true_or, implies_true, upn, reduceIte, Nat.reduceEqDiff, ne_eq, not_false_eq_true, upc] at e64
          refine Z_Vi hk (c_X0_isBelow κ.2.1 δ ad _ hA v42 v44 v48 v57 v64 (by (omega)) (by (omega)) (by (omega)) (by (omega))) ov_X0_isBelow ml_X7_121 dX7_lookThatStops_65 rfl ⟨by decide, by decide⟩ ob_8.1 (by decide) (by decide) rfl (Nat.le_of_ble_eq_true rfl) (fun r65 m65 p65 => ?_)
          obtain ⟨rfl, p65⟩ := p65
          refine Z_istore5 hk rfl (by decide) dX7_lookThatStops_68 ?_
          refine Z_iload5 hk dX7_lookThatStops_70 ?_
          refine Z_if_eq hk (tgt := 81) dX7_lookThatStops_72 (by decide) (by omega) (by omega) (fun h72 => ?_) (fun h72 => ?_)
          · refine Z_iconst hk dX7_lookThatStops_81 ?_
            exact Z_iret hk hA hQ dX7_lookThatStops_82 ⟨rfl, rfl, _, rfl, (by exact ⟨rfl, (by omega)⟩)⟩
          · refine Z_iload3 hk dX7_lookThatStops_75 ?_
            refine Z_iconst hk dX7_lookThatStops_76 ?_
            refine Z_iadd hk dX7_lookThatStops_77 ?_
            refine Z_goto hk (tgt := 82) dX7_lookThatStops_78 (by decide) ?_
            exact Z_iret hk hA hQ dX7_lookThatStops_82 ⟨rfl, rfl, _, rfl, (by exact ⟨rfl, (by omega)⟩)⟩
  refine Z_istore3 hk rfl (by decide) dX7_lookThatStops_1 ?_
  exact J2 (((5 - 0) : Int).toNat + 1) _ (by omega) (by omega)
set_option maxRecDepth 10000 in
theorem pour18 {κ : Kp} {δ : Dp} {Q : State → Prop} {ad : Nat → Nat} {M : Mem} (hk : okK κ δ cX7_pour RX7 6 none (rmN 3 80)) (hA : okA δ ad) (hQ : Qg κ δ 121 (rmN 3 80).cells (rmN 3 80).slots (fun v ad' rt' M' => ad' = ad ∧ rt' = rs ∧ v = none ∧ ((True) ∧ (∀ c : Nat, c ≠ 11 → M' c = M c))) = Q) (t N : Nat) (g : Nat → Int32) (hN : 1 ≤ N ∧ N ≤ 18) (hT : va_T .int t N (fun j => .int (g j)) (fun q => δ.2.2.1 ≤ q) δ.2.2.2 δ.2.2.2.heap) (t0 : Int) (kn : Int)  (hz : NS δ) (q0 : 0 ≤ t0 ∧ t0 ≤ 3) (qk : 0 ≤ kn ∧ kn ≤ M 1 0) (q1 : 0 ≤ M 1 0 ∧ M 1 0 ≤ 250) (q2 : AD (M 1 0) (M 2) (M 3) (M 4) (M 5) (M 6)) : Zj κ δ ad rs Q 6 (121, 0, 0) 18 [some (.ref (ad 10)), some (.ref (ad 38)), some (iv t0), some (iv kn), none, none] [.ref t] M := by
  refine Z_astore4 hk rfl (by decide) dX7_pour_18 ?_
  refine Z_iconst hk dX7_pour_20 ?_
  have J23 : ∀ (n : Nat) (x5_23 : Int) (m23 : Mem), ((0 ≤ x5_23 ∧ x5_23 ≤ 90) ∧ (∀ c : Nat, c ≠ 11 → m23 c = M c)) → (90 - x5_23) < (n : Int) → Zj κ δ ad rs Q 6 (121, 0, 0) 23 [some (.ref (ad 10)), some (.ref (ad 38)), some (iv t0), some (iv kn), some (.ref t), some (iv x5_23)] [] m23 := by
    intro n
    induction n with
    | zero => intro x5_23 m23 h23 hm23; exfalso; obtain ⟨h23, -⟩ := h23; omega
    | succ n ih23 =>
      intro x5_23 m23 h23 hm23
      obtain ⟨h23, f23_0⟩ := h23
      try simp only [f23_0, and_true, true_and, or_true, true_or, implies_true, upn, reduceIte, Nat.reduceEqDiff, ne_eq, not_false_eq_true, upc] at h23 hm23
      refine Z_iload5 hk dX7_pour_23 ?_
      refine Z_aload1 hk dX7_pour_25 ?_
      refine Z_iload2 hk dX7_pour_26 ?_
      refine Z_Vi hk (c_X3_cups_p38 κ.2.1 δ ad _ hA t0 (by (try simp only [f23_0, and_true, true_and, or_true, true_or, implies_true, upn, reduceIte, Nat.reduceEqDiff, ne_eq, not_false_eq_true, upc]) <;> (omega))) ov_X3_cups ml_X7_42 dX7_pour_27 rfl ⟨by decide, by decide⟩ ob_38.1 (by decide) (by decide) rfl (Nat.le_of_ble_eq_true rfl) (fun r27 m27 p27 => ?_)
      obtain ⟨rfl, p27⟩ := p27
      try simp only [f23_0, and_true, true_and, or_true, true_or, implies_true, upn, reduceIte, Nat.reduceEqDiff, ne_eq, not_false_eq_true, upc] at p27
      refine Z_icmp_ge hk (tgt := 55) dX7_pour_30 (by decide) (by omega) (by omega) (by omega) (by omega) (fun h30 => ?_) (fun h30 => ?_)
      · refine Z_iconst hk dX7_pour_55 ?_
        have J58 : ∀ (n : Nat) (x5_58 : Int) (m58 : Mem), ((1 ≤ x5_58 ∧ x5_58 ≤ kn + 1) ∧ (∀ c : Nat, c ≠ 11 → m58 c = m23 c)) → (kn + 1 - x5_58) < (n : Int) → Zj κ δ ad rs Q 6 (121, 0, 0) 58 [some (.ref (ad 10)), some (.ref (ad 38)), some (iv t0), some (iv kn), some (.ref t), some (iv x5_58)] [] m58 := by
          intro n
          induction n with
          | zero => intro x5_58 m58 h58 hm58; exfalso; obtain ⟨h58, -⟩ := h58; omega
          | succ n ih58 =>
            intro x5_58 m58 h58 hm58
            obtain ⟨h58, f58_0⟩ := h58
            try simp only [f58_0, f23_0, and_true, true_and, or_true, true_or, implies_true, upn, reduceIte, Nat.reduceEqDiff, ne_eq, not_false_eq_true, upc] at h58 hm58
            refine Z_iload5 hk dX7_pour_58 ?_
            refine Z_iload3 hk dX7_pour_60 ?_
            refine Z_icmp_gt hk (tgt := 122) dX7_pour_61 (by decide) (by omega) (by omega) (by omega) (by omega) (fun h61 => ?_) (fun h61 => ?_)
            · exact Z_vret hk hA hQ dX7_pour_122 ⟨rfl, rfl, rfl, (by exact ⟨(by (try simp only [f58_0, f23_0, and_true, true_and, or_true, true_or, implies_true, upn, reduceIte, Nat.reduceEqDiff, ne_eq, not_false_eq_true, upc]) <;> (trivial)), (by intro c k0; simp only [f58_0, f23_0, upc, upn, k0, reduceIte, Nat.reduceEqDiff, ne_eq, not_false_eq_true])⟩)⟩
            · refine Z_aload0 hk dX7_pour_64 ?_
              refine Z_getR hk fl_7_19 dX7_pour_65 ob_10.1 ob_10.2.1 ob_10.2.2.1 ob_10.2.2.2 ft_7_0 rs_10_0 ?_
              refine Z_iload5 hk dX7_pour_68 ?_
              refine Z_iconst hk dX7_pour_70 ?_
              refine Z_iload3 hk dX7_pour_71 ?_
              refine Z_Vi hk (c_X2_isKnown κ.2.1 δ ad _ hA x5_58 3 kn (by (try simp only [f58_0, f23_0, and_true, true_and, or_true, true_or, implies_true, upn, reduceIte, Nat.reduceEqDiff, ne_eq, not_false_eq_true, upc]) <;> (omega)) (by (try simp only [f58_0, f23_0, and_true, true_and, or_true, true_or, implies_true, upn, reduceIte, Nat.reduceEqDiff, ne_eq, not_false_eq_true, upc]) <;> (omega)) (by (try simp only [f58_0, f23_0, and_true, true_and, or_true, true_or, implies_true, upn, reduceIte, Nat.reduceEqDiff, ne_eq, not_false_eq_true, upc]) <;> (omega))) ov_X2_isKnown ml_X7_48 dX7_pour_72 rfl ⟨by decide, by decide⟩ ob_1.1 (by decide) (by decide) rfl (Nat.le_of_ble_eq_true rfl) (fun r72 m72 p72 => ?_)
              obtain ⟨rfl, p72⟩ := p72
              try simp only [f58_0, f23_0, and_true, true_and, or_true, true_or, implies_true, upn, reduceIte, Nat.reduceEqDiff, ne_eq, not_false_eq_true, upc] at p72
              have J116 : ∀ (m116 : Mem), ((True) ∧ (∀ c : Nat, c ≠ 11 → m116 c = m58 c)) → Zj κ δ ad rs Q 6 (121, 0, 0) 116 [some (.ref (ad 10)), some (.ref (ad 38)), some (iv t0), some (iv kn), some (.ref t), some (iv x5_58)] [] m116 := by
                intro m116 h116
                obtain ⟨h116, f116_0⟩ := h116
                try simp only [f116_0, f58_0, f23_0, and_true, true_and, or_true, true_or, implies_true, upn, reduceIte, Nat.reduceEqDiff, ne_eq, not_false_eq_true, upc] at h116
                refine Z_iinc5 hk rfl (by decide) dX7_pour_116 ?_
                refine Z_goto hk (tgt := 58) dX7_pour_119 (by decide) ?_
                exact ih58 _ _ (by exact ⟨(by (try simp only [f116_0, f58_0, f23_0, and_true, true_and, or_true, true_or, implies_true, upn, reduceIte, Nat.reduceEqDiff, ne_eq, not_false_eq_true, upc]) <;> (omega)), (by intro c k0; simp only [f116_0, f58_0, f23_0, upc, upn, k0, reduceIte, Nat.reduceEqDiff, ne_eq, not_false_eq_true])⟩) (by (try simp only [f116_0, f58_0, f23_0, and_true, true_and, or_true, true_or, implies_true, upn, reduceIte, Nat.reduceEqDiff, ne_eq, not_false_eq_true, upc]) <;> (omega))
              refine Z_if_eq hk (tgt := 116) dX7_pour_75 (by decide) (by omega) (by omega) (fun h75 => ?_) (fun h75 => ?_)
              · exact J116 _ (by exact ⟨(by (try simp only [f58_0, f23_0, and_true, true_and, or_true, true_or, implies_true, upn, reduceIte, Nat.reduceEqDiff, ne_eq, not_false_eq_true, upc]) <;> (trivial)), (by intro c k0; simp only [f58_0, f23_0, upc, upn, k0, reduceIte, Nat.reduceEqDiff, ne_eq, not_false_eq_true])⟩)
              · refine Z_aload0 hk dX7_pour_78 ?_
                refine Z_getR hk fl_7_19 dX7_pour_79 ob_10.1 ob_10.2.1 ob_10.2.2.1 ob_10.2.2.2 ft_7_0 rs_10_0 ?_
                refine Z_getR hk fl_7_52 dX7_pour_82 ob_1.1 ob_1.2.1 ob_1.2.2.1 ob_1.2.2.2 ft_2_2 rs_1_2 ?_
                refine Z_iload5 hk dX7_pour_85 ?_
                refine Z_iald hk dX7_pour_87 ar_3.1 ar_3.2.1 ar_3.2.2 (by omega) (by omega) (fun v87 e87 a87 b87 => ?_)
                try simp only [f58_0, f23_0, and_true, true_and, or_true, true_or, implies_true, upn, reduceIte, Nat.reduceEqDiff, ne_eq, not_false_eq_true, upc] at e87
                refine Z_iload2 hk dX7_pour_88 ?_
                refine Z_icmp_ne hk (tgt := 116) dX7_pour_89 (by decide) (by omega) (by omega) (by omega) (by omega) (fun h89 => ?_) (fun h89 => ?_)
                · exact J116 _ (by exact ⟨(by (try simp only [f58_0, f23_0, and_true, true_and, or_true, true_or, implies_true, upn, reduceIte, Nat.reduceEqDiff, ne_eq, not_false_eq_true, upc]) <;> (trivial)), (by intro c k0; simp only [f58_0, f23_0, upc, upn, k0, reduceIte, Nat.reduceEqDiff, ne_eq, not_false_eq_true])⟩)
                · obtain ⟨-, -, g92⟩ := q2 x5_58.toNat (by omega) (by omega)
                  have g92 := g92 (by omega)
                  refine Z_aload0 hk dX7_pour_92 ?_
                  refine Z_aload0 hk dX7_pour_93 ?_
                  refine Z_getR hk fl_7_19 dX7_pour_94 ob_10.1 ob_10.2.1 ob_10.2.2.1 ob_10.2.2.2 ft_7_0 rs_10_0 ?_
                  refine Z_getR hk fl_7_55 dX7_pour_97 ob_1.1 ob_1.2.1 ob_1.2.2.1 ob_1.2.2.2 ft_2_3 rs_1_3 ?_
                  refine Z_iload5 hk dX7_pour_100 ?_
                  refine Z_iald hk dX7_pour_102 ar_4.1 ar_4.2.1 ar_4.2.2 (by omega) (by omega) (fun v102 e102 a102 b102 => ?_)
                  try simp only [f58_0, f23_0, e87, and_true, true_and, or_true, true_or, implies_true, upn, reduceIte, Nat.reduceEqDiff, ne_eq, not_false_eq_true, upc] at e102
                  refine Z_aload0 hk dX7_pour_103 ?_
                  refine Z_getR hk fl_7_19 dX7_pour_104 ob_10.1 ob_10.2.1 ob_10.2.2.1 ob_10.2.2.2 ft_7_0 rs_10_0 ?_
                  refine Z_getR hk fl_7_58 dX7_pour_107 ob_1.1 ob_1.2.1 ob_1.2.2.1 ob_1.2.2.2 ft_2_4 rs_1_4 ?_
                  refine Z_iload5 hk dX7_pour_110 ?_
                  refine Z_iald hk dX7_pour_112 ar_5.1 ar_5.2.1 ar_5.2.2 (by omega) (by omega) (fun v112 e112 a112 b112 => ?_)
                  try simp only [f58_0, f23_0, e87, e102, and_true, true_and, or_true, true_or, implies_true, upn, reduceIte, Nat.reduceEqDiff, ne_eq, not_false_eq_true, upc] at e112
                  refine Z_Vv hk (c_X7_exchange κ.2.1 δ ad _ hA v102 v112 (by (try simp only [f58_0, f23_0, and_true, true_and, or_true, true_or, implies_true, upn, reduceIte, Nat.reduceEqDiff, ne_eq, not_false_eq_true, upc]) <;> (omega))) ov_X7_exchange ml_X7_61 dX7_pour_113 rfl ⟨by decide, by decide⟩ ob_10.1 (by decide) (by decide) rfl (Nat.le_of_ble_eq_true rfl) (fun m113 p113 => ?_)
                  obtain ⟨p113, f113_0⟩ := p113
                  try simp only [f113_0, f58_0, f23_0, e87, e102, e112, and_true, true_and, or_true, true_or, implies_true, upn, reduceIte, Nat.reduceEqDiff, ne_eq, not_false_eq_true, upc] at p113
                  exact J116 _ (by exact ⟨(by (try simp only [f113_0, f58_0, f23_0, and_true, true_and, or_true, true_or, implies_true, upn, reduceIte, Nat.reduceEqDiff, ne_eq, not_false_eq_true, upc]) <;> (trivial)), (by intro c k0; simp only [f113_0, f58_0, f23_0, upc, upn, k0, reduceIte, Nat.reduceEqDiff, ne_eq, not_false_eq_true])⟩)
        refine Z_istore5 hk rfl (by decide) dX7_pour_56 ?_
        exact J58 (((kn + 1 - 1) : Int).toNat + 1) _ _ (by exact ⟨(by (try simp only [f23_0, and_true, true_and, or_true, true_or, implies_true, upn, reduceIte, Nat.reduceEqDiff, ne_eq, not_false_eq_true, upc]) <;> (omega)), (by intro c k0; simp only [f23_0, upc, upn, k0, reduceIte, Nat.reduceEqDiff, ne_eq, not_false_eq_true])⟩) (by omega)
      · refine Z_aload0 hk dX7_pour_33 ?_
        refine Z_getR hk fl_7_9 dX7_pour_34 ob_10.1 ob_10.2.1 ob_10.2.2.1 ob_10.2.2.2 ft_7_2 rs_10_2 ?_
        refine Z_iload5 hk dX7_pour_37 ?_
        refine Z_aload4 hk dX7_pour_39 ?_
        refine Z_iload5 hk dX7_pour_41 ?_
        refine Z_aload4 hk dX7_pour_43 ?_
        refine Z_flen hk hT (by omega) dX7_pour_45 ?_
        refine Z_irem hk dX7_pour_46 (by omega) (by omega) (by omega) (by omega) (by omega) ?_
        have g47 := tm_in (x := x5_23) (y := (N : Int)) (by omega) (by omega)
        refine Z_fild hk hT (by omega) (by omega) (by omega) dX7_pour_47 (fun v47 e47 a47 b47 => ?_)
        refine Z_iast hk hA dX7_pour_48 ar_11.1 ar_11.2.1 ar_11.2.2 (by omega) (by omega) (by omega) (by omega) ?_
        refine Z_nm (fun m48 em48 => ?_)
        refine Z_iinc5 hk rfl (by decide) dX7_pour_49 ?_
        refine Z_goto hk (tgt := 23) dX7_pour_52 (by decide) ?_
        exact ih23 _ _ (by exact ⟨(by (try simp only [em48, f23_0, and_true, true_and, or_true, true_or, implies_true, upn, reduceIte, Nat.reduceEqDiff, ne_eq, not_false_eq_true, upc]) <;> (omega)), (by intro c k0; simp only [em48, f23_0, upc, upn, k0, reduceIte, Nat.reduceEqDiff, ne_eq, not_false_eq_true])⟩) (by (try simp only [em48, f23_0, and_true, true_and, or_true, true_or, implies_true, upn, reduceIte, Nat.reduceEqDiff, ne_eq, not_false_eq_true, upc]) <;> (omega))
  refine Z_istore5 hk rfl (by decide) dX7_pour_21 ?_
  exact J23 (((90 - 0) : Int).toNat + 1) _ _ (by exact ⟨(by (omega)), (by intro c k0; rfl)⟩) (by omega)
set_option maxRecDepth 10000 in
theorem c_X7_pour (l : Launch) (δ : Dp) (ad : Nat → Nat) (M : Mem) (hA : okA δ ad) (t0 : Int) (kn : Int) (hz : NS δ) (q0 : 0 ≤ t0 ∧ t0 ≤ 3) (qk : 0 ≤ kn ∧ kn ≤ M 1 0) (q1 : 0 ≤ M 1 0 ∧ M 1 0 ≤ 250) (q2 : AD (M 1 0) (M 2) (M 3) (M 4) (M 5) (M 6)) : Mv l δ yX7_pour cX7_pour 6 none 3 80 ad rs [.ref (ad 10), .ref (ad 38), iv t0, iv kn] M (fun M' => (True) ∧ (∀ c : Nat, c ≠ 11 → M' c = M c)) := by
  refine Mg.of (rm := rmN 3 80) (by decide) (Nat.le_of_ble_eq_true rfl) fun κ _ hk _ => ?_
  generalize hQ : Qg κ δ 121 (rmN 3 80).cells (rmN 3 80).slots _ = Q
  show Zj κ δ ad rs Q 6 (121, 0, 0) 0 [some (.ref (ad 10)), some (.ref (ad 38)), some (iv t0), some (iv kn), none, none] [] M
  refine Z_aload1 hk dX7_pour_0 ?_
  refine Z_getR hk fl_7_31 dX7_pour_1 ob_38.1 ob_38.2.1 ob_38.2.2.1 ob_38.2.2.2 ft_3_8 rs_38_8 ?_
  refine Z_iload2 hk dX7_pour_4 ?_
  refine Z_zald hk dX7_pour_5 ar_40.1 ar_40.2.1 ar_40.2.2 (by omega) (by omega) (fun v5 e5 a5 b5 => ?_)
  refine Z_if_eq hk (tgt := 15) dX7_pour_6 (by decide) (by omega) (by omega) (fun h6 => ?_) (fun h6 => ?_)
  · obtain ⟨t, hT, hZt⟩ := ns_par hz; refine Z_gsN hk hz (host := RX8) hZt (List.mem_of_getElem? (i := 684) (by decide +kernel)) dX7_pour_15 ?_; exact pour18 hk hA hQ t 4 _ (by omega) hT t0 kn hz q0 qk q1 q2
  · obtain ⟨t, hT, hZt⟩ := ns_tri hz; refine Z_gsN hk hz (host := RX8) hZt (List.mem_of_getElem? (i := 682) (by decide +kernel)) dX7_pour_9 ?_; refine Z_goto hk (tgt := 18) dX7_pour_12 (by decide) ?_; exact pour18 hk hA hQ t 18 _ (by omega) hT t0 kn hz q0 qk q1 q2
set_option maxRecDepth 10000 in
theorem c_X7_contentOf (l : Launch) (δ : Dp) (ad : Nat → Nat) (M : Mem) (hA : okA δ ad) (t : Int) (kn : Int) (c : Int) (hz : NS δ) (q0 : 0 ≤ t ∧ t ≤ 3) (qk : 0 ≤ kn ∧ kn ≤ M 1 0) (q1 : 0 ≤ M 1 0 ∧ M 1 0 ≤ 250) (q2 : AD (M 1 0) (M 2) (M 3) (M 4) (M 5) (M 6)) (i_c : -2147483648 ≤ c ∧ c ≤ 2147483647) : Mi l δ yX7_contentOf cX7_contentOf 5 (some (.int)) 4 105 ad rs [.ref (ad 10), .ref (ad 38), iv t, iv kn, iv c] M (fun r M' => (-2147483648 ≤ r ∧ r ≤ 2147483647) ∧ (∀ c : Nat, c ≠ 11 → M' c = M c)) := by
  refine Mg.of (rm := rmN 4 105) (by decide) (Nat.le_of_ble_eq_true rfl) fun κ _ hk _ => ?_
  generalize hQ : Qg κ δ 121 (rmN 4 105).cells (rmN 4 105).slots _ = Q
  show Zj κ δ ad rs Q 5 (121, 0, 0) 0 [some (.ref (ad 10)), some (.ref (ad 38)), some (iv t), some (iv kn), some (iv c)] [] M
  refine Z_aload0 hk dX7_contentOf_0 ?_
  refine Z_aload1 hk dX7_contentOf_1 ?_
  refine Z_iload2 hk dX7_contentOf_2 ?_
  refine Z_iload3 hk dX7_contentOf_3 ?_
  refine Z_Vv hk (c_X7_pour κ.2.1 δ ad _ hA t kn hz (by (omega)) (by (omega)) (by (omega)) (by (exact q2))) ov_X7_pour ml_X7_27 dX7_contentOf_4 rfl ⟨by decide, by decide⟩ ob_10.1 (by decide) (by decide) rfl (Nat.le_of_ble_eq_true rfl) (fun m4 p4 => ?_)
  obtain ⟨p4, f4_0⟩ := p4
  try simp only [f4_0, and_true, true_and, or_true, true_or, implies_true, upn, reduceIte, Nat.reduceEqDiff, ne_eq, not_false_eq_true, upc] at p4
  refine Z_iload4 hk dX7_contentOf_7 ?_
  refine Z_if_lt hk (tgt := 29) dX7_contentOf_9 (by decide) (by omega) (by omega) (fun h9 => ?_) (fun h9 => ?_)
  · refine Z_iconst hk dX7_contentOf_29 ?_
    exact Z_iret hk hA hQ dX7_contentOf_30 ⟨rfl, rfl, _, rfl, (by exact ⟨(by (try simp only [f4_0, and_true, true_and, or_true, true_or, implies_true, upn, reduceIte, Nat.reduceEqDiff, ne_eq, not_false_eq_true, upc]) <;> (omega)), (by intro c k0; simp only [f4_0, upc, upn, k0, reduceIte, Nat.reduceEqDiff, ne_eq, not_false_eq_true])⟩)⟩
  · refine Z_iload4 hk dX7_contentOf_12 ?_
    refine Z_bipush hk dX7_contentOf_14 (by decide) ?_
    refine Z_icmp_ge hk (tgt := 29) dX7_contentOf_16 (by decide) (by omega) (by omega) (by decide) (by decide) (fun h16 => ?_) (fun h16 => ?_)
    · refine Z_iconst hk dX7_contentOf_29 ?_
      exact Z_iret hk hA hQ dX7_contentOf_30 ⟨rfl, rfl, _, rfl, (by exact ⟨(by (try simp only [f4_0, and_true, true_and, or_true, true_or, implies_true, upn, reduceIte, Nat.reduceEqDiff, ne_eq, not_false_eq_true, upc]) <;> (omega)), (by intro c k0; simp only [f4_0, upc, upn, k0, reduceIte, Nat.reduceEqDiff, ne_eq, not_false_eq_true])⟩)⟩
    · refine Z_aload0 hk dX7_contentOf_19 ?_
      refine Z_getR hk fl_7_9 dX7_contentOf_20 ob_10.1 ob_10.2.1 ob_10.2.2.1 ob_10.2.2.2 ft_7_2 rs_10_2 ?_
      refine Z_iload4 hk dX7_contentOf_23 ?_
      refine Z_iald hk dX7_contentOf_25 ar_11.1 ar_11.2.1 ar_11.2.2 (by omega) (by omega) (fun v25 e25 a25 b25 => ?_)
      try simp only [f4_0, and_true, true_and, or_true, true_or, implies_true, upn, reduceIte, Nat.reduceEqDiff, ne_eq, not_false_eq_true, upc] at e25
      refine Z_goto hk (tgt := 30) dX7_contentOf_26 (by decide) ?_
      exact Z_iret hk hA hQ dX7_contentOf_30 ⟨rfl, rfl, _, rfl, (by exact ⟨(by (try simp only [f4_0, and_true, true_and, or_true, true_or, implies_true, upn, reduceIte, Nat.reduceEqDiff, ne_eq, not_false_eq_true, upc]) <;> (omega)), (by intro c k0; simp only [f4_0, upc, upn, k0, reduceIte, Nat.reduceEqDiff, ne_eq, not_false_eq_true])⟩)⟩
set_option maxHeartbeats 1000000 in
set_option maxRecDepth 10000 in
theorem c_X7_tally (l : Launch) (δ : Dp) (ad : Nat → Nat) (M : Mem) (hA : okA δ ad) (t : Int) (kn : Int) (z : Int) (hz : NS δ) (q0 : 0 ≤ t ∧ t ≤ 3) (qk : 0 ≤ kn ∧ kn ≤ M 1 0) (q1 : 0 ≤ M 1 0 ∧ M 1 0 ≤ 250) (q2 : AD (M 1 0) (M 2) (M 3) (M 4) (M 5) (M 6)) (q3 : LK (M 41)) (i_z : -2147483648 ≤ z ∧ z ≤ 2147483647) : Mv l δ yX7_tally cX7_tally 8 none 4 105 ad rs [.ref (ad 10), .ref (ad 38), iv t, iv kn, iv z] M (fun M' => (0 ≤ (M' 10 10) ∧ (M' 10 10) ≤ (M' 10 9) ∧ (M' 10 9) ≤ 30) ∧ (∀ c : Nat, c ≠ 10 → c ≠ 11 → c ≠ 12 → M' c = M c) ∧ (∀ i : Nat, i ≠ 4 → i ≠ 5 → i ≠ 6 → i ≠ 7 → i ≠ 8 → i ≠ 9 → i ≠ 10 → M' 10 i = M 10 i)) := by
  refine Mg.of (rm := rmN 4 105) (by decide) (Nat.le_of_ble_eq_true rfl) fun κ _ hk _ => ?_
  generalize hQ : Qg κ δ 121 (rmN 4 105).cells (rmN 4 105).slots _ = Q
  show Zj κ δ ad rs Q 8 (121, 0, 0) 0 [some (.ref (ad 10)), some (.ref (ad 38)), some (iv t), some (iv kn), some (iv z), none, none, none] [] M
  refine Z_aload0 hk dX7_tally_0 ?_
  refine Z_aload1 hk dX7_tally_1 ?_
  refine Z_iload2 hk dX7_tally_2 ?_
  refine Z_iload3 hk dX7_tally_3 ?_
  refine Z_Vv hk (c_X7_pour κ.2.1 δ ad _ hA t kn hz (by (omega)) (by (omega)) (by (omega)) (by (exact q2))) ov_X7_pour ml_X7_27 dX7_tally_4 rfl ⟨by decide, by decide⟩ ob_10.1 (by decide) (by decide) rfl (Nat.le_of_ble_eq_true rfl) (fun m4 p4 => ?_)
  obtain ⟨p4, f4_0⟩ := p4
  try simp only [f4_0, and_true, true_and, or_true, true_or, implies_true, upn, reduceIte, Nat.reduceEqDiff, ne_eq, not_false_eq_true, upc] at p4
  refine Z_aload0 hk dX7_tally_7 ?_
  refine Z_Vv hk (c_X7_clear κ.2.1 δ ad _ hA  ) ov_X7_clear ml_X7_65 dX7_tally_8 rfl ⟨by decide, by decide⟩ ob_10.1 (by decide) (by decide) rfl (Nat.le_of_ble_eq_true rfl) (fun m8 p8 => ?_)
  obtain ⟨p8, f8_0, f8_1, f8_2⟩ := p8
  try simp only [f8_0, f8_1, f8_2, f4_0, and_true, true_and, or_true, true_or, implies_true, upn, reduceIte, Nat.reduceEqDiff, ne_eq, not_false_eq_true, upc] at p8
  refine Z_iconst hk dX7_tally_11 ?_
  have J14 : ∀ (n : Nat) (x5_14 : Int) (m14 : Mem), (((1 ≤ x5_14 ∧ x5_14 ≤ kn + 1 ∧ 0 ≤ (m14 10 4) ∧ 0 ≤ (m14 10 5) ∧ 0 ≤ (m14 10 6) ∧ 0 ≤ (m14 10 7) ∧ 0 ≤ (m14 10 10) ∧ (m14 10 10) ≤ (m14 10 9) ∧ (m14 10 9) ≤ 30) ∧ (m14 10 4) + (m14 10 5) + (m14 10 6) + (m14 10 7) ≤ (cn (m14 12) 30 : Int)) ∧ (∀ c : Nat, c ≠ 10 → c ≠ 12 → m14 c = m8 c) ∧ (∀ i : Nat, i ≠ 4 → i ≠ 5 → i ≠ 6 → i ≠ 7 → i ≠ 8 → i ≠ 9 → i ≠ 10 → m14 10 i = m8 10 i)) → (kn + 1 - x5_14) < (n : Int) → Zj κ δ ad rs Q 8 (121, 0, 0) 14 [some (.ref (ad 10)), some (.ref (ad 38)), some (iv t), some (iv kn), some (iv z), some (iv x5_14), none, none] [] m14 := by
    intro n
    induction n with
    | zero => intro x5_14 m14 h14 hm14; exfalso; obtain ⟨h14, -⟩ := h14; omega
    | succ n ih14 =>
      intro x5_14 m14 h14 hm14
      obtain ⟨h14, f14_0, f14_1⟩ := h14
      try simp only [f14_0, f14_1, f8_0, f8_1, f8_2, f4_0, and_true, true_and, or_true, true_or, implies_true, upn, reduceIte, Nat.reduceEqDiff, ne_eq, not_false_eq_true, upc] at h14 hm14
      have cl14 := cn_le (m14 12) 30
      refine Z_iload5 hk dX7_tally_14 ?_
      refine Z_iload3 hk dX7_tally_16 ?_
      refine Z_icmp_gt hk (tgt := 154) dX7_tally_17 (by decide) (by omega) (by omega) (by omega) (by omega) (fun h17 => ?_) (fun h17 => ?_)
      · exact Z_vret hk hA hQ dX7_tally_154 ⟨rfl, rfl, rfl, (by exact ⟨(by (try simp only [f14_0, f14_1, f8_0, f8_1, f8_2, f4_0, and_true, true_and, or_true, true_or, implies_true, upn, reduceIte, Nat.reduceEqDiff, ne_eq, not_false_eq_true, upc]) <;> (omega)), (by intro c k0 k1 k2; simp only [f14_0, f14_1, f8_0, f8_1, f8_2, f4_0, upc, upn, k0, k1, k2, reduceIte, Nat.reduceEqDiff, ne_eq, not_false_eq_true]), (by intro i k0 k1 k2 k3 k4 k5 k6; simp only [f14_0, f14_1, f8_0, f8_1, f8_2, f4_0, upc, upn, k0, k1, k2, k3, k4, k5, k6, reduceIte, Nat.reduceEqDiff, ne_eq, not_false_eq_true])⟩)⟩
      · refine Z_aload0 hk dX7_tally_20 ?_
        refine Z_getI hk fl_7_68 dX7_tally_21 ob_10.1 ob_10.2.1 ob_10.2.2.1 ob_10.2.2.2 ft_7_8 (fun v21 e21 a21 b21 => ?_)
        try simp only [f14_0, f14_1, f8_0, f8_1, f8_2, f4_0, and_true, true_and, or_true, true_or, implies_true, upn, reduceIte, Nat.reduceEqDiff, ne_eq, not_false_eq_true, upc] at e21
        refine Z_if_ne hk (tgt := 154) dX7_tally_24 (by decide) (by omega) (by omega) (fun h24 => ?_) (fun h24 => ?_)
        · exact Z_vret hk hA hQ dX7_tally_154 ⟨rfl, rfl, rfl, (by exact ⟨(by (try simp only [f14_0, f14_1, f8_0, f8_1, f8_2, f4_0, and_true, true_and, or_true, true_or, implies_true, upn, reduceIte, Nat.reduceEqDiff, ne_eq, not_false_eq_true, upc]) <;> (omega)), (by intro c k0 k1 k2; simp only [f14_0, f14_1, f8_0, f8_1, f8_2, f4_0, upc, upn, k0, k1, k2, reduceIte, Nat.reduceEqDiff, ne_eq, not_false_eq_true]), (by intro i k0 k1 k2 k3 k4 k5 k6; simp only [f14_0, f14_1, f8_0, f8_1, f8_2, f4_0, upc, upn, k0, k1, k2, k3, k4, k5, k6, reduceIte, Nat.reduceEqDiff, ne_eq, not_false_eq_true])⟩)⟩
        · refine Z_aload0 hk dX7_tally_27 ?_
          refine Z_getR hk fl_7_19 dX7_tally_28 ob_10.1 ob_10.2.1 ob_10.2.2.1 ob_10.2.2.2 ft_7_0 rs_10_0 ?_
          refine Z_iload5 hk dX7_tally_31 ?_
          refine Z_iconst hk dX7_tally_33 ?_
          refine Z_iload3 hk dX7_tally_34 ?_
          refine Z_Vi hk (c_X2_isKnown κ.2.1 δ ad _ hA x5_14 1 kn (by (try simp only [f14_0, f14_1, f8_0, f8_1, f8_2, f4_0, and_true, true_and, or_true, true_or, implies_true, upn, reduceIte, Nat.reduceEqDiff, ne_eq, not_false_eq_true, upc]) <;> (omega)) (by (try simp only [f14_0, f14_1, f8_0, f8_1, f8_2, f4_0, and_true, true_and, or_true, true_or, implies_true, upn, reduceIte, Nat.reduceEqDiff, ne_eq, not_false_eq_true, upc]) <;> (omega)) (by (try simp only [f14_0, f14_1, f8_0, f8_1, f8_2, f4_0, and_true, true_and, or_true, true_or, implies_true, upn, reduceIte, Nat.reduceEqDiff, ne_eq, not_false_eq_true, upc]) <;> (omega))) ov_X2_isKnown ml_X7_48 dX7_tally_35 rfl ⟨by decide, by decide⟩ ob_1.1 (by decide) (by decide) rfl (Nat.le_of_ble_eq_true rfl) (fun r35 m35 p35 => ?_)
          obtain ⟨rfl, p35⟩ := p35
          try simp only [f14_0, f14_1, f8_0, f8_1, f8_2, f4_0, e21, and_true, true_and, or_true, true_or, implies_true, upn, reduceIte, Nat.reduceEqDiff, ne_eq, not_false_eq_true, upc] at p35
          have J148 : ∀ (m148 : Mem), (((0 ≤ (m148 10 4) ∧ 0 ≤ (m148 10 5) ∧ 0 ≤ (m148 10 6) ∧ 0 ≤ (m148 10 7) ∧ 0 ≤ (m148 10 10) ∧ (m148 10 10) ≤ (m148 10 9) ∧ (m148 10 9) ≤ 30) ∧ (m148 10 4) + (m148 10 5) + (m148 10 6) + (m148 10 7) ≤ (cn (m148 12) 30 : Int)) ∧ (∀ c : Nat, c ≠ 10 → c ≠ 12 → m148 c = m14 c) ∧ (∀ i : Nat, i ≠ 4 → i ≠ 5 → i ≠ 6 → i ≠ 7 → i ≠ 8 → i ≠ 9 → i ≠ 10 → m148 10 i = m14 10 i)) → Zj κ δ ad rs Q 8 (121, 0, 0) 148 [some (.ref (ad 10)), some (.ref (ad 38)), some (iv t), some (iv kn), some (iv z), some (iv x5_14), none, none] [] m148 := by
            intro m148 h148
            obtain ⟨h148, f148_0, f148_1⟩ := h148
            try simp only [f148_0, f148_1, f14_0, f14_1, f8_0, f8_1, f8_2, f4_0, and_true, true_and, or_true, true_or, implies_true, upn, reduceIte, Nat.reduceEqDiff, ne_eq, not_false_eq_true, upc] at h148
            refine Z_iinc5 hk rfl (by decide) dX7_tally_148 ?_
            refine Z_goto hk (tgt := 14) dX7_tally_151 (by decide) ?_
            exact ih14 _ _ (by exact ⟨(by (exact ⟨(by (try simp only [f148_0, f148_1, f14_0, f14_1, f8_0, f8_1, f8_2, f4_0, e21, and_true, true_and, or_true, true_or, implies_true, upn, reduceIte, Nat.reduceEqDiff, ne_eq, not_false_eq_true, upc, upc]) <;> omega), h148.2⟩)), (by intro c k0 k1; simp only [f148_0, f148_1, f14_0, f14_1, f8_0, f8_1, f8_2, f4_0, upc, upn, k0, k1, reduceIte, Nat.reduceEqDiff, ne_eq, not_false_eq_true]), (by intro i k0 k1 k2 k3 k4 k5 k6; simp only [f148_0, f148_1, f14_0, f14_1, f8_0, f8_1, f8_2, f4_0, upc, upn, k0, k1, k2, k3, k4, k5, k6, reduceIte, Nat.reduceEqDiff, ne_eq, not_false_eq_true])⟩) (by (try simp only [f148_0, f148_1, f14_0, f14_1, f8_0, f8_1, f8_2, f4_0, and_true, true_and, or_true, true_or, implies_true, upn, reduceIte, Nat.reduceEqDiff, ne_eq, not_false_eq_true, upc]) <;> (omega))
          refine Z_if_eq hk (tgt := 148) dX7_tally_38 (by decide) (by omega) (by omega) (fun h38 => ?_) (fun h38 => ?_)
          · exact J148 _ (by exact ⟨(by (exact ⟨(by (try simp only [f14_0, f14_1, f8_0, f8_1, f8_2, f4_0, e21, and_true, true_and, or_true, true_or, implies_true, upn, reduceIte, Nat.reduceEqDiff, ne_eq, not_false_eq_true, upc, upc]) <;> omega), (by (try simp only [f14_0, f14_1, f8_0, f8_1, f8_2, f4_0, e21, and_true, true_and, or_true, true_or, implies_true, upn, reduceIte, Nat.reduceEqDiff, ne_eq, not_false_eq_true, upc, upc]) <;> omega)⟩)), (by intro c k0 k1; simp only [f14_0, f14_1, f8_0, f8_1, f8_2, f4_0, upc, upn, k0, k1, reduceIte, Nat.reduceEqDiff, ne_eq, not_false_eq_true]), (by intro i k0 k1 k2 k3 k4 k5 k6; simp only [f14_0, f14_1, f8_0, f8_1, f8_2, f4_0, upc, upn, k0, k1, k2, k3, k4, k5, k6, reduceIte, Nat.reduceEqDiff, ne_eq, not_false_eq_true])⟩)
          · refine Z_aload0 hk dX7_tally_41 ?_
            refine Z_getR hk fl_7_19 dX7_tally_42 ob_10.1 ob_10.2.1 ob_10.2.2.1 ob_10.2.2.2 ft_7_0 rs_10_0 ?_
            refine Z_getR hk fl_7_52 dX7_tally_45 ob_1.1 ob_1.2.1 ob_1.2.2.1 ob_1.2.2.2 ft_2_2 rs_1_2 ?_
            refine Z_iload5 hk dX7_tally_48 ?_
            refine Z_iald hk dX7_tally_50 ar_3.1 ar_3.2.1 ar_3.2.2 (by omega) (by omega) (fun v50 e50 a50 b50 => ?_)
            try simp only [f14_0, f14_1, f8_0, f8_1, f8_2, f4_0, e21, and_true, true_and, or_true, true_or, implies_true, upn, reduceIte, Nat.reduceEqDiff, ne_eq, not_false_eq_true, upc] at e50
            refine Z_iload2 hk dX7_tally_51 ?_
            refine Z_icmp_eq hk (tgt := 58) dX7_tally_52 (by decide) (by omega) (by omega) (by omega) (by omega) (fun h52 => ?_) (fun h52 => ?_)
            · obtain ⟨g58, -, -⟩ := q2 x5_14.toNat (by omega) (by omega)
              have g58 := g58 (by omega)
              refine Z_aload0 hk dX7_tally_58 ?_
              refine Z_getR hk fl_7_19 dX7_tally_59 ob_10.1 ob_10.2.1 ob_10.2.2.1 ob_10.2.2.2 ft_7_0 rs_10_0 ?_
              refine Z_getR hk fl_7_55 dX7_tally_62 ob_1.1 ob_1.2.1 ob_1.2.2.1 ob_1.2.2.2 ft_2_3 rs_1_3 ?_
              refine Z_iload5 hk dX7_tally_65 ?_
              refine Z_iald hk dX7_tally_67 ar_4.1 ar_4.2.1 ar_4.2.2 (by omega) (by omega) (fun v67 e67 a67 b67 => ?_)
              try simp only [f14_0, f14_1, f8_0, f8_1, f8_2, f4_0, e21, e50, and_true, true_and, or_true, true_or, implies_true, upn, reduceIte, Nat.reduceEqDiff, ne_eq, not_false_eq_true, upc] at e67
              refine Z_istore6 hk rfl (by decide) dX7_tally_68 ?_
              refine Z_aload0 hk dX7_tally_70 ?_
              refine Z_getR hk fl_7_15 dX7_tally_71 ob_10.1 ob_10.2.1 ob_10.2.2.1 ob_10.2.2.2 ft_7_3 rs_10_3 ?_
              refine Z_iload6 hk dX7_tally_74 ?_
              refine Z_zald hk dX7_tally_76 ar_12.1 ar_12.2.1 ar_12.2.2 (by omega) (by omega) (fun v76 e76 a76 b76 => ?_)
              try simp only [f14_0, f14_1, f8_0, f8_1, f8_2, f4_0, e21, e50, e67, and_true, true_and, or_true, true_or, implies_true, upn, reduceIte, Nat.reduceEqDiff, ne_eq, not_false_eq_true, upc] at e76
              refine Z_if_ne hk (tgt := 148) dX7_tally_77 (by decide) (by omega) (by omega) (fun h77 => ?_) (fun h77 => ?_)
              · refine Z_drop6 ?_
                exact J148 _ (by exact ⟨(by (exact ⟨(by (try simp only [f14_0, f14_1, f8_0, f8_1, f8_2, f4_0, e21, e50, e67, e76, and_true, true_and, or_true, true_or, implies_true, upn, reduceIte, Nat.reduceEqDiff, ne_eq, not_false_eq_true, upc, upc]) <;> omega), (by (try simp only [f14_0, f14_1, f8_0, f8_1, f8_2, f4_0, e21, e50, e67, e76, and_true, true_and, or_true, true_or, implies_true, upn, reduceIte, Nat.reduceEqDiff, ne_eq, not_false_eq_true, upc, upc]) <;> omega)⟩)), (by intro c k0 k1; simp only [f14_0, f14_1, f8_0, f8_1, f8_2, f4_0, upc, upn, k0, k1, reduceIte, Nat.reduceEqDiff, ne_eq, not_false_eq_true]), (by intro i k0 k1 k2 k3 k4 k5 k6; simp only [f14_0, f14_1, f8_0, f8_1, f8_2, f4_0, upc, upn, k0, k1, k2, k3, k4, k5, k6, reduceIte, Nat.reduceEqDiff, ne_eq, not_false_eq_true])⟩)
              · refine Z_aload0 hk dX7_tally_80 ?_
                refine Z_getR hk fl_7_15 dX7_tally_81 ob_10.1 ob_10.2.1 ob_10.2.2.1 ob_10.2.2.2 ft_7_3 rs_10_3 ?_
                refine Z_iload6 hk dX7_tally_84 ?_
                refine Z_iconst hk dX7_tally_86 ?_
                refine Z_zast hk hA dX7_tally_87 ar_12.1 ar_12.2.1 ar_12.2.2 (by omega) (by omega) (by decide) (by decide) ?_
                refine Z_nm (fun m87 em87 => ?_)
                have c88 : cn (m87 12) 30 = cn (m14 12) 30 + 1 := by
                  simp only [em87, f14_0, f14_1, f8_0, f8_1, f8_2, f4_0, e21, e50, e67, e76, and_true, true_and, or_true, true_or, implies_true, upn, reduceIte, Nat.reduceEqDiff, ne_eq, not_false_eq_true, upc, upc]
                  exact cn_set (by omega) (by decide) (by omega)
                have cl88 := cn_le (m87 12) 30
                refine Z_aload0 hk dX7_tally_88 ?_
                refine Z_aload1 hk dX7_tally_89 ?_
                refine Z_getR hk fl_7_31 dX7_tally_90 ob_38.1 ob_38.2.1 ob_38.2.2.1 ob_38.2.2.2 ft_3_8 rs_38_8 ?_
                refine Z_iload2 hk dX7_tally_93 ?_
                refine Z_zald hk dX7_tally_94 ar_40.1 ar_40.2.1 ar_40.2.2 (by omega) (by omega) (fun v94 e94 a94 b94 => ?_)
                try simp only [em87, f14_0, f14_1, f8_0, f8_1, f8_2, f4_0, e21, e50, e67, e76, and_true, true_and, or_true, true_or, implies_true, upn, reduceIte, Nat.reduceEqDiff, ne_eq, not_false_eq_true, upc] at e94
                refine Z_iload6 hk dX7_tally_95 ?_
                refine Z_aload0 hk dX7_tally_97 ?_
                refine Z_getR hk fl_7_19 dX7_tally_98 ob_10.1 ob_10.2.1 ob_10.2.2.1 ob_10.2.2.2 ft_7_0 rs_10_0 ?_
                refine Z_getR hk fl_7_58 dX7_tally_101 ob_1.1 ob_1.2.1 ob_1.2.2.1 ob_1.2.2.2 ft_2_4 rs_1_4 ?_
                refine Z_iload5 hk dX7_tally_104 ?_
                refine Z_iald hk dX7_tally_106 ar_5.1 ar_5.2.1 ar_5.2.2 (by omega) (by omega) (fun v106 e106 a106 b106 => ?_)
                try simp only [em87, f14_0, f14_1, f8_0, f8_1, f8_2, f4_0, e21, e50, e67, e76, e94, and_true, true_and, or_true, true_or, implies_true, upn, reduceIte, Nat.reduceEqDiff, ne_eq, not_false_eq_true, upc] at e106
                refine Z_Vv hk (c_X7_hear κ.2.1 δ ad _ hA v94 v67 v106 (by (try simp only [em87, f14_0, f14_1, f8_0, f8_1, f8_2, f4_0, and_true, true_and, or_true, true_or, implies_true, upn, reduceIte, Nat.reduceEqDiff, ne_eq, not_false_eq_true, upc]) <;> (omega)) (by (try simp only [em87, f14_0, f14_1, f8_0, f8_1, f8_2, f4_0, and_true, true_and, or_true, true_or, implies_true, upn, reduceIte, Nat.reduceEqDiff, ne_eq, not_false_eq_true, upc]) <;> (omega)) (by (try simp only [em87, f14_0, f14_1, f8_0, f8_1, f8_2, f4_0, and_true, true_and, or_true, true_or, implies_true, upn, reduceIte, Nat.reduceEqDiff, ne_eq, not_false_eq_true, upc]) <;> (omega)) (by (try simp only [em87, f14_0, f14_1, f8_0, f8_1, f8_2, f4_0, and_true, true_and, or_true, true_or, implies_true, upn, reduceIte, Nat.reduceEqDiff, ne_eq, not_false_eq_true, upc]) <;> (omega))) ov_X7_hear ml_X7_72 dX7_tally_107 rfl ⟨by decide, by decide⟩ ob_10.1 (by decide) (by decide) rfl (Nat.le_of_ble_eq_true rfl) (fun m107 p107 => ?_)
                obtain ⟨p107, f107_0, f107_1⟩ := p107
                try simp only [f107_0, f107_1, em87, f14_0, f14_1, f8_0, f8_1, f8_2, f4_0, e21, e50, e67, e76, e94, e106, and_true, true_and, or_true, true_or, implies_true, upn, reduceIte, Nat.reduceEqDiff, ne_eq, not_false_eq_true, upc] at p107
                refine Z_aload0 hk dX7_tally_110 ?_
                refine Z_getI hk fl_7_76 dX7_tally_111 ob_10.1 ob_10.2.1 ob_10.2.2.1 ob_10.2.2.2 ft_7_9 (fun v111 e111 a111 b111 => ?_)
                try simp only [f107_0, f107_1, em87, f14_0, f14_1, f8_0, f8_1, f8_2, f4_0, e21, e50, e67, e76, e94, e106, and_true, true_and, or_true, true_or, implies_true, upn, reduceIte, Nat.reduceEqDiff, ne_eq, not_false_eq_true, upc] at e111
                refine Z_istore7 hk rfl (by decide) dX7_tally_114 ?_
                refine Z_aload0 hk dX7_tally_116 ?_
                refine Z_aload1 hk dX7_tally_117 ?_
                refine Z_getI hk fl_7_79 dX7_tally_118 ob_38.1 ob_38.2.1 ob_38.2.2.1 ob_38.2.2.2 ft_3_3 (fun v118 e118 a118 b118 => ?_)
                try simp only [f107_0, f107_1, em87, f14_0, f14_1, f8_0, f8_1, f8_2, f4_0, e21, e50, e67, e76, e94, e106, e111, and_true, true_and, or_true, true_or, implies_true, upn, reduceIte, Nat.reduceEqDiff, ne_eq, not_false_eq_true, upc] at e118
                refine Z_Vv hk (c_X7_count κ.2.1 δ ad _ hA v118 (by (try simp only [f107_0, f107_1, em87, f14_0, f14_1, f8_0, f8_1, f8_2, f4_0, and_true, true_and, or_true, true_or, implies_true, upn, reduceIte, Nat.reduceEqDiff, ne_eq, not_false_eq_true, upc]) <;> (omega)) (by (try simp only [f107_0, f107_1, em87, f14_0, f14_1, f8_0, f8_1, f8_2, f4_0, and_true, true_and, or_true, true_or, implies_true, upn, reduceIte, Nat.reduceEqDiff, ne_eq, not_false_eq_true, upc]) <;> (omega)) (by (try simp only [f107_0, f107_1, em87, f14_0, f14_1, f8_0, f8_1, f8_2, f4_0, and_true, true_and, or_true, true_or, implies_true, upn, reduceIte, Nat.reduceEqDiff, ne_eq, not_false_eq_true, upc]) <;> (omega))) ov_X7_count ml_X7_82 dX7_tally_121 rfl ⟨by decide, by decide⟩ ob_10.1 (by decide) (by decide) rfl (Nat.le_of_ble_eq_true rfl) (fun m121 p121 => ?_)
                obtain ⟨p121, f121_0, f121_1⟩ := p121
                try simp only [f121_0, f121_1, f107_0, f107_1, em87, f14_0, f14_1, f8_0, f8_1, f8_2, f4_0, e21, e50, e67, e76, e94, e106, e111, e118, and_true, true_and, or_true, true_or, implies_true, upn, reduceIte, Nat.reduceEqDiff, ne_eq, not_false_eq_true, upc] at p121
                refine Z_iload4 hk dX7_tally_124 ?_
                refine Z_if_eq hk (tgt := 148) dX7_tally_126 (by decide) (by omega) (by omega) (fun h126 => ?_) (fun h126 => ?_)
                · refine Z_drop6 ?_
                  refine Z_drop7 ?_
                  exact J148 _ (by exact ⟨(by (exact ⟨(by (try simp only [f121_0, f121_1, f107_0, f107_1, em87, f14_0, f14_1, f8_0, f8_1, f8_2, f4_0, e21, e50, e67, e76, e94, e106, e111, e118, and_true, true_and, or_true, true_or, implies_true, upn, reduceIte, Nat.reduceEqDiff, ne_eq, not_false_eq_true, upc, upc]) <;> omega), (by have c88' := c88; (try simp only [f121_0, f121_1, f107_0, f107_1, em87, f14_0, f14_1, f8_0, f8_1, f8_2, f4_0, e21, e50, e67, e76, e94, e106, e111, e118, and_true, true_and, or_true, true_or, implies_true, upn, reduceIte, Nat.reduceEqDiff, ne_eq, not_false_eq_true, upc, upc] at c88' ⊢); omega)⟩)), (by intro c k0 k1; simp only [f121_0, f121_1, f107_0, f107_1, em87, f14_0, f14_1, f8_0, f8_1, f8_2, f4_0, upc, upn, k0, k1, reduceIte, Nat.reduceEqDiff, ne_eq, not_false_eq_true]), (by intro i k0 k1 k2 k3 k4 k5 k6; simp only [f121_0, f121_1, f107_0, f107_1, em87, f14_0, f14_1, f8_0, f8_1, f8_2, f4_0, upc, upn, k0, k1, k2, k3, k4, k5, k6, reduceIte, Nat.reduceEqDiff, ne_eq, not_false_eq_true])⟩)
                · refine Z_aload0 hk dX7_tally_129 ?_
                  refine Z_getI hk fl_7_76 dX7_tally_130 ob_10.1 ob_10.2.1 ob_10.2.2.1 ob_10.2.2.2 ft_7_9 (fun v130 e130 a130 b130 => ?_)
                  try simp only [f121_0, f121_1, f107_0, f107_1, em87, f14_0, f14_1, f8_0, f8_1, f8_2, f4_0, e21, e50, e67, e76, e94, e106, e111, e118, and_true, true_and, or_true, true_or, implies_true, upn, reduceIte, Nat.reduceEqDiff, ne_eq, not_false_eq_true, upc] at e130
                  refine Z_iload7 hk dX7_tally_133 ?_
                  refine Z_icmp_le hk (tgt := 148) dX7_tally_135 (by decide) (by omega) (by omega) (by omega) (by omega) (fun h135 => ?_) (fun h135 => ?_)
                  · refine Z_drop6 ?_
                    refine Z_drop7 ?_
                    exact J148 _ (by exact ⟨(by (exact ⟨(by (try simp only [f121_0, f121_1, f107_0, f107_1, em87, f14_0, f14_1, f8_0, f8_1, f8_2, f4_0, e21, e50, e67, e76, e94, e106, e111, e118, e130, and_true, true_and, or_true, true_or, implies_true, upn, reduceIte, Nat.reduceEqDiff, ne_eq, not_false_eq_true, upc, upc]) <;> omega), (by have c88' := c88; (try simp only [f121_0, f121_1, f107_0, f107_1, em87, f14_0, f14_1, f8_0, f8_1, f8_2, f4_0, e21, e50, e67, e76, e94, e106, e111, e118, e130, and_true, true_and, or_true, true_or, implies_true, upn, reduceIte, Nat.reduceEqDiff, ne_eq, not_false_eq_true, upc, upc] at c88' ⊢); omega)⟩)), (by intro c k0 k1; simp only [f121_0, f121_1, f107_0, f107_1, em87, f14_0, f14_1, f8_0, f8_1, f8_2, f4_0, upc, upn, k0, k1, reduceIte, Nat.reduceEqDiff, ne_eq, not_false_eq_true]), (by intro i k0 k1 k2 k3 k4 k5 k6; simp only [f121_0, f121_1, f107_0, f107_1, em87, f14_0, f14_1, f8_0, f8_1, f8_2, f4_0, upc, upn, k0, k1, k2, k3, k4, k5, k6, reduceIte, Nat.reduceEqDiff, ne_eq, not_false_eq_true])⟩)
                  · refine Z_aload0 hk dX7_tally_138 ?_
                    refine Z_aload0 hk dX7_tally_139 ?_
                    refine Z_aload1 hk dX7_tally_140 ?_
                    refine Z_iload2 hk dX7_tally_141 ?_
                    refine Z_Vi hk (c_X7_lookThatStops κ.2.1 δ ad _ hA t (by (try simp only [f121_0, f121_1, f107_0, f107_1, em87, f14_0, f14_1, f8_0, f8_1, f8_2, f4_0, and_true, true_and, or_true, true_or, implies_true, upn, reduceIte, Nat.reduceEqDiff, ne_eq, not_false_eq_true, upc]) <;> (omega)) (by (try simp only [f121_0, f121_1, f107_0, f107_1, em87, f14_0, f14_1, f8_0, f8_1, f8_2, f4_0, and_true, true_and, or_true, true_or, implies_true, upn, reduceIte, Nat.reduceEqDiff, ne_eq, not_false_eq_true, upc]) <;> (exact q3)) (by (try simp only [f121_0, f121_1, f107_0, f107_1, em87, f14_0, f14_1, f8_0, f8_1, f8_2, f4_0, and_true, true_and, or_true, true_or, implies_true, upn, reduceIte, Nat.reduceEqDiff, ne_eq, not_false_eq_true, upc]) <;> (omega))) ov_X7_lookThatStops ml_X7_86 dX7_tally_142 rfl ⟨by decide, by decide⟩ ob_10.1 (by decide) (by decide) rfl (Nat.le_of_ble_eq_true rfl) (fun r142 m142 p142 => ?_)
                    obtain ⟨rfl, p142⟩ := p142
                    try simp only [f121_0, f121_1, f107_0, f107_1, em87, f14_0, f14_1, f8_0, f8_1, f8_2, f4_0, e21, e50, e67, e76, e94, e106, e111, e118, e130, and_true, true_and, or_true, true_or, implies_true, upn, reduceIte, Nat.reduceEqDiff, ne_eq, not_false_eq_true, upc] at p142
                    refine Z_putI hk hA fl_7_68 dX7_tally_145 ob_10.1 ob_10.2.1 ob_10.2.2.1 ob_10.2.2.2 ft_7_8 (by omega) (by omega) ?_
                    refine Z_nm (fun m145 em145 => ?_)
                    refine Z_drop6 ?_
                    refine Z_drop7 ?_
                    exact J148 _ (by exact ⟨(by (exact ⟨(by (try simp only [em145, f121_0, f121_1, f107_0, f107_1, em87, f14_0, f14_1, f8_0, f8_1, f8_2, f4_0, e21, e50, e67, e76, e94, e106, e111, e118, e130, and_true, true_and, or_true, true_or, implies_true, upn, reduceIte, Nat.reduceEqDiff, ne_eq, not_false_eq_true, upc, upc]) <;> omega), (by have c88' := c88; (try simp only [em145, f121_0, f121_1, f107_0, f107_1, em87, f14_0, f14_1, f8_0, f8_1, f8_2, f4_0, e21, e50, e67, e76, e94, e106, e111, e118, e130, and_true, true_and, or_true, true_or, implies_true, upn, reduceIte, Nat.reduceEqDiff, ne_eq, not_false_eq_true, upc, upc] at c88' ⊢); omega)⟩)), (by intro c k0 k1; simp only [em145, f121_0, f121_1, f107_0, f107_1, em87, f14_0, f14_1, f8_0, f8_1, f8_2, f4_0, upc, upn, k0, k1, reduceIte, Nat.reduceEqDiff, ne_eq, not_false_eq_true]), (by intro i k0 k1 k2 k3 k4 k5 k6; simp only [em145, f121_0, f121_1, f107_0, f107_1, em87, f14_0, f14_1, f8_0, f8_1, f8_2, f4_0, upc, upn, k0, k1, k2, k3, k4, k5, k6, reduceIte, Nat.reduceEqDiff, ne_eq, not_false_eq_true])⟩)
            · refine Z_goto hk (tgt := 148) dX7_tally_55 (by decide) ?_
              exact J148 _ (by exact ⟨(by (exact ⟨(by (try simp only [f14_0, f14_1, f8_0, f8_1, f8_2, f4_0, e21, e50, and_true, true_and, or_true, true_or, implies_true, upn, reduceIte, Nat.reduceEqDiff, ne_eq, not_false_eq_true, upc, upc]) <;> omega), (by (try simp only [f14_0, f14_1, f8_0, f8_1, f8_2, f4_0, e21, e50, and_true, true_and, or_true, true_or, implies_true, upn, reduceIte, Nat.reduceEqDiff, ne_eq, not_false_eq_true, upc, upc]) <;> omega)⟩)), (by intro c k0 k1; simp only [f14_0, f14_1, f8_0, f8_1, f8_2, f4_0, upc, upn, k0, k1, reduceIte, Nat.reduceEqDiff, ne_eq, not_false_eq_true]), (by intro i k0 k1 k2 k3 k4 k5 k6; simp only [f14_0, f14_1, f8_0, f8_1, f8_2, f4_0, upc, upn, k0, k1, k2, k3, k4, k5, k6, reduceIte, Nat.reduceEqDiff, ne_eq, not_false_eq_true])⟩)
  refine Z_istore5 hk rfl (by decide) dX7_tally_12 ?_
  exact J14 (((kn + 1 - 1) : Int).toNat + 1) _ _ (by exact ⟨(by (exact ⟨(by (try simp only [f8_0, f8_1, f8_2, f4_0, and_true, true_and, or_true, true_or, implies_true, upn, reduceIte, Nat.reduceEqDiff, ne_eq, not_false_eq_true, upc, upc]) <;> omega), (by (try simp only [f8_0, f8_1, f8_2, f4_0, and_true, true_and, or_true, true_or, implies_true, upn, reduceIte, Nat.reduceEqDiff, ne_eq, not_false_eq_true, upc, upc]) <;> omega)⟩)), (by intro c k0 k1; simp only [f8_0, f8_1, f8_2, f4_0, upc, upn, k0, k1, reduceIte, Nat.reduceEqDiff, ne_eq, not_false_eq_true]), (by intro i k0 k1 k2 k3 k4 k5 k6; simp only [f8_0, f8_1, f8_2, f4_0, upc, upn, k0, k1, k2, k3, k4, k5, k6, reduceIte, Nat.reduceEqDiff, ne_eq, not_false_eq_true])⟩) (by omega)
set_option maxRecDepth 10000 in
theorem c_X7_measure (l : Launch) (δ : Dp) (ad : Nat → Nat) (M : Mem) (hA : okA δ ad) (t : Int) (kn : Int) (w : Int) (hz : NS δ) (q0 : 0 ≤ t ∧ t ≤ 3) (qk : 0 ≤ kn ∧ kn ≤ M 1 0) (q1 : 0 ≤ M 1 0 ∧ M 1 0 ≤ 250) (q2 : AD (M 1 0) (M 2) (M 3) (M 4) (M 5) (M 6)) (q3 : LK (M 41)) (i_w : -2147483648 ≤ w ∧ w ≤ 2147483647) : Mi l δ yX7_measure cX7_measure 6 (some (.int)) 5 132 ad rs [.ref (ad 10), .ref (ad 38), iv t, iv kn, iv w] M (fun r M' => (-2147483648 ≤ r ∧ r ≤ 2147483647) ∧ (∀ c : Nat, c ≠ 10 → c ≠ 11 → c ≠ 12 → c ≠ 9 → M' c = M c) ∧ (∀ i : Nat, i ≠ 4 → i ≠ 5 → i ≠ 6 → i ≠ 7 → i ≠ 8 → i ≠ 9 → i ≠ 10 → M' 10 i = M 10 i)) := by
  refine Mg.of (rm := rmN 5 132) (by decide) (Nat.le_of_ble_eq_true rfl) fun κ _ hk _ => ?_
  generalize hQ : Qg κ δ 121 (rmN 5 132).cells (rmN 5 132).slots _ = Q
  show Zj κ δ ad rs Q 6 (121, 0, 0) 0 [some (.ref (ad 10)), some (.ref (ad 38)), some (iv t), some (iv kn), some (iv w), none] [] M
  refine Z_aload0 hk dX7_measure_0 ?_
  refine Z_aload1 hk dX7_measure_1 ?_
  refine Z_iload2 hk dX7_measure_2 ?_
  refine Z_iload3 hk dX7_measure_3 ?_
  refine Z_iconst hk dX7_measure_4 ?_
  refine Z_Vv hk (c_X7_tally κ.2.1 δ ad _ hA t kn 1 hz (by (omega)) (by (omega)) (by (omega)) (by (exact q2)) (by (exact q3)) (by (omega))) ov_X7_tally ml_X7_127 dX7_measure_5 rfl ⟨by decide, by decide⟩ ob_10.1 (by decide) (by decide) rfl (Nat.le_of_ble_eq_true rfl) (fun m5 p5 => ?_)
  obtain ⟨p5, f5_0, f5_1⟩ := p5
  try simp only [f5_0, f5_1, and_true, true_and, or_true, true_or, implies_true, upn, reduceIte, Nat.reduceEqDiff, ne_eq, not_false_eq_true, upc] at p5
  refine Z_aload1 hk dX7_measure_8 ?_
  refine Z_getR hk fl_7_31 dX7_measure_9 ob_38.1 ob_38.2.1 ob_38.2.2.1 ob_38.2.2.2 ft_3_8 rs_38_8 ?_
  refine Z_iload2 hk dX7_measure_12 ?_
  refine Z_zald hk dX7_measure_13 ar_40.1 ar_40.2.1 ar_40.2.2 (by omega) (by omega) (fun v13 e13 a13 b13 => ?_)
  try simp only [f5_0, f5_1, and_true, true_and, or_true, true_or, implies_true, upn, reduceIte, Nat.reduceEqDiff, ne_eq, not_false_eq_true, upc] at e13
  refine Z_istore5 hk rfl (by decide) dX7_measure_14 ?_
  refine Z_iload4 hk dX7_measure_16 ?_
  rcases (show (w < 0 ∨ 9 < w) ∨ w = 0 ∨ w = 1 ∨ w = 2 ∨ w = 3 ∨ w = 4 ∨ w = 5 ∨ w = 6 ∨ w = 7 ∨ w = 8 ∨ w = 9 from by omega) with h18 | h18 | h18 | h18 | h18 | h18 | h18 | h18 | h18 | h18 | h18
  · refine Z_tableOut hk dX7_measure_18 (tgt := 161) (by decide) (by omega) (by omega) h18 ?_
    refine Z_iconst hk dX7_measure_161 ?_
    exact Z_iret hk hA hQ dX7_measure_162 ⟨rfl, rfl, _, rfl, (by exact ⟨(by (try simp only [f5_0, f5_1, and_true, true_and, or_true, true_or, implies_true, upn, reduceIte, Nat.reduceEqDiff, ne_eq, not_false_eq_true, upc]) <;> (omega)), (by intro c k0 k1 k2 k3; simp only [f5_0, f5_1, upc, upn, k0, k1, k2, k3, reduceIte, Nat.reduceEqDiff, ne_eq, not_false_eq_true]), (by intro i k0 k1 k2 k3 k4 k5 k6; simp only [f5_0, f5_1, upc, upn, k0, k1, k2, k3, k4, k5, k6, reduceIte, Nat.reduceEqDiff, ne_eq, not_false_eq_true])⟩)⟩
  · refine Z_tableIn hk dX7_measure_18 h18 (by decide) (by decide) (by decide) (by decide) (off := 54) rfl (tgt := 72) (by decide) ?_
    refine Z_aload0 hk dX7_measure_72 ?_
    refine Z_getI hk fl_7_90 dX7_measure_73 ob_10.1 ob_10.2.1 ob_10.2.2.1 ob_10.2.2.2 ft_7_4 (fun v73 e73 a73 b73 => ?_)
    try simp only [f5_0, f5_1, e13, and_true, true_and, or_true, true_or, implies_true, upn, reduceIte, Nat.reduceEqDiff, ne_eq, not_false_eq_true, upc] at e73
    exact Z_iret hk hA hQ dX7_measure_76 ⟨rfl, rfl, _, rfl, (by exact ⟨(by (try simp only [f5_0, f5_1, and_true, true_and, or_true, true_or, implies_true, upn, reduceIte, Nat.reduceEqDiff, ne_eq, not_false_eq_true, upc]) <;> (omega)), (by intro c k0 k1 k2 k3; simp only [f5_0, f5_1, upc, upn, k0, k1, k2, k3, reduceIte, Nat.reduceEqDiff, ne_eq, not_false_eq_true]), (by intro i k0 k1 k2 k3 k4 k5 k6; simp only [f5_0, f5_1, upc, upn, k0, k1, k2, k3, k4, k5, k6, reduceIte, Nat.reduceEqDiff, ne_eq, not_false_eq_true])⟩)⟩
  · refine Z_tableIn hk dX7_measure_18 h18 (by decide) (by decide) (by decide) (by decide) (off := 59) rfl (tgt := 77) (by decide) ?_
    refine Z_aload0 hk dX7_measure_77 ?_
    refine Z_getI hk fl_7_93 dX7_measure_78 ob_10.1 ob_10.2.1 ob_10.2.2.1 ob_10.2.2.2 ft_7_5 (fun v78 e78 a78 b78 => ?_)
    try simp only [f5_0, f5_1, e13, and_true, true_and, or_true, true_or, implies_true, upn, reduceIte, Nat.reduceEqDiff, ne_eq, not_false_eq_true, upc] at e78
    exact Z_iret hk hA hQ dX7_measure_81 ⟨rfl, rfl, _, rfl, (by exact ⟨(by (try simp only [f5_0, f5_1, and_true, true_and, or_true, true_or, implies_true, upn, reduceIte, Nat.reduceEqDiff, ne_eq, not_false_eq_true, upc]) <;> (omega)), (by intro c k0 k1 k2 k3; simp only [f5_0, f5_1, upc, upn, k0, k1, k2, k3, reduceIte, Nat.reduceEqDiff, ne_eq, not_false_eq_true]), (by intro i k0 k1 k2 k3 k4 k5 k6; simp only [f5_0, f5_1, upc, upn, k0, k1, k2, k3, k4, k5, k6, reduceIte, Nat.reduceEqDiff, ne_eq, not_false_eq_true])⟩)⟩
  · refine Z_tableIn hk dX7_measure_18 h18 (by decide) (by decide) (by decide) (by decide) (off := 64) rfl (tgt := 82) (by decide) ?_
    refine Z_aload0 hk dX7_measure_82 ?_
    refine Z_getI hk fl_7_96 dX7_measure_83 ob_10.1 ob_10.2.1 ob_10.2.2.1 ob_10.2.2.2 ft_7_6 (fun v83 e83 a83 b83 => ?_)
    try simp only [f5_0, f5_1, e13, and_true, true_and, or_true, true_or, implies_true, upn, reduceIte, Nat.reduceEqDiff, ne_eq, not_false_eq_true, upc] at e83
    exact Z_iret hk hA hQ dX7_measure_86 ⟨rfl, rfl, _, rfl, (by exact ⟨(by (try simp only [f5_0, f5_1, and_true, true_and, or_true, true_or, implies_true, upn, reduceIte, Nat.reduceEqDiff, ne_eq, not_false_eq_true, upc]) <;> (omega)), (by intro c k0 k1 k2 k3; simp only [f5_0, f5_1, upc, upn, k0, k1, k2, k3, reduceIte, Nat.reduceEqDiff, ne_eq, not_false_eq_true]), (by intro i k0 k1 k2 k3 k4 k5 k6; simp only [f5_0, f5_1, upc, upn, k0, k1, k2, k3, k4, k5, k6, reduceIte, Nat.reduceEqDiff, ne_eq, not_false_eq_true])⟩)⟩
  · refine Z_tableIn hk dX7_measure_18 h18 (by decide) (by decide) (by decide) (by decide) (off := 69) rfl (tgt := 87) (by decide) ?_
    refine Z_aload0 hk dX7_measure_87 ?_
    refine Z_getI hk fl_7_76 dX7_measure_88 ob_10.1 ob_10.2.1 ob_10.2.2.1 ob_10.2.2.2 ft_7_9 (fun v88 e88 a88 b88 => ?_)
    try simp only [f5_0, f5_1, e13, and_true, true_and, or_true, true_or, implies_true, upn, reduceIte, Nat.reduceEqDiff, ne_eq, not_false_eq_true, upc] at e88
    exact Z_iret hk hA hQ dX7_measure_91 ⟨rfl, rfl, _, rfl, (by exact ⟨(by (try simp only [f5_0, f5_1, and_true, true_and, or_true, true_or, implies_true, upn, reduceIte, Nat.reduceEqDiff, ne_eq, not_false_eq_true, upc]) <;> (omega)), (by intro c k0 k1 k2 k3; simp only [f5_0, f5_1, upc, upn, k0, k1, k2, k3, reduceIte, Nat.reduceEqDiff, ne_eq, not_false_eq_true]), (by intro i k0 k1 k2 k3 k4 k5 k6; simp only [f5_0, f5_1, upc, upn, k0, k1, k2, k3, k4, k5, k6, reduceIte, Nat.reduceEqDiff, ne_eq, not_false_eq_true])⟩)⟩
  · refine Z_tableIn hk dX7_measure_18 h18 (by decide) (by decide) (by decide) (by decide) (off := 74) rfl (tgt := 92) (by decide) ?_
    refine Z_aload0 hk dX7_measure_92 ?_
    refine Z_getI hk fl_7_102 dX7_measure_93 ob_10.1 ob_10.2.1 ob_10.2.2.1 ob_10.2.2.2 ft_7_10 (fun v93 e93 a93 b93 => ?_)
    try simp only [f5_0, f5_1, e13, and_true, true_and, or_true, true_or, implies_true, upn, reduceIte, Nat.reduceEqDiff, ne_eq, not_false_eq_true, upc] at e93
    exact Z_iret hk hA hQ dX7_measure_96 ⟨rfl, rfl, _, rfl, (by exact ⟨(by (try simp only [f5_0, f5_1, and_true, true_and, or_true, true_or, implies_true, upn, reduceIte, Nat.reduceEqDiff, ne_eq, not_false_eq_true, upc]) <;> (omega)), (by intro c k0 k1 k2 k3; simp only [f5_0, f5_1, upc, upn, k0, k1, k2, k3, reduceIte, Nat.reduceEqDiff, ne_eq, not_false_eq_true]), (by intro i k0 k1 k2 k3 k4 k5 k6; simp only [f5_0, f5_1, upc, upn, k0, k1, k2, k3, k4, k5, k6, reduceIte, Nat.reduceEqDiff, ne_eq, not_false_eq_true])⟩)⟩
  · refine Z_tableIn hk dX7_measure_18 h18 (by decide) (by decide) (by decide) (by decide) (off := 79) rfl (tgt := 97) (by decide) ?_
    refine Z_aload0 hk dX7_measure_97 ?_
    refine Z_getI hk fl_7_68 dX7_measure_98 ob_10.1 ob_10.2.1 ob_10.2.2.1 ob_10.2.2.2 ft_7_8 (fun v98 e98 a98 b98 => ?_)
    try simp only [f5_0, f5_1, e13, and_true, true_and, or_true, true_or, implies_true, upn, reduceIte, Nat.reduceEqDiff, ne_eq, not_false_eq_true, upc] at e98
    exact Z_iret hk hA hQ dX7_measure_101 ⟨rfl, rfl, _, rfl, (by exact ⟨(by (try simp only [f5_0, f5_1, and_true, true_and, or_true, true_or, implies_true, upn, reduceIte, Nat.reduceEqDiff, ne_eq, not_false_eq_true, upc]) <;> (omega)), (by intro c k0 k1 k2 k3; simp only [f5_0, f5_1, upc, upn, k0, k1, k2, k3, reduceIte, Nat.reduceEqDiff, ne_eq, not_false_eq_true]), (by intro i k0 k1 k2 k3 k4 k5 k6; simp only [f5_0, f5_1, upc, upn, k0, k1, k2, k3, k4, k5, k6, reduceIte, Nat.reduceEqDiff, ne_eq, not_false_eq_true])⟩)⟩
  · refine Z_tableIn hk dX7_measure_18 h18 (by decide) (by decide) (by decide) (by decide) (off := 84) rfl (tgt := 102) (by decide) ?_
    refine Z_aload0 hk dX7_measure_102 ?_
    refine Z_getI hk fl_7_99 dX7_measure_103 ob_10.1 ob_10.2.1 ob_10.2.2.1 ob_10.2.2.2 ft_7_7 (fun v103 e103 a103 b103 => ?_)
    try simp only [f5_0, f5_1, e13, and_true, true_and, or_true, true_or, implies_true, upn, reduceIte, Nat.reduceEqDiff, ne_eq, not_false_eq_true, upc] at e103
    exact Z_iret hk hA hQ dX7_measure_106 ⟨rfl, rfl, _, rfl, (by exact ⟨(by (try simp only [f5_0, f5_1, and_true, true_and, or_true, true_or, implies_true, upn, reduceIte, Nat.reduceEqDiff, ne_eq, not_false_eq_true, upc]) <;> (omega)), (by intro c k0 k1 k2 k3; simp only [f5_0, f5_1, upc, upn, k0, k1, k2, k3, reduceIte, Nat.reduceEqDiff, ne_eq, not_false_eq_true]), (by intro i k0 k1 k2 k3 k4 k5 k6; simp only [f5_0, f5_1, upc, upn, k0, k1, k2, k3, k4, k5, k6, reduceIte, Nat.reduceEqDiff, ne_eq, not_false_eq_true])⟩)⟩
  · refine Z_tableIn hk dX7_measure_18 h18 (by decide) (by decide) (by decide) (by decide) (off := 89) rfl (tgt := 107) (by decide) ?_
    refine Z_aload0 hk dX7_measure_107 ?_
    refine Z_getR hk fl_7_23 dX7_measure_108 ob_10.1 ob_10.2.1 ob_10.2.2.1 ob_10.2.2.2 ft_7_1 rs_10_1 ?_
    refine Z_iload5 hk dX7_measure_111 ?_
    refine Z_aload0 hk dX7_measure_113 ?_
    refine Z_getI hk fl_7_102 dX7_measure_114 ob_10.1 ob_10.2.1 ob_10.2.2.1 ob_10.2.2.2 ft_7_10 (fun v114 e114 a114 b114 => ?_)
    try simp only [f5_0, f5_1, e13, and_true, true_and, or_true, true_or, implies_true, upn, reduceIte, Nat.reduceEqDiff, ne_eq, not_false_eq_true, upc] at e114
    refine Z_aload0 hk dX7_measure_117 ?_
    refine Z_getI hk fl_7_76 dX7_measure_118 ob_10.1 ob_10.2.1 ob_10.2.2.1 ob_10.2.2.2 ft_7_9 (fun v118 e118 a118 b118 => ?_)
    try simp only [f5_0, f5_1, e13, e114, and_true, true_and, or_true, true_or, implies_true, upn, reduceIte, Nat.reduceEqDiff, ne_eq, not_false_eq_true, upc] at e118
    refine Z_Vi hk (c_X0_leastShare κ.2.1 δ ad _ hA v13 v114 v118 (by (try simp only [f5_0, f5_1, and_true, true_and, or_true, true_or, implies_true, upn, reduceIte, Nat.reduceEqDiff, ne_eq, not_false_eq_true, upc]) <;> (omega)) (by (try simp only [f5_0, f5_1, and_true, true_and, or_true, true_or, implies_true, upn, reduceIte, Nat.reduceEqDiff, ne_eq, not_false_eq_true, upc]) <;> (omega))) ov_X0_leastShare ml_X7_131 dX7_measure_121 rfl ⟨by decide, by decide⟩ ob_8.1 (by decide) (by decide) rfl (Nat.le_of_ble_eq_true rfl) (fun r121 m121 p121 => ?_)
    obtain ⟨p121, f121_0⟩ := p121
    try simp only [f121_0, f5_0, f5_1, e13, e114, e118, and_true, true_and, or_true, true_or, implies_true, upn, reduceIte, Nat.reduceEqDiff, ne_eq, not_false_eq_true, upc] at p121
    exact Z_iret hk hA hQ dX7_measure_124 ⟨rfl, rfl, _, rfl, (by exact ⟨(by (try simp only [f121_0, f5_0, f5_1, and_true, true_and, or_true, true_or, implies_true, upn, reduceIte, Nat.reduceEqDiff, ne_eq, not_false_eq_true, upc]) <;> (omega)), (by intro c k0 k1 k2 k3; simp only [f121_0, f5_0, f5_1, upc, upn, k0, k1, k2, k3, reduceIte, Nat.reduceEqDiff, ne_eq, not_false_eq_true]), (by intro i k0 k1 k2 k3 k4 k5 k6; simp only [f121_0, f5_0, f5_1, upc, upn, k0, k1, k2, k3, k4, k5, k6, reduceIte, Nat.reduceEqDiff, ne_eq, not_false_eq_true])⟩)⟩
  · refine Z_tableIn hk dX7_measure_18 h18 (by decide) (by decide) (by decide) (by decide) (off := 107) rfl (tgt := 125) (by decide) ?_
    refine Z_aload0 hk dX7_measure_125 ?_
    refine Z_getR hk fl_7_23 dX7_measure_126 ob_10.1 ob_10.2.1 ob_10.2.2.1 ob_10.2.2.2 ft_7_1 rs_10_1 ?_
    refine Z_iload5 hk dX7_measure_129 ?_
    refine Z_aload0 hk dX7_measure_131 ?_
    refine Z_getI hk fl_7_102 dX7_measure_132 ob_10.1 ob_10.2.1 ob_10.2.2.1 ob_10.2.2.2 ft_7_10 (fun v132 e132 a132 b132 => ?_)
    try simp only [f5_0, f5_1, e13, and_true, true_and, or_true, true_or, implies_true, upn, reduceIte, Nat.reduceEqDiff, ne_eq, not_false_eq_true, upc] at e132
    refine Z_aload0 hk dX7_measure_135 ?_
    refine Z_getI hk fl_7_76 dX7_measure_136 ob_10.1 ob_10.2.1 ob_10.2.2.1 ob_10.2.2.2 ft_7_9 (fun v136 e136 a136 b136 => ?_)
    try simp only [f5_0, f5_1, e13, e132, and_true, true_and, or_true, true_or, implies_true, upn, reduceIte, Nat.reduceEqDiff, ne_eq, not_false_eq_true, upc] at e136
    refine Z_Vi hk (c_X0_mostShare κ.2.1 δ ad _ hA v13 v132 v136 (by (try simp only [f5_0, f5_1, and_true, true_and, or_true, true_or, implies_true, upn, reduceIte, Nat.reduceEqDiff, ne_eq, not_false_eq_true, upc]) <;> (omega)) (by (try simp only [f5_0, f5_1, and_true, true_and, or_true, true_or, implies_true, upn, reduceIte, Nat.reduceEqDiff, ne_eq, not_false_eq_true, upc]) <;> (omega))) ov_X0_mostShare ml_X7_135 dX7_measure_139 rfl ⟨by decide, by decide⟩ ob_8.1 (by decide) (by decide) rfl (Nat.le_of_ble_eq_true rfl) (fun r139 m139 p139 => ?_)
    obtain ⟨p139, f139_0⟩ := p139
    try simp only [f139_0, f5_0, f5_1, e13, e132, e136, and_true, true_and, or_true, true_or, implies_true, upn, reduceIte, Nat.reduceEqDiff, ne_eq, not_false_eq_true, upc] at p139
    exact Z_iret hk hA hQ dX7_measure_142 ⟨rfl, rfl, _, rfl, (by exact ⟨(by (try simp only [f139_0, f5_0, f5_1, and_true, true_and, or_true, true_or, implies_true, upn, reduceIte, Nat.reduceEqDiff, ne_eq, not_false_eq_true, upc]) <;> (omega)), (by intro c k0 k1 k2 k3; simp only [f139_0, f5_0, f5_1, upc, upn, k0, k1, k2, k3, reduceIte, Nat.reduceEqDiff, ne_eq, not_false_eq_true]), (by intro i k0 k1 k2 k3 k4 k5 k6; simp only [f139_0, f5_0, f5_1, upc, upn, k0, k1, k2, k3, k4, k5, k6, reduceIte, Nat.reduceEqDiff, ne_eq, not_false_eq_true])⟩)⟩
  · refine Z_tableIn hk dX7_measure_18 h18 (by decide) (by decide) (by decide) (by decide) (off := 125) rfl (tgt := 143) (by decide) ?_
    refine Z_aload0 hk dX7_measure_143 ?_
    refine Z_getR hk fl_7_23 dX7_measure_144 ob_10.1 ob_10.2.1 ob_10.2.2.1 ob_10.2.2.2 ft_7_1 rs_10_1 ?_
    refine Z_iload5 hk dX7_measure_147 ?_
    refine Z_aload0 hk dX7_measure_149 ?_
    refine Z_getI hk fl_7_102 dX7_measure_150 ob_10.1 ob_10.2.1 ob_10.2.2.1 ob_10.2.2.2 ft_7_10 (fun v150 e150 a150 b150 => ?_)
    try simp only [f5_0, f5_1, e13, and_true, true_and, or_true, true_or, implies_true, upn, reduceIte, Nat.reduceEqDiff, ne_eq, not_false_eq_true, upc] at e150
    refine Z_aload0 hk dX7_measure_153 ?_
    refine Z_getI hk fl_7_76 dX7_measure_154 ob_10.1 ob_10.2.1 ob_10.2.2.1 ob_10.2.2.2 ft_7_9 (fun v154 e154 a154 b154 => ?_)
    try simp only [f5_0, f5_1, e13, e150, and_true, true_and, or_true, true_or, implies_true, upn, reduceIte, Nat.reduceEqDiff, ne_eq, not_false_eq_true, upc] at e154
    refine Z_Vi hk (c_X0_inMillion κ.2.1 δ ad _ hA v13 v150 v154 (by (try simp only [f5_0, f5_1, and_true, true_and, or_true, true_or, implies_true, upn, reduceIte, Nat.reduceEqDiff, ne_eq, not_false_eq_true, upc]) <;> (omega)) (by (try simp only [f5_0, f5_1, and_true, true_and, or_true, true_or, implies_true, upn, reduceIte, Nat.reduceEqDiff, ne_eq, not_false_eq_true, upc]) <;> (omega))) ov_X0_inMillion ml_X7_138 dX7_measure_157 rfl ⟨by decide, by decide⟩ ob_8.1 (by decide) (by decide) rfl (Nat.le_of_ble_eq_true rfl) (fun r157 m157 p157 => ?_)
    obtain ⟨rfl, p157⟩ := p157
    try simp only [f5_0, f5_1, e13, e150, e154, and_true, true_and, or_true, true_or, implies_true, upn, reduceIte, Nat.reduceEqDiff, ne_eq, not_false_eq_true, upc] at p157
    exact Z_iret hk hA hQ dX7_measure_160 ⟨rfl, rfl, _, rfl, (by exact ⟨(by (try simp only [f5_0, f5_1, and_true, true_and, or_true, true_or, implies_true, upn, reduceIte, Nat.reduceEqDiff, ne_eq, not_false_eq_true, upc]) <;> (omega)), (by intro c k0 k1 k2 k3; simp only [f5_0, f5_1, upc, upn, k0, k1, k2, k3, reduceIte, Nat.reduceEqDiff, ne_eq, not_false_eq_true]), (by intro i k0 k1 k2 k3 k4 k5 k6; simp only [f5_0, f5_1, upc, upn, k0, k1, k2, k3, k4, k5, k6, reduceIte, Nat.reduceEqDiff, ne_eq, not_false_eq_true])⟩)⟩
set_option maxRecDepth 10000 in
theorem c_X1_part (l : Launch) (δ : Dp) (ad : Nat → Nat) (M : Mem) (hA : okA δ ad) (kn : Int) (k : Int) (o : Int) (hz : NS δ) (q0 : 0 ≤ kn ∧ kn ≤ M 1 0) (q1 : 0 ≤ M 1 0 ∧ M 1 0 ≤ 250) (q2 : AD (M 1 0) (M 2) (M 3) (M 4) (M 5) (M 6)) (q3 : 0 ≤ M 38 0 ∧ M 38 0 ≤ 6 ∧ 0 ≤ M 38 1 ∧ M 38 1 ≤ 4 ∧ 0 ≤ M 38 2 ∧ M 38 2 ≤ 8 ∧ -1 ≤ M 38 5 ∧ M 38 5 ≤ 5 ∧ 0 ≤ M 38 6 ∧ M 38 6 ≤ 700) (q4 : LK (M 41)) (q5 : (k = 27 → 0 ≤ o ∧ o ≤ 5) ∧ (k = 28 → 0 ≤ o ∧ o ≤ 9) ∧ (21 ≤ k → k ≤ 26 → 0 ≤ o ∧ o ≤ 3) ∧ (k = 31 → 0 ≤ o ∧ o ≤ 3)) (q6 : k = 32 ∨ k = 31 ∨ (21 ≤ k ∧ k ≤ 28)) (i_k : -2147483648 ≤ k ∧ k ≤ 2147483647) (i_o : -2147483648 ≤ o ∧ o ≤ 2147483647) : Mi l δ yX1_part cX1_part 5 (some (.int)) 6 157 ad rs [.ref (ad 18), .ref (ad 38), iv kn, iv k, iv o] M (fun r M' => (-2147483648 ≤ r ∧ r ≤ 2147483647) ∧ (∀ c : Nat, c ≠ 10 → c ≠ 11 → c ≠ 12 → c ≠ 9 → M' c = M c) ∧ (∀ i : Nat, i ≠ 4 → i ≠ 5 → i ≠ 6 → i ≠ 7 → i ≠ 8 → i ≠ 9 → i ≠ 10 → M' 10 i = M 10 i)) := by
  refine Mg.of (rm := rmN 6 157) (by decide) (Nat.le_of_ble_eq_true rfl) fun κ _ hk _ => ?_
  generalize hQ : Qg κ δ 121 (rmN 6 157).cells (rmN 6 157).slots _ = Q
  show Zj κ δ ad rs Q 5 (121, 0, 0) 0 [some (.ref (ad 18)), some (.ref (ad 38)), some (iv kn), some (iv k), some (iv o)] [] M
  refine Z_iload3 hk dX1_part_0 ?_
  rcases (show (k < 21 ∨ 32 < k) ∨ k = 21 ∨ k = 22 ∨ k = 23 ∨ k = 24 ∨ k = 25 ∨ k = 26 ∨ k = 27 ∨ k = 28 ∨ k = 29 ∨ k = 30 ∨ k = 31 ∨ k = 32 from by omega) with h1 | h1 | h1 | h1 | h1 | h1 | h1 | h1 | h1 | h1 | h1 | h1 | h1
  · refine Z_tableOut hk dX1_part_1 (tgt := 176) (by decide) (by omega) (by omega) h1 ?_
    refine Z_aload0 hk dX1_part_176 ?_
    refine Z_getR hk fl_1_15 dX1_part_177 ob_18.1 ob_18.2.1 ob_18.2.2.1 ob_18.2.2.2 ft_1_0 rs_18_0 ?_
    refine Z_aload1 hk dX1_part_180 ?_
    refine Z_iload4 hk dX1_part_181 ?_
    refine Z_iload2 hk dX1_part_183 ?_
    refine Z_bipush hk dX1_part_184 (by decide) ?_
    refine Z_Vi hk (c_X7_measure κ.2.1 δ ad _ hA o kn 8 hz (by (omega)) (by (omega)) (by (omega)) (by (exact q2)) (by (exact q4)) (by (omega))) ov_X7_measure ml_X1_68 dX1_part_186 rfl ⟨by decide, by decide⟩ ob_10.1 (by decide) (by decide) rfl (Nat.le_of_ble_eq_true rfl) (fun r186 m186 p186 => ?_)
    obtain ⟨p186, f186_0, f186_1⟩ := p186
    try simp only [f186_0, f186_1, and_true, true_and, or_true, true_or, implies_true, upn, reduceIte, Nat.reduceEqDiff, ne_eq, not_false_eq_true, upc] at p186
    exact Z_iret hk hA hQ dX1_part_189 ⟨rfl, rfl, _, rfl, (by exact ⟨(by (try simp only [f186_0, f186_1, and_true, true_and, or_true, true_or, implies_true, upn, reduceIte, Nat.reduceEqDiff, ne_eq, not_false_eq_true, upc]) <;> (omega)), (by intro c k0 k1 k2 k3; simp only [f186_0, f186_1, upc, upn, k0, k1, k2, k3, reduceIte, Nat.reduceEqDiff, ne_eq, not_false_eq_true]), (by intro i k0 k1 k2 k3 k4 k5 k6; simp only [f186_0, f186_1, upc, upn, k0, k1, k2, k3, k4, k5, k6, reduceIte, Nat.reduceEqDiff, ne_eq, not_false_eq_true])⟩)⟩
  · refine Z_tableIn hk dX1_part_1 h1 (by decide) (by decide) (by decide) (by decide) (off := 108) rfl (tgt := 109) (by decide) ?_
    refine Z_aload0 hk dX1_part_109 ?_
    refine Z_getR hk fl_1_15 dX1_part_110 ob_18.1 ob_18.2.1 ob_18.2.2.1 ob_18.2.2.2 ft_1_0 rs_18_0 ?_
    refine Z_aload1 hk dX1_part_113 ?_
    refine Z_iload4 hk dX1_part_114 ?_
    refine Z_iload2 hk dX1_part_116 ?_
    refine Z_iconst hk dX1_part_117 ?_
    refine Z_Vi hk (c_X7_measure κ.2.1 δ ad _ hA o kn 0 hz (by (omega)) (by (omega)) (by (omega)) (by (exact q2)) (by (exact q4)) (by (omega))) ov_X7_measure ml_X1_68 dX1_part_118 rfl ⟨by decide, by decide⟩ ob_10.1 (by decide) (by decide) rfl (Nat.le_of_ble_eq_true rfl) (fun r118 m118 p118 => ?_)
    obtain ⟨p118, f118_0, f118_1⟩ := p118
    try simp only [f118_0, f118_1, and_true, true_and, or_true, true_or, implies_true, upn, reduceIte, Nat.reduceEqDiff, ne_eq, not_false_eq_true, upc] at p118
    exact Z_iret hk hA hQ dX1_part_121 ⟨rfl, rfl, _, rfl, (by exact ⟨(by (try simp only [f118_0, f118_1, and_true, true_and, or_true, true_or, implies_true, upn, reduceIte, Nat.reduceEqDiff, ne_eq, not_false_eq_true, upc]) <;> (omega)), (by intro c k0 k1 k2 k3; simp only [f118_0, f118_1, upc, upn, k0, k1, k2, k3, reduceIte, Nat.reduceEqDiff, ne_eq, not_false_eq_true]), (by intro i k0 k1 k2 k3 k4 k5 k6; simp only [f118_0, f118_1, upc, upn, k0, k1, k2, k3, k4, k5, k6, reduceIte, Nat.reduceEqDiff, ne_eq, not_false_eq_true])⟩)⟩
  · refine Z_tableIn hk dX1_part_1 h1 (by decide) (by decide) (by decide) (by decide) (off := 121) rfl (tgt := 122) (by decide) ?_
    refine Z_aload0 hk dX1_part_122 ?_
    refine Z_getR hk fl_1_15 dX1_part_123 ob_18.1 ob_18.2.1 ob_18.2.2.1 ob_18.2.2.2 ft_1_0 rs_18_0 ?_
    refine Z_aload1 hk dX1_part_126 ?_
    refine Z_iload4 hk dX1_part_127 ?_
    refine Z_iload2 hk dX1_part_129 ?_
    refine Z_iconst hk dX1_part_130 ?_
    refine Z_Vi hk (c_X7_measure κ.2.1 δ ad _ hA o kn 1 hz (by (omega)) (by (omega)) (by (omega)) (by (exact q2)) (by (exact q4)) (by (omega))) ov_X7_measure ml_X1_68 dX1_part_131 rfl ⟨by decide, by decide⟩ ob_10.1 (by decide) (by decide) rfl (Nat.le_of_ble_eq_true rfl) (fun r131 m131 p131 => ?_)
    obtain ⟨p131, f131_0, f131_1⟩ := p131
    try simp only [f131_0, f131_1, and_true, true_and, or_true, true_or, implies_true, upn, reduceIte, Nat.reduceEqDiff, ne_eq, not_false_eq_true, upc] at p131
    exact Z_iret hk hA hQ dX1_part_134 ⟨rfl, rfl, _, rfl, (by exact ⟨(by (try simp only [f131_0, f131_1, and_true, true_and, or_true, true_or, implies_true, upn, reduceIte, Nat.reduceEqDiff, ne_eq, not_false_eq_true, upc]) <;> (omega)), (by intro c k0 k1 k2 k3; simp only [f131_0, f131_1, upc, upn, k0, k1, k2, k3, reduceIte, Nat.reduceEqDiff, ne_eq, not_false_eq_true]), (by intro i k0 k1 k2 k3 k4 k5 k6; simp only [f131_0, f131_1, upc, upn, k0, k1, k2, k3, k4, k5, k6, reduceIte, Nat.reduceEqDiff, ne_eq, not_false_eq_true])⟩)⟩
  · refine Z_tableIn hk dX1_part_1 h1 (by decide) (by decide) (by decide) (by decide) (off := 134) rfl (tgt := 135) (by decide) ?_
    refine Z_aload0 hk dX1_part_135 ?_
    refine Z_getR hk fl_1_15 dX1_part_136 ob_18.1 ob_18.2.1 ob_18.2.2.1 ob_18.2.2.2 ft_1_0 rs_18_0 ?_
    refine Z_aload1 hk dX1_part_139 ?_
    refine Z_iload4 hk dX1_part_140 ?_
    refine Z_iload2 hk dX1_part_142 ?_
    refine Z_iconst hk dX1_part_143 ?_
    refine Z_Vi hk (c_X7_measure κ.2.1 δ ad _ hA o kn 2 hz (by (omega)) (by (omega)) (by (omega)) (by (exact q2)) (by (exact q4)) (by (omega))) ov_X7_measure ml_X1_68 dX1_part_144 rfl ⟨by decide, by decide⟩ ob_10.1 (by decide) (by decide) rfl (Nat.le_of_ble_eq_true rfl) (fun r144 m144 p144 => ?_)
    obtain ⟨p144, f144_0, f144_1⟩ := p144
    try simp only [f144_0, f144_1, and_true, true_and, or_true, true_or, implies_true, upn, reduceIte, Nat.reduceEqDiff, ne_eq, not_false_eq_true, upc] at p144
    exact Z_iret hk hA hQ dX1_part_147 ⟨rfl, rfl, _, rfl, (by exact ⟨(by (try simp only [f144_0, f144_1, and_true, true_and, or_true, true_or, implies_true, upn, reduceIte, Nat.reduceEqDiff, ne_eq, not_false_eq_true, upc]) <;> (omega)), (by intro c k0 k1 k2 k3; simp only [f144_0, f144_1, upc, upn, k0, k1, k2, k3, reduceIte, Nat.reduceEqDiff, ne_eq, not_false_eq_true]), (by intro i k0 k1 k2 k3 k4 k5 k6; simp only [f144_0, f144_1, upc, upn, k0, k1, k2, k3, k4, k5, k6, reduceIte, Nat.reduceEqDiff, ne_eq, not_false_eq_true])⟩)⟩
  · refine Z_tableIn hk dX1_part_1 h1 (by decide) (by decide) (by decide) (by decide) (off := 147) rfl (tgt := 148) (by decide) ?_
    refine Z_aload0 hk dX1_part_148 ?_
    refine Z_getR hk fl_1_15 dX1_part_149 ob_18.1 ob_18.2.1 ob_18.2.2.1 ob_18.2.2.2 ft_1_0 rs_18_0 ?_
    refine Z_aload1 hk dX1_part_152 ?_
    refine Z_iload4 hk dX1_part_153 ?_
    refine Z_iload2 hk dX1_part_155 ?_
    refine Z_bipush hk dX1_part_156 (by decide) ?_
    refine Z_Vi hk (c_X7_measure κ.2.1 δ ad _ hA o kn 9 hz (by (omega)) (by (omega)) (by (omega)) (by (exact q2)) (by (exact q4)) (by (omega))) ov_X7_measure ml_X1_68 dX1_part_158 rfl ⟨by decide, by decide⟩ ob_10.1 (by decide) (by decide) rfl (Nat.le_of_ble_eq_true rfl) (fun r158 m158 p158 => ?_)
    obtain ⟨p158, f158_0, f158_1⟩ := p158
    try simp only [f158_0, f158_1, and_true, true_and, or_true, true_or, implies_true, upn, reduceIte, Nat.reduceEqDiff, ne_eq, not_false_eq_true, upc] at p158
    exact Z_iret hk hA hQ dX1_part_161 ⟨rfl, rfl, _, rfl, (by exact ⟨(by (try simp only [f158_0, f158_1, and_true, true_and, or_true, true_or, implies_true, upn, reduceIte, Nat.reduceEqDiff, ne_eq, not_false_eq_true, upc]) <;> (omega)), (by intro c k0 k1 k2 k3; simp only [f158_0, f158_1, upc, upn, k0, k1, k2, k3, reduceIte, Nat.reduceEqDiff, ne_eq, not_false_eq_true]), (by intro i k0 k1 k2 k3 k4 k5 k6; simp only [f158_0, f158_1, upc, upn, k0, k1, k2, k3, k4, k5, k6, reduceIte, Nat.reduceEqDiff, ne_eq, not_false_eq_true])⟩)⟩
  · refine Z_tableIn hk dX1_part_1 h1 (by decide) (by decide) (by decide) (by decide) (off := 161) rfl (tgt := 162) (by decide) ?_
    refine Z_aload0 hk dX1_part_162 ?_
    refine Z_getR hk fl_1_15 dX1_part_163 ob_18.1 ob_18.2.1 ob_18.2.2.1 ob_18.2.2.2 ft_1_0 rs_18_0 ?_
    refine Z_aload1 hk dX1_part_166 ?_
    refine Z_iload4 hk dX1_part_167 ?_
    refine Z_iload2 hk dX1_part_169 ?_
    refine Z_bipush hk dX1_part_170 (by decide) ?_
    refine Z_Vi hk (c_X7_measure κ.2.1 δ ad _ hA o kn 7 hz (by (omega)) (by (omega)) (by (omega)) (by (exact q2)) (by (exact q4)) (by (omega))) ov_X7_measure ml_X1_68 dX1_part_172 rfl ⟨by decide, by decide⟩ ob_10.1 (by decide) (by decide) rfl (Nat.le_of_ble_eq_true rfl) (fun r172 m172 p172 => ?_)
    obtain ⟨p172, f172_0, f172_1⟩ := p172
    try simp only [f172_0, f172_1, and_true, true_and, or_true, true_or, implies_true, upn, reduceIte, Nat.reduceEqDiff, ne_eq, not_false_eq_true, upc] at p172
    exact Z_iret hk hA hQ dX1_part_175 ⟨rfl, rfl, _, rfl, (by exact ⟨(by (try simp only [f172_0, f172_1, and_true, true_and, or_true, true_or, implies_true, upn, reduceIte, Nat.reduceEqDiff, ne_eq, not_false_eq_true, upc]) <;> (omega)), (by intro c k0 k1 k2 k3; simp only [f172_0, f172_1, upc, upn, k0, k1, k2, k3, reduceIte, Nat.reduceEqDiff, ne_eq, not_false_eq_true]), (by intro i k0 k1 k2 k3 k4 k5 k6; simp only [f172_0, f172_1, upc, upn, k0, k1, k2, k3, k4, k5, k6, reduceIte, Nat.reduceEqDiff, ne_eq, not_false_eq_true])⟩)⟩
  · refine Z_tableIn hk dX1_part_1 h1 (by decide) (by decide) (by decide) (by decide) (off := 175) rfl (tgt := 176) (by decide) ?_
    refine Z_aload0 hk dX1_part_176 ?_
    refine Z_getR hk fl_1_15 dX1_part_177 ob_18.1 ob_18.2.1 ob_18.2.2.1 ob_18.2.2.2 ft_1_0 rs_18_0 ?_
    refine Z_aload1 hk dX1_part_180 ?_
    refine Z_iload4 hk dX1_part_181 ?_
    refine Z_iload2 hk dX1_part_183 ?_
    refine Z_bipush hk dX1_part_184 (by decide) ?_
    refine Z_Vi hk (c_X7_measure κ.2.1 δ ad _ hA o kn 8 hz (by (omega)) (by (omega)) (by (omega)) (by (exact q2)) (by (exact q4)) (by (omega))) ov_X7_measure ml_X1_68 dX1_part_186 rfl ⟨by decide, by decide⟩ ob_10.1 (by decide) (by decide) rfl (Nat.le_of_ble_eq_true rfl) (fun r186 m186 p186 => ?_)
    obtain ⟨p186, f186_0, f186_1⟩ := p186
    try simp only [f186_0, f186_1, and_true, true_and, or_true, true_or, implies_true, upn, reduceIte, Nat.reduceEqDiff, ne_eq, not_false_eq_true, upc] at p186
    exact Z_iret hk hA hQ dX1_part_189 ⟨rfl, rfl, _, rfl, (by exact ⟨(by (try simp only [f186_0, f186_1, and_true, true_and, or_true, true_or, implies_true, upn, reduceIte, Nat.reduceEqDiff, ne_eq, not_false_eq_true, upc]) <;> (omega)), (by intro c k0 k1 k2 k3; simp only [f186_0, f186_1, upc, upn, k0, k1, k2, k3, reduceIte, Nat.reduceEqDiff, ne_eq, not_false_eq_true]), (by intro i k0 k1 k2 k3 k4 k5 k6; simp only [f186_0, f186_1, upc, upn, k0, k1, k2, k3, k4, k5, k6, reduceIte, Nat.reduceEqDiff, ne_eq, not_false_eq_true])⟩)⟩
  · refine Z_tableIn hk dX1_part_1 h1 (by decide) (by decide) (by decide) (by decide) (off := 66) rfl (tgt := 67) (by decide) ?_
    refine Z_aload0 hk dX1_part_67 ?_
    refine Z_getR hk fl_1_19 dX1_part_68 ob_18.1 ob_18.2.1 ob_18.2.2.1 ob_18.2.2.2 ft_1_1 rs_18_1 ?_
    refine Z_iload4 hk dX1_part_71 ?_
    refine Z_Vi hk (c_X5_meanOf κ.2.1 δ ad _ hA o (by (omega))) ov_X5_meanOf ml_X1_61 dX1_part_73 rfl ⟨by decide, by decide⟩ ob_13.1 (by decide) (by decide) rfl (Nat.le_of_ble_eq_true rfl) (fun r73 m73 p73 => ?_)
    obtain ⟨rfl, p73⟩ := p73
    exact Z_iret hk hA hQ dX1_part_76 ⟨rfl, rfl, _, rfl, (by exact ⟨(by (omega)), (by intro c k0 k1 k2 k3; rfl), (by intro i k0 k1 k2 k3 k4 k5 k6; rfl)⟩)⟩
  · refine Z_tableIn hk dX1_part_1 h1 (by decide) (by decide) (by decide) (by decide) (off := 76) rfl (tgt := 77) (by decide) ?_
    refine Z_aload0 hk dX1_part_77 ?_
    refine Z_getR hk fl_1_19 dX1_part_78 ob_18.1 ob_18.2.1 ob_18.2.2.1 ob_18.2.2.2 ft_1_1 rs_18_1 ?_
    refine Z_getR hk fl_1_65 dX1_part_81 ob_13.1 ob_13.2.1 ob_13.2.2.1 ob_13.2.2.2 ft_5_5 rs_13_5 ?_
    refine Z_iload4 hk dX1_part_84 ?_
    refine Z_iald hk dX1_part_86 ar_17.1 ar_17.2.1 ar_17.2.2 (by omega) (by omega) (fun v86 e86 a86 b86 => ?_)
    exact Z_iret hk hA hQ dX1_part_87 ⟨rfl, rfl, _, rfl, (by exact ⟨(by (omega)), (by intro c k0 k1 k2 k3; rfl), (by intro i k0 k1 k2 k3 k4 k5 k6; rfl)⟩)⟩
  · refine Z_tableIn hk dX1_part_1 h1 (by decide) (by decide) (by decide) (by decide) (off := 175) rfl (tgt := 176) (by decide) ?_
    refine Z_aload0 hk dX1_part_176 ?_
    refine Z_getR hk fl_1_15 dX1_part_177 ob_18.1 ob_18.2.1 ob_18.2.2.1 ob_18.2.2.2 ft_1_0 rs_18_0 ?_
    refine Z_aload1 hk dX1_part_180 ?_
    refine Z_iload4 hk dX1_part_181 ?_
    refine Z_iload2 hk dX1_part_183 ?_
    refine Z_bipush hk dX1_part_184 (by decide) ?_
    refine Z_Vi hk (c_X7_measure κ.2.1 δ ad _ hA o kn 8 hz (by (omega)) (by (omega)) (by (omega)) (by (exact q2)) (by (exact q4)) (by (omega))) ov_X7_measure ml_X1_68 dX1_part_186 rfl ⟨by decide, by decide⟩ ob_10.1 (by decide) (by decide) rfl (Nat.le_of_ble_eq_true rfl) (fun r186 m186 p186 => ?_)
    obtain ⟨p186, f186_0, f186_1⟩ := p186
    try simp only [f186_0, f186_1, and_true, true_and, or_true, true_or, implies_true, upn, reduceIte, Nat.reduceEqDiff, ne_eq, not_false_eq_true, upc] at p186
    exact Z_iret hk hA hQ dX1_part_189 ⟨rfl, rfl, _, rfl, (by exact ⟨(by (try simp only [f186_0, f186_1, and_true, true_and, or_true, true_or, implies_true, upn, reduceIte, Nat.reduceEqDiff, ne_eq, not_false_eq_true, upc]) <;> (omega)), (by intro c k0 k1 k2 k3; simp only [f186_0, f186_1, upc, upn, k0, k1, k2, k3, reduceIte, Nat.reduceEqDiff, ne_eq, not_false_eq_true]), (by intro i k0 k1 k2 k3 k4 k5 k6; simp only [f186_0, f186_1, upc, upn, k0, k1, k2, k3, k4, k5, k6, reduceIte, Nat.reduceEqDiff, ne_eq, not_false_eq_true])⟩)⟩
  · refine Z_tableIn hk dX1_part_1 h1 (by decide) (by decide) (by decide) (by decide) (off := 175) rfl (tgt := 176) (by decide) ?_
    refine Z_aload0 hk dX1_part_176 ?_
    refine Z_getR hk fl_1_15 dX1_part_177 ob_18.1 ob_18.2.1 ob_18.2.2.1 ob_18.2.2.2 ft_1_0 rs_18_0 ?_
    refine Z_aload1 hk dX1_part_180 ?_
    refine Z_iload4 hk dX1_part_181 ?_
    refine Z_iload2 hk dX1_part_183 ?_
    refine Z_bipush hk dX1_part_184 (by decide) ?_
    refine Z_Vi hk (c_X7_measure κ.2.1 δ ad _ hA o kn 8 hz (by (omega)) (by (omega)) (by (omega)) (by (exact q2)) (by (exact q4)) (by (omega))) ov_X7_measure ml_X1_68 dX1_part_186 rfl ⟨by decide, by decide⟩ ob_10.1 (by decide) (by decide) rfl (Nat.le_of_ble_eq_true rfl) (fun r186 m186 p186 => ?_)
    obtain ⟨p186, f186_0, f186_1⟩ := p186
    try simp only [f186_0, f186_1, and_true, true_and, or_true, true_or, implies_true, upn, reduceIte, Nat.reduceEqDiff, ne_eq, not_false_eq_true, upc] at p186
    exact Z_iret hk hA hQ dX1_part_189 ⟨rfl, rfl, _, rfl, (by exact ⟨(by (try simp only [f186_0, f186_1, and_true, true_and, or_true, true_or, implies_true, upn, reduceIte, Nat.reduceEqDiff, ne_eq, not_false_eq_true, upc]) <;> (omega)), (by intro c k0 k1 k2 k3; simp only [f186_0, f186_1, upc, upn, k0, k1, k2, k3, reduceIte, Nat.reduceEqDiff, ne_eq, not_false_eq_true]), (by intro i k0 k1 k2 k3 k4 k5 k6; simp only [f186_0, f186_1, upc, upn, k0, k1, k2, k3, k4, k5, k6, reduceIte, Nat.reduceEqDiff, ne_eq, not_false_eq_true])⟩)⟩
  · refine Z_tableIn hk dX1_part_1 h1 (by decide) (by decide) (by decide) (by decide) (off := 87) rfl (tgt := 88) (by decide) ?_
    refine Z_aload0 hk dX1_part_88 ?_
    refine Z_getR hk fl_1_15 dX1_part_89 ob_18.1 ob_18.2.1 ob_18.2.2.1 ob_18.2.2.2 ft_1_0 rs_18_0 ?_
    refine Z_aload1 hk dX1_part_92 ?_
    refine Z_iload4 hk dX1_part_93 ?_
    refine Z_iload2 hk dX1_part_95 ?_
    refine Z_iconst hk dX1_part_96 ?_
    refine Z_Vi hk (c_X7_measure κ.2.1 δ ad _ hA o kn 5 hz (by (omega)) (by (omega)) (by (omega)) (by (exact q2)) (by (exact q4)) (by (omega))) ov_X7_measure ml_X1_68 dX1_part_97 rfl ⟨by decide, by decide⟩ ob_10.1 (by decide) (by decide) rfl (Nat.le_of_ble_eq_true rfl) (fun r97 m97 p97 => ?_)
    obtain ⟨p97, f97_0, f97_1⟩ := p97
    try simp only [f97_0, f97_1, and_true, true_and, or_true, true_or, implies_true, upn, reduceIte, Nat.reduceEqDiff, ne_eq, not_false_eq_true, upc] at p97
    refine Z_if_le hk (tgt := 107) dX1_part_100 (by decide) (by omega) (by omega) (fun h100 => ?_) (fun h100 => ?_)
    · refine Z_iconst hk dX1_part_107 ?_
      exact Z_iret hk hA hQ dX1_part_108 ⟨rfl, rfl, _, rfl, (by exact ⟨(by (try simp only [f97_0, f97_1, and_true, true_and, or_true, true_or, implies_true, upn, reduceIte, Nat.reduceEqDiff, ne_eq, not_false_eq_true, upc]) <;> (omega)), (by intro c k0 k1 k2 k3; simp only [f97_0, f97_1, upc, upn, k0, k1, k2, k3, reduceIte, Nat.reduceEqDiff, ne_eq, not_false_eq_true]), (by intro i k0 k1 k2 k3 k4 k5 k6; simp only [f97_0, f97_1, upc, upn, k0, k1, k2, k3, k4, k5, k6, reduceIte, Nat.reduceEqDiff, ne_eq, not_false_eq_true])⟩)⟩
    · refine Z_iconst hk dX1_part_103 ?_
      refine Z_goto hk (tgt := 108) dX1_part_104 (by decide) ?_
      exact Z_iret hk hA hQ dX1_part_108 ⟨rfl, rfl, _, rfl, (by exact ⟨(by (try simp only [f97_0, f97_1, and_true, true_and, or_true, true_or, implies_true, upn, reduceIte, Nat.reduceEqDiff, ne_eq, not_false_eq_true, upc]) <;> (omega)), (by intro c k0 k1 k2 k3; simp only [f97_0, f97_1, upc, upn, k0, k1, k2, k3, reduceIte, Nat.reduceEqDiff, ne_eq, not_false_eq_true]), (by intro i k0 k1 k2 k3 k4 k5 k6; simp only [f97_0, f97_1, upc, upn, k0, k1, k2, k3, k4, k5, k6, reduceIte, Nat.reduceEqDiff, ne_eq, not_false_eq_true])⟩)⟩
  · refine Z_tableIn hk dX1_part_1 h1 (by decide) (by decide) (by decide) (by decide) (off := 63) rfl (tgt := 64) (by decide) ?_
    refine Z_iload4 hk dX1_part_64 ?_
    exact Z_iret hk hA hQ dX1_part_66 ⟨rfl, rfl, _, rfl, (by exact ⟨(by (omega)), (by intro c k0 k1 k2 k3; rfl), (by intro i k0 k1 k2 k3 k4 k5 k6; rfl)⟩)⟩
set_option maxHeartbeats 1000000 in
set_option maxRecDepth 10000 in
theorem c_X1_holds (l : Launch) (δ : Dp) (ad : Nat → Nat) (M : Mem) (hA : okA δ ad) (kn : Int) (k : Int) (hz : NS δ) (q0 : 0 ≤ kn ∧ kn ≤ M 1 0) (q1 : 0 ≤ M 1 0 ∧ M 1 0 ≤ 250) (q2 : AD (M 1 0) (M 2) (M 3) (M 4) (M 5) (M 6)) (q3 : 0 ≤ M 38 0 ∧ M 38 0 ≤ 6 ∧ 0 ≤ M 38 1 ∧ M 38 1 ≤ 4 ∧ 0 ≤ M 38 2 ∧ M 38 2 ≤ 8 ∧ -1 ≤ M 38 5 ∧ M 38 5 ≤ 5 ∧ 0 ≤ M 38 6 ∧ M 38 6 ≤ 700) (q4 : LK (M 41)) (q5 : SS (M 46)) (q6 : SE (M 47)) (qk : 0 ≤ k ∧ k ≤ 7) : Mi l δ yX1_holds cX1_holds 9 (some (.boolean)) 7 181 ad rs [.ref (ad 18), .ref (ad 38), iv kn, iv k] M (fun r M' => (0 ≤ r ∧ r ≤ 1) ∧ (∀ c : Nat, c ≠ 10 → c ≠ 11 → c ≠ 12 → c ≠ 13 → c ≠ 14 → c ≠ 15 → c ≠ 16 → c ≠ 17 → c ≠ 18 → c ≠ 19 → c ≠ 9 → M' c = M c) ∧ (∀ i : Nat, i ≠ 4 → i ≠ 5 → i ≠ 6 → i ≠ 7 → i ≠ 8 → i ≠ 9 → i ≠ 10 → M' 10 i = M 10 i) ∧ (∀ i : Nat, i ≠ 4 → M' 13 i = M 13 i) ∧ (∀ i : Nat, i ≠ 3 → M' 18 i = M 18 i)) := by
  refine Mg.of (rm := rmN 7 181) (by decide) (Nat.le_of_ble_eq_true rfl) fun κ _ hk _ => ?_
  generalize hQ : Qg κ δ 121 (rmN 7 181).cells (rmN 7 181).slots _ = Q
  show Zj κ δ ad rs Q 9 (121, 0, 0) 0 [some (.ref (ad 18)), some (.ref (ad 38)), some (iv kn), some (iv k), none, none, none, none, none] [] M
  refine Z_aload0 hk dX1_holds_0 ?_
  refine Z_getR hk fl_1_19 dX1_holds_1 ob_18.1 ob_18.2.1 ob_18.2.2.1 ob_18.2.2.2 ft_1_1 rs_18_1 ?_
  refine Z_aload1 hk dX1_holds_4 ?_
  refine Z_iload2 hk dX1_holds_5 ?_
  refine Z_Vv hk (c_X5_fill κ.2.1 δ ad _ hA kn (by (omega)) (by (omega)) (by (exact q2)) (by (omega))) ov_X5_fill ml_X1_23 dX1_holds_6 rfl ⟨by decide, by decide⟩ ob_13.1 (by decide) (by decide) rfl (Nat.le_of_ble_eq_true rfl) (fun m6 p6 => ?_)
  obtain ⟨p6, f6_0, f6_1⟩ := p6
  try simp only [f6_0, f6_1, and_true, true_and, or_true, true_or, implies_true, upn, reduceIte, Nat.reduceEqDiff, ne_eq, not_false_eq_true, upc] at p6
  refine Z_aload0 hk dX1_holds_9 ?_
  refine Z_iconst hk dX1_holds_10 ?_
  refine Z_putI hk hA fl_1_29 dX1_holds_11 ob_18.1 ob_18.2.1 ob_18.2.2.1 ob_18.2.2.2 ft_1_3 (by decide) (by decide) ?_
  refine Z_nm (fun m11 em11 => ?_)
  refine Z_iload3 hk dX1_holds_14 ?_
  refine Z_iconst hk dX1_holds_15 ?_
  have J31 : ∀ (y0_31 : Int), (0 ≤ y0_31 ∧ y0_31 ≤ 700) → Zj κ δ ad rs Q 9 (121, 0, 0) 31 [some (.ref (ad 18)), some (.ref (ad 38)), some (iv kn), some (iv k), none, none, none, none, none] [iv y0_31] m11 := by
    intro y0_31 h31
    try simp only [em11, f6_0, f6_1, and_true, true_and, or_true, true_or, implies_true, upn, reduceIte, Nat.reduceEqDiff, ne_eq, not_false_eq_true, upc] at h31
    refine Z_istore4 hk rfl (by decide) dX1_holds_31 ?_
    refine Z_iload4 hk dX1_holds_33 ?_
    have J37 : ∀ (n : Nat) (x5_37 : Int) (m37 : Mem), ((0 ≤ x5_37 ∧ x5_37 ≤ 700 ∧ 0 ≤ (m37 18 3) ∧ (m37 18 3) ≤ 64) ∧ (∀ c : Nat, c ≠ 10 → c ≠ 11 → c ≠ 12 → c ≠ 18 → c ≠ 19 → c ≠ 9 → m37 c = m11 c) ∧ (∀ i : Nat, i ≠ 4 → i ≠ 5 → i ≠ 6 → i ≠ 7 → i ≠ 8 → i ≠ 9 → i ≠ 10 → m37 10 i = m11 10 i) ∧ (∀ i : Nat, i ≠ 3 → m37 18 i = m11 18 i)) → (700 - x5_37) < (n : Int) → Zj κ δ ad rs Q 9 (121, 0, 0) 37 [some (.ref (ad 18)), some (.ref (ad 38)), some (iv kn), some (iv k), some (iv y0_31), some (iv x5_37), none, none, none] [] m37 := by
      intro n
      induction n with
      | zero => intro x5_37 m37 h37 hm37; exfalso; obtain ⟨h37, -⟩ := h37; omega
      | succ n ih37 =>
        intro x5_37 m37 h37 hm37
        obtain ⟨h37, f37_0, f37_1, f37_2⟩ := h37
        try simp only [f37_0, f37_1, f37_2, em11, f6_0, f6_1, and_true, true_and, or_true, true_or, implies_true, upn, reduceIte, Nat.reduceEqDiff, ne_eq, not_false_eq_true, upc] at h37 hm37
        refine Z_iload5 hk dX1_holds_37 ?_
        refine Z_aload1 hk dX1_holds_39 ?_
        refine Z_getR hk fl_1_33 dX1_holds_40 ob_38.1 ob_38.2.1 ob_38.2.2.1 ob_38.2.2.2 ft_3_15 rs_38_15 ?_
        refine Z_iload3 hk dX1_holds_43 ?_
        refine Z_iald hk dX1_holds_44 ar_47.1 ar_47.2.1 ar_47.2.2 (by omega) (by omega) (fun v44 e44 a44 b44 => ?_)
        try simp only [f37_0, f37_1, f37_2, em11, f6_0, f6_1, and_true, true_and, or_true, true_or, implies_true, upn, reduceIte, Nat.reduceEqDiff, ne_eq, not_false_eq_true, upc] at e44
        have g44 := q6 k.toNat (by omega)
        refine Z_icmp_ge hk (tgt := 146) dX1_holds_45 (by decide) (by omega) (by omega) (by omega) (by omega) (fun h45 => ?_) (fun h45 => ?_)
        · refine Z_aload0 hk dX1_holds_146 ?_
          refine Z_Vi hk (c_X1_pop κ.2.1 δ ad _ hA  (by (try simp only [f37_0, f37_1, f37_2, em11, f6_0, f6_1, and_true, true_and, or_true, true_or, implies_true, upn, reduceIte, Nat.reduceEqDiff, ne_eq, not_false_eq_true, upc]) <;> (omega))) ov_X1_pop ml_X1_41 dX1_holds_147 rfl ⟨by decide, by decide⟩ ob_18.1 (by decide) (by decide) rfl (Nat.le_of_ble_eq_true rfl) (fun r147 m147 p147 => ?_)
          obtain ⟨p147, f147_0, f147_1⟩ := p147
          try simp only [f147_0, f147_1, f37_0, f37_1, f37_2, em11, f6_0, f6_1, e44, and_true, true_and, or_true, true_or, implies_true, upn, reduceIte, Nat.reduceEqDiff, ne_eq, not_false_eq_true, upc] at p147
          refine Z_iconst hk dX1_holds_150 ?_
          refine Z_icmp_ne hk (tgt := 158) dX1_holds_151 (by decide) (by omega) (by omega) (by decide) (by decide) (fun h151 => ?_) (fun h151 => ?_)
          · refine Z_iconst hk dX1_holds_158 ?_
            exact Z_zret hk hA hQ dX1_holds_159 (by decide) (by decide) ⟨rfl, rfl, _, rfl, (by exact ⟨(by (try simp only [f147_0, f147_1, f37_0, f37_1, f37_2, em11, f6_0, f6_1, and_true, true_and, or_true, true_or, implies_true, upn, reduceIte, Nat.reduceEqDiff, ne_eq, not_false_eq_true, upc]) <;> (omega)), (by intro c k0 k1 k2 k3 k4 k5 k6 k7 k8 k9 k10; simp only [f147_0, f147_1, f37_0, f37_1, f37_2, em11, f6_0, f6_1, upc, upn, k0, k1, k2, k3, k4, k5, k6, k7, k8, k9, k10, reduceIte, Nat.reduceEqDiff, ne_eq, not_false_eq_true]), (by intro i k0 k1 k2 k3 k4 k5 k6; simp only [f147_0, f147_1, f37_0, f37_1, f37_2, em11, f6_0, f6_1, upc, upn, k0, k1, k2, k3, k4, k5, k6, reduceIte, Nat.reduceEqDiff, ne_eq, not_false_eq_true]), (by intro i k0; simp only [f147_0, f147_1, f37_0, f37_1, f37_2, em11, f6_0, f6_1, upc, upn, k0, reduceIte, Nat.reduceEqDiff, ne_eq, not_false_eq_true]), (by intro i k0; simp only [f147_0, f147_1, f37_0, f37_1, f37_2, em11, f6_0, f6_1, upc, upn, k0, reduceIte, Nat.reduceEqDiff, ne_eq, not_false_eq_true])⟩)⟩
          · refine Z_iconst hk dX1_holds_154 ?_
            refine Z_goto hk (tgt := 159) dX1_holds_155 (by decide) ?_
            exact Z_zret hk hA hQ dX1_holds_159 (by decide) (by decide) ⟨rfl, rfl, _, rfl, (by exact ⟨(by (try simp only [f147_0, f147_1, f37_0, f37_1, f37_2, em11, f6_0, f6_1, and_true, true_and, or_true, true_or, implies_true, upn, reduceIte, Nat.reduceEqDiff, ne_eq, not_false_eq_true, upc]) <;> (omega)), (by intro c k0 k1 k2 k3 k4 k5 k6 k7 k8 k9 k10; simp only [f147_0, f147_1, f37_0, f37_1, f37_2, em11, f6_0, f6_1, upc, upn, k0, k1, k2, k3, k4, k5, k6, k7, k8, k9, k10, reduceIte, Nat.reduceEqDiff, ne_eq, not_false_eq_true]), (by intro i k0 k1 k2 k3 k4 k5 k6; simp only [f147_0, f147_1, f37_0, f37_1, f37_2, em11, f6_0, f6_1, upc, upn, k0, k1, k2, k3, k4, k5, k6, reduceIte, Nat.reduceEqDiff, ne_eq, not_false_eq_true]), (by intro i k0; simp only [f147_0, f147_1, f37_0, f37_1, f37_2, em11, f6_0, f6_1, upc, upn, k0, reduceIte, Nat.reduceEqDiff, ne_eq, not_false_eq_true]), (by intro i k0; simp only [f147_0, f147_1, f37_0, f37_1, f37_2, em11, f6_0, f6_1, upc, upn, k0, reduceIte, Nat.reduceEqDiff, ne_eq, not_false_eq_true])⟩)⟩
        · refine Z_aload1 hk dX1_holds_48 ?_
          refine Z_getR hk fl_1_38 dX1_holds_49 ob_38.1 ob_38.2.1 ob_38.2.2.1 ob_38.2.2.2 ft_3_14 rs_38_14 ?_
          refine Z_iload5 hk dX1_holds_52 ?_
          refine Z_iald hk dX1_holds_54 ar_46.1 ar_46.2.1 ar_46.2.2 (by omega) (by omega) (fun v54 e54 a54 b54 => ?_)
          try simp only [f37_0, f37_1, f37_2, em11, f6_0, f6_1, e44, and_true, true_and, or_true, true_or, implies_true, upn, reduceIte, Nat.reduceEqDiff, ne_eq, not_false_eq_true, upc] at e54
          have g54 := q5 x5_37.toNat (by omega)
          unfold SV at g54
          have d54 : Int.tdiv v54 10000 = v54 / 10000 := Int.tdiv_eq_ediv_of_nonneg (by omega)
          have d54' := d54
          rw [e54] at d54'
          refine Z_sipush hk dX1_holds_55 (by decide) ?_
          refine Z_idiv hk dX1_holds_58 (by omega) (by omega) (by decide) (by decide) (by decide) ?_
          refine Z_istore6 hk rfl (by decide) dX1_holds_59 ?_
          refine Z_aload1 hk dX1_holds_61 ?_
          refine Z_getR hk fl_1_38 dX1_holds_62 ob_38.1 ob_38.2.1 ob_38.2.2.1 ob_38.2.2.2 ft_3_14 rs_38_14 ?_
          refine Z_iload5 hk dX1_holds_65 ?_
          refine Z_iald hk dX1_holds_67 ar_46.1 ar_46.2.1 ar_46.2.2 (by omega) (by omega) (fun v67 e67 a67 b67 => ?_)
          try simp only [f37_0, f37_1, f37_2, em11, f6_0, f6_1, e44, e54, and_true, true_and, or_true, true_or, implies_true, upn, reduceIte, Nat.reduceEqDiff, ne_eq, not_false_eq_true, upc] at e67
          have m67 : Int.tmod v67 10000 = v67 % 10000 := Int.tmod_eq_emod_of_nonneg (by omega)
          have m67' := m67
          rw [e67] at m67'
          refine Z_sipush hk dX1_holds_68 (by decide) ?_
          refine Z_irem hk dX1_holds_71 (by omega) (by omega) (by decide) (by decide) (by decide) ?_
          refine Z_istore7 hk rfl (by decide) dX1_holds_72 ?_
          refine Z_iload6 hk dX1_holds_74 ?_
          refine Z_bipush hk dX1_holds_76 (by decide) ?_
          have J140 : ∀ (m140 : Mem), ((0 ≤ (m140 18 3) ∧ (m140 18 3) ≤ 64) ∧ (∀ c : Nat, c ≠ 10 → c ≠ 11 → c ≠ 12 → c ≠ 18 → c ≠ 19 → c ≠ 9 → m140 c = m37 c) ∧ (∀ i : Nat, i ≠ 4 → i ≠ 5 → i ≠ 6 → i ≠ 7 → i ≠ 8 → i ≠ 9 → i ≠ 10 → m140 10 i = m37 10 i) ∧ (∀ i : Nat, i ≠ 3 → m140 18 i = m37 18 i)) → Zj κ δ ad rs Q 9 (121, 0, 0) 140 [some (.ref (ad 18)), some (.ref (ad 38)), some (iv kn), some (iv k), some (iv y0_31), some (iv x5_37), some (iv (Int.tdiv v54 10000)), some (iv (Int.tmod v67 10000)), none] [] m140 := by
            intro m140 h140
            obtain ⟨h140, f140_0, f140_1, f140_2⟩ := h140
            try simp only [f140_0, f140_1, f140_2, f37_0, f37_1, f37_2, em11, f6_0, f6_1, and_true, true_and, or_true, true_or, implies_true, upn, reduceIte, Nat.reduceEqDiff, ne_eq, not_false_eq_true, upc] at h140
            refine Z_iinc5 hk rfl (by decide) dX1_holds_140 ?_
            refine Z_goto hk (tgt := 37) dX1_holds_143 (by decide) ?_
            refine Z_drop6 ?_
            refine Z_drop7 ?_
            exact ih37 _ _ (by exact ⟨(by (try simp only [f140_0, f140_1, f140_2, f37_0, f37_1, f37_2, em11, f6_0, f6_1, and_true, true_and, or_true, true_or, implies_true, upn, reduceIte, Nat.reduceEqDiff, ne_eq, not_false_eq_true, upc]) <;> (omega)), (by intro c k0 k1 k2 k3 k4 k5; simp only [f140_0, f140_1, f140_2, f37_0, f37_1, f37_2, em11, f6_0, f6_1, upc, upn, k0, k1, k2, k3, k4, k5, reduceIte, Nat.reduceEqDiff, ne_eq, not_false_eq_true]), (by intro i k0 k1 k2 k3 k4 k5 k6; simp only [f140_0, f140_1, f140_2, f37_0, f37_1, f37_2, em11, f6_0, f6_1, upc, upn, k0, k1, k2, k3, k4, k5, k6, reduceIte, Nat.reduceEqDiff, ne_eq, not_false_eq_true]), (by intro i k0; simp only [f140_0, f140_1, f140_2, f37_0, f37_1, f37_2, em11, f6_0, f6_1, upc, upn, k0, reduceIte, Nat.reduceEqDiff, ne_eq, not_false_eq_true])⟩) (by (try simp only [f140_0, f140_1, f140_2, f37_0, f37_1, f37_2, em11, f6_0, f6_1, and_true, true_and, or_true, true_or, implies_true, upn, reduceIte, Nat.reduceEqDiff, ne_eq, not_false_eq_true, upc]) <;> (omega))
          refine Z_icmp_ne hk (tgt := 94) dX1_holds_78 (by decide) (by omega) (by omega) (by decide) (by decide) (fun h78 => ?_) (fun h78 => ?_)
          · refine Z_iload6 hk dX1_holds_94 ?_
            refine Z_Si hk (c_X1_isPart κ.2.1 δ ad _ hA (Int.tdiv v54 10000) (by (try simp only [f37_0, f37_1, f37_2, em11, f6_0, f6_1, and_true, true_and, or_true, true_or, implies_true, upn, reduceIte, Nat.reduceEqDiff, ne_eq, not_false_eq_true, upc]) <;> (omega))) os_X1_isPart ml_X1_49 dX1_holds_96 rfl ⟨by decide, by decide⟩ rfl (Nat.le_of_ble_eq_true rfl) (fun r96 m96 p96 => ?_)
            obtain ⟨rfl, p96⟩ := p96
            try simp only [f37_0, f37_1, f37_2, em11, f6_0, f6_1, e44, e54, e67, and_true, true_and, or_true, true_or, implies_true, upn, reduceIte, Nat.reduceEqDiff, ne_eq, not_false_eq_true, upc] at p96
            refine Z_if_eq hk (tgt := 119) dX1_holds_99 (by decide) (by omega) (by omega) (fun h99 => ?_) (fun h99 => ?_)
            · refine Z_aload0 hk dX1_holds_119 ?_
              refine Z_Vi hk (c_X1_pop κ.2.1 δ ad _ hA  (by (try simp only [f37_0, f37_1, f37_2, em11, f6_0, f6_1, and_true, true_and, or_true, true_or, implies_true, upn, reduceIte, Nat.reduceEqDiff, ne_eq, not_false_eq_true, upc]) <;> (omega))) ov_X1_pop ml_X1_41 dX1_holds_120 rfl ⟨by decide, by decide⟩ ob_18.1 (by decide) (by decide) rfl (Nat.le_of_ble_eq_true rfl) (fun r120 m120 p120 => ?_)
              obtain ⟨p120, f120_0, f120_1⟩ := p120
              try simp only [f120_0, f120_1, f37_0, f37_1, f37_2, em11, f6_0, f6_1, e44, e54, e67, and_true, true_and, or_true, true_or, implies_true, upn, reduceIte, Nat.reduceEqDiff, ne_eq, not_false_eq_true, upc] at p120
              refine Z_istore8 hk rfl (by decide) dX1_holds_123 ?_
              refine Z_aload0 hk dX1_holds_125 ?_
              refine Z_iload6 hk dX1_holds_126 ?_
              refine Z_aload0 hk dX1_holds_128 ?_
              refine Z_Vi hk (c_X1_pop κ.2.1 δ ad _ hA  (by (try simp only [f120_0, f120_1, f37_0, f37_1, f37_2, em11, f6_0, f6_1, and_true, true_and, or_true, true_or, implies_true, upn, reduceIte, Nat.reduceEqDiff, ne_eq, not_false_eq_true, upc]) <;> (omega))) ov_X1_pop ml_X1_41 dX1_holds_129 rfl ⟨by decide, by decide⟩ ob_18.1 (by decide) (by decide) rfl (Nat.le_of_ble_eq_true rfl) (fun r129 m129 p129 => ?_)
              obtain ⟨p129, f129_0, f129_1⟩ := p129
              try simp only [f129_0, f129_1, f120_0, f120_1, f37_0, f37_1, f37_2, em11, f6_0, f6_1, e44, e54, e67, and_true, true_and, or_true, true_or, implies_true, upn, reduceIte, Nat.reduceEqDiff, ne_eq, not_false_eq_true, upc] at p129
              refine Z_iload8 hk dX1_holds_132 ?_
              refine Z_Si hk (c_X1_joined κ.2.1 δ ad _ hA (Int.tdiv v54 10000) r129 r120 (by (try simp only [f129_0, f129_1, f120_0, f120_1, f37_0, f37_1, f37_2, em11, f6_0, f6_1, and_true, true_and, or_true, true_or, implies_true, upn, reduceIte, Nat.reduceEqDiff, ne_eq, not_false_eq_true, upc]) <;> (omega)) (by (try simp only [f129_0, f129_1, f120_0, f120_1, f37_0, f37_1, f37_2, em11, f6_0, f6_1, and_true, true_and, or_true, true_or, implies_true, upn, reduceIte, Nat.reduceEqDiff, ne_eq, not_false_eq_true, upc]) <;> (omega)) (by (try simp only [f129_0, f129_1, f120_0, f120_1, f37_0, f37_1, f37_2, em11, f6_0, f6_1, and_true, true_and, or_true, true_or, implies_true, upn, reduceIte, Nat.reduceEqDiff, ne_eq, not_false_eq_true, upc]) <;> (omega))) os_X1_joined ml_X1_57 dX1_holds_134 rfl ⟨by decide, by decide⟩ rfl (Nat.le_of_ble_eq_true rfl) (fun r134 m134 p134 => ?_)
              obtain ⟨rfl, p134⟩ := p134
              try simp only [f129_0, f129_1, f120_0, f120_1, f37_0, f37_1, f37_2, em11, f6_0, f6_1, e44, e54, e67, and_true, true_and, or_true, true_or, implies_true, upn, reduceIte, Nat.reduceEqDiff, ne_eq, not_false_eq_true, upc] at p134
              refine Z_Vv hk (c_X1_push κ.2.1 δ ad _ hA r134 (by (try simp only [f129_0, f129_1, f120_0, f120_1, f37_0, f37_1, f37_2, em11, f6_0, f6_1, and_true, true_and, or_true, true_or, implies_true, upn, reduceIte, Nat.reduceEqDiff, ne_eq, not_false_eq_true, upc]) <;> (omega)) (by (try simp only [f129_0, f129_1, f120_0, f120_1, f37_0, f37_1, f37_2, em11, f6_0, f6_1, and_true, true_and, or_true, true_or, implies_true, upn, reduceIte, Nat.reduceEqDiff, ne_eq, not_false_eq_true, upc]) <;> (omega))) ov_X1_push ml_X1_45 dX1_holds_137 rfl ⟨by decide, by decide⟩ ob_18.1 (by decide) (by decide) rfl (Nat.le_of_ble_eq_true rfl) (fun m137 p137 => ?_)
              obtain ⟨p137, f137_0, f137_1⟩ := p137
              try simp only [f137_0, f137_1, f129_0, f129_1, f120_0, f120_1, f37_0, f37_1, f37_2, em11, f6_0, f6_1, e44, e54, e67, and_true, true_and, or_true, true_or, implies_true, upn, reduceIte, Nat.reduceEqDiff, ne_eq, not_false_eq_true, upc] at p137
              refine Z_drop8 ?_
              exact J140 _ (by exact ⟨(by (try simp only [f137_0, f137_1, f129_0, f129_1, f120_0, f120_1, f37_0, f37_1, f37_2, em11, f6_0, f6_1, and_true, true_and, or_true, true_or, implies_true, upn, reduceIte, Nat.reduceEqDiff, ne_eq, not_false_eq_true, upc]) <;> (omega)), (by intro c k0 k1 k2 k3 k4 k5; simp only [f137_0, f137_1, f129_0, f129_1, f120_0, f120_1, f37_0, f37_1, f37_2, em11, f6_0, f6_1, upc, upn, k0, k1, k2, k3, k4, k5, reduceIte, Nat.reduceEqDiff, ne_eq, not_false_eq_true]), (by intro i k0 k1 k2 k3 k4 k5 k6; simp only [f137_0, f137_1, f129_0, f129_1, f120_0, f120_1, f37_0, f37_1, f37_2, em11, f6_0, f6_1, upc, upn, k0, k1, k2, k3, k4, k5, k6, reduceIte, Nat.reduceEqDiff, ne_eq, not_false_eq_true]), (by intro i k0; simp only [f137_0, f137_1, f129_0, f129_1, f120_0, f120_1, f37_0, f37_1, f37_2, em11, f6_0, f6_1, upc, upn, k0, reduceIte, Nat.reduceEqDiff, ne_eq, not_false_eq_true])⟩)
            · refine Z_aload0 hk dX1_holds_102 ?_
              refine Z_aload0 hk dX1_holds_103 ?_
              refine Z_aload1 hk dX1_holds_104 ?_
              refine Z_iload2 hk dX1_holds_105 ?_
              refine Z_iload6 hk dX1_holds_106 ?_
              refine Z_iload7 hk dX1_holds_108 ?_
              refine Z_Vi hk (c_X1_part κ.2.1 δ ad _ hA kn (Int.tdiv v54 10000) (Int.tmod v67 10000) hz (by (try simp only [f37_0, f37_1, f37_2, em11, f6_0, f6_1, and_true, true_and, or_true, true_or, implies_true, upn, reduceIte, Nat.reduceEqDiff, ne_eq, not_false_eq_true, upc]) <;> (omega)) (by (try simp only [f37_0, f37_1, f37_2, em11, f6_0, f6_1, and_true, true_and, or_true, true_or, implies_true, upn, reduceIte, Nat.reduceEqDiff, ne_eq, not_false_eq_true, upc]) <;> (omega)) (by (try simp only [f37_0, f37_1, f37_2, em11, f6_0, f6_1, and_true, true_and, or_true, true_or, implies_true, upn, reduceIte, Nat.reduceEqDiff, ne_eq, not_false_eq_true, upc]) <;> (exact q2)) (by (try simp only [f37_0, f37_1, f37_2, em11, f6_0, f6_1, and_true, true_and, or_true, true_or, implies_true, upn, reduceIte, Nat.reduceEqDiff, ne_eq, not_false_eq_true, upc]) <;> (omega)) (by (try simp only [f37_0, f37_1, f37_2, em11, f6_0, f6_1, and_true, true_and, or_true, true_or, implies_true, upn, reduceIte, Nat.reduceEqDiff, ne_eq, not_false_eq_true, upc]) <;> (exact q4)) (by (try simp only [f37_0, f37_1, f37_2, em11, f6_0, f6_1, and_true, true_and, or_true, true_or, implies_true, upn, reduceIte, Nat.reduceEqDiff, ne_eq, not_false_eq_true, upc]) <;> (omega)) (by (try simp only [f37_0, f37_1, f37_2, em11, f6_0, f6_1, and_true, true_and, or_true, true_or, implies_true, upn, reduceIte, Nat.reduceEqDiff, ne_eq, not_false_eq_true, upc]) <;> (omega)) (by (try simp only [f37_0, f37_1, f37_2, em11, f6_0, f6_1, and_true, true_and, or_true, true_or, implies_true, upn, reduceIte, Nat.reduceEqDiff, ne_eq, not_false_eq_true, upc]) <;> (omega)) (by (try simp only [f37_0, f37_1, f37_2, em11, f6_0, f6_1, and_true, true_and, or_true, true_or, implies_true, upn, reduceIte, Nat.reduceEqDiff, ne_eq, not_false_eq_true, upc]) <;> (omega))) ov_X1_part ml_X1_53 dX1_holds_110 rfl ⟨by decide, by decide⟩ ob_18.1 (by decide) (by decide) rfl (Nat.le_of_ble_eq_true rfl) (fun r110 m110 p110 => ?_)
              obtain ⟨p110, f110_0, f110_1⟩ := p110
              try simp only [f110_0, f110_1, f37_0, f37_1, f37_2, em11, f6_0, f6_1, e44, e54, e67, and_true, true_and, or_true, true_or, implies_true, upn, reduceIte, Nat.reduceEqDiff, ne_eq, not_false_eq_true, upc] at p110
              refine Z_Vv hk (c_X1_push κ.2.1 δ ad _ hA r110 (by (try simp only [f110_0, f110_1, f37_0, f37_1, f37_2, em11, f6_0, f6_1, and_true, true_and, or_true, true_or, implies_true, upn, reduceIte, Nat.reduceEqDiff, ne_eq, not_false_eq_true, upc]) <;> (omega)) (by (try simp only [f110_0, f110_1, f37_0, f37_1, f37_2, em11, f6_0, f6_1, and_true, true_and, or_true, true_or, implies_true, upn, reduceIte, Nat.reduceEqDiff, ne_eq, not_false_eq_true, upc]) <;> (omega))) ov_X1_push ml_X1_45 dX1_holds_113 rfl ⟨by decide, by decide⟩ ob_18.1 (by decide) (by decide) rfl (Nat.le_of_ble_eq_true rfl) (fun m113 p113 => ?_)
              obtain ⟨p113, f113_0, f113_1⟩ := p113
              try simp only [f113_0, f113_1, f110_0, f110_1, f37_0, f37_1, f37_2, em11, f6_0, f6_1, e44, e54, e67, and_true, true_and, or_true, true_or, implies_true, upn, reduceIte, Nat.reduceEqDiff, ne_eq, not_false_eq_true, upc] at p113
              refine Z_goto hk (tgt := 140) dX1_holds_116 (by decide) ?_
              exact J140 _ (by exact ⟨(by (try simp only [f113_0, f113_1, f110_0, f110_1, f37_0, f37_1, f37_2, em11, f6_0, f6_1, and_true, true_and, or_true, true_or, implies_true, upn, reduceIte, Nat.reduceEqDiff, ne_eq, not_false_eq_true, upc]) <;> (omega)), (by intro c k0 k1 k2 k3 k4 k5; simp only [f113_0, f113_1, f110_0, f110_1, f37_0, f37_1, f37_2, em11, f6_0, f6_1, upc, upn, k0, k1, k2, k3, k4, k5, reduceIte, Nat.reduceEqDiff, ne_eq, not_false_eq_true]), (by intro i k0 k1 k2 k3 k4 k5 k6; simp only [f113_0, f113_1, f110_0, f110_1, f37_0, f37_1, f37_2, em11, f6_0, f6_1, upc, upn, k0, k1, k2, k3, k4, k5, k6, reduceIte, Nat.reduceEqDiff, ne_eq, not_false_eq_true]), (by intro i k0; simp only [f113_0, f113_1, f110_0, f110_1, f37_0, f37_1, f37_2, em11, f6_0, f6_1, upc, upn, k0, reduceIte, Nat.reduceEqDiff, ne_eq, not_false_eq_true])⟩)
          · refine Z_aload0 hk dX1_holds_81 ?_
            refine Z_iconst hk dX1_holds_82 ?_
            refine Z_aload0 hk dX1_holds_83 ?_
            refine Z_Vi hk (c_X1_pop κ.2.1 δ ad _ hA  (by (try simp only [f37_0, f37_1, f37_2, em11, f6_0, f6_1, and_true, true_and, or_true, true_or, implies_true, upn, reduceIte, Nat.reduceEqDiff, ne_eq, not_false_eq_true, upc]) <;> (omega))) ov_X1_pop ml_X1_41 dX1_holds_84 rfl ⟨by decide, by decide⟩ ob_18.1 (by decide) (by decide) rfl (Nat.le_of_ble_eq_true rfl) (fun r84 m84 p84 => ?_)
            obtain ⟨p84, f84_0, f84_1⟩ := p84
            try simp only [f84_0, f84_1, f37_0, f37_1, f37_2, em11, f6_0, f6_1, e44, e54, e67, and_true, true_and, or_true, true_or, implies_true, upn, reduceIte, Nat.reduceEqDiff, ne_eq, not_false_eq_true, upc] at p84
            refine Z_isub hk dX1_holds_87 ?_
            refine Z_wI (fun w87 a87w b87w g87w => ?_)
            refine Z_Vv hk (c_X1_push κ.2.1 δ ad _ hA w87 (by (try simp only [f84_0, f84_1, f37_0, f37_1, f37_2, em11, f6_0, f6_1, and_true, true_and, or_true, true_or, implies_true, upn, reduceIte, Nat.reduceEqDiff, ne_eq, not_false_eq_true, upc]) <;> (omega)) (by (try simp only [f84_0, f84_1, f37_0, f37_1, f37_2, em11, f6_0, f6_1, and_true, true_and, or_true, true_or, implies_true, upn, reduceIte, Nat.reduceEqDiff, ne_eq, not_false_eq_true, upc]) <;> (omega))) ov_X1_push ml_X1_45 dX1_holds_88 rfl ⟨by decide, by decide⟩ ob_18.1 (by decide) (by decide) rfl (Nat.le_of_ble_eq_true rfl) (fun m88 p88 => ?_)
            obtain ⟨p88, f88_0, f88_1⟩ := p88
            try simp only [f88_0, f88_1, f84_0, f84_1, f37_0, f37_1, f37_2, em11, f6_0, f6_1, e44, e54, e67, and_true, true_and, or_true, true_or, implies_true, upn, reduceIte, Nat.reduceEqDiff, ne_eq, not_false_eq_true, upc] at p88
            refine Z_goto hk (tgt := 140) dX1_holds_91 (by decide) ?_
            exact J140 _ (by exact ⟨(by (try simp only [f88_0, f88_1, f84_0, f84_1, f37_0, f37_1, f37_2, em11, f6_0, f6_1, and_true, true_and, or_true, true_or, implies_true, upn, reduceIte, Nat.reduceEqDiff, ne_eq, not_false_eq_true, upc]) <;> (omega)), (by intro c k0 k1 k2 k3 k4 k5; simp only [f88_0, f88_1, f84_0, f84_1, f37_0, f37_1, f37_2, em11, f6_0, f6_1, upc, upn, k0, k1, k2, k3, k4, k5, reduceIte, Nat.reduceEqDiff, ne_eq, not_false_eq_true]), (by intro i k0 k1 k2 k3 k4 k5 k6; simp only [f88_0, f88_1, f84_0, f84_1, f37_0, f37_1, f37_2, em11, f6_0, f6_1, upc, upn, k0, k1, k2, k3, k4, k5, k6, reduceIte, Nat.reduceEqDiff, ne_eq, not_false_eq_true]), (by intro i k0; simp only [f88_0, f88_1, f84_0, f84_1, f37_0, f37_1, f37_2, em11, f6_0, f6_1, upc, upn, k0, reduceIte, Nat.reduceEqDiff, ne_eq, not_false_eq_true])⟩)
    refine Z_istore5 hk rfl (by decide) dX1_holds_35 ?_
    exact J37 (((700 - y0_31) : Int).toNat + 1) _ _ (by exact ⟨(by (try simp only [em11, f6_0, f6_1, and_true, true_and, or_true, true_or, implies_true, upn, reduceIte, Nat.reduceEqDiff, ne_eq, not_false_eq_true, upc]) <;> (omega)), (by intro c k0 k1 k2 k3 k4 k5; simp only [em11, f6_0, f6_1, upc, upn, k0, k1, k2, k3, k4, k5, reduceIte, Nat.reduceEqDiff, ne_eq, not_false_eq_true]), (by intro i k0 k1 k2 k3 k4 k5 k6; simp only [em11, f6_0, f6_1, upc, upn, k0, k1, k2, k3, k4, k5, k6, reduceIte, Nat.reduceEqDiff, ne_eq, not_false_eq_true]), (by intro i k0; simp only [em11, f6_0, f6_1, upc, upn, k0, reduceIte, Nat.reduceEqDiff, ne_eq, not_false_eq_true])⟩) (by omega)
  refine Z_icmp_ge hk (tgt := 23) dX1_holds_16 (by decide) (by omega) (by omega) (by decide) (by decide) (fun h16 => ?_) (fun h16 => ?_)
  · refine Z_aload1 hk dX1_holds_23 ?_
    refine Z_getR hk fl_1_33 dX1_holds_24 ob_38.1 ob_38.2.1 ob_38.2.2.1 ob_38.2.2.2 ft_3_15 rs_38_15 ?_
    refine Z_iload3 hk dX1_holds_27 ?_
    refine Z_iconst hk dX1_holds_28 ?_
    refine Z_isub hk dX1_holds_29 ?_
    refine Z_iald hk dX1_holds_30 ar_47.1 ar_47.2.1 ar_47.2.2 (by omega) (by omega) (fun v30 e30 a30 b30 => ?_)
    try simp only [em11, f6_0, f6_1, and_true, true_and, or_true, true_or, implies_true, upn, reduceIte, Nat.reduceEqDiff, ne_eq, not_false_eq_true, upc] at e30
    exact J31 _ (by (try simp only [em11, f6_0, f6_1, and_true, true_and, or_true, true_or, implies_true, upn, reduceIte, Nat.reduceEqDiff, ne_eq, not_false_eq_true, upc]) <;> (have g := q6 (k - 1).toNat (by omega); omega))
  · refine Z_iconst hk dX1_holds_19 ?_
    refine Z_goto hk (tgt := 31) dX1_holds_20 (by decide) ?_
    exact J31 _ (by (try simp only [em11, f6_0, f6_1, and_true, true_and, or_true, true_or, implies_true, upn, reduceIte, Nat.reduceEqDiff, ne_eq, not_false_eq_true, upc]) <;> (omega))
