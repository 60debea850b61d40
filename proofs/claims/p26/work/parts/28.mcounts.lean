theorem pw_in2 : ∀ k : Nat, k < 31 → (1 : Int) ≤ 2 ^ k ∧ (2 : Int) ^ k ≤ 205891132094649 := by decide +kernel
theorem pw_in3 : ∀ k : Nat, k < 31 → (1 : Int) ≤ 3 ^ k ∧ (3 : Int) ^ k ≤ 205891132094649 := by decide +kernel
theorem pw_in {b : Int} {k : Nat} (hb : b = 2 ∨ b = 3) (hk : k < 31) : 1 ≤ b ^ k ∧ b ^ k ≤ 205891132094649 := by
  rcases hb with rfl | rfl
  · exact pw_in2 k hk
  · exact pw_in3 k hk
set_option maxRecDepth 10000 in
theorem c_X9_ofN (l : Launch) (δ : Dp) (ad : Nat → Nat) (M : Mem) (hA : okA δ ad) (q0 : 0 ≤ (M 48 94) ∧ 0 ≤ (M 48 95) ∧ 0 ≤ (M 48 96) ∧ (M 48 94) + (M 48 95) + (M 48 96) ≤ 30) : Mi l δ yX9_ofN cX9_ofN 1 (some (.int)) 0 0 ad rs [.ref (ad 48)] M (fun r M' => M = M' ∧ ((M 48 94) + (M 48 95) ≤ r ∧ r ≤ 30 ∧ ((M 48 74) ≠ 1 → r = (M 48 94) + (M 48 95) + (M 48 96)))) := by
  refine Mg.of (rm := rmN 0 0) (by decide) (Nat.le_of_ble_eq_true rfl) fun κ _ hk _ => ?_
  generalize hQ : Qg κ δ 121 (rmN 0 0).cells (rmN 0 0).slots _ = Q
  show Zj κ δ ad rs Q 1 (121, 0, 0) 0 [some (.ref (ad 48))] [] M
  refine Z_aload0 hk dX9_ofN_0 ?_
  refine Z_getI hk fl_9_502 dX9_ofN_1 ob_48.1 ob_48.2.1 ob_48.2.2.1 ob_48.2.2.2 ft_9_94 (fun v1 e1 a1 b1 => ?_)
  refine Z_aload0 hk dX9_ofN_4 ?_
  refine Z_getI hk fl_9_505 dX9_ofN_5 ob_48.1 ob_48.2.1 ob_48.2.2.1 ob_48.2.2.2 ft_9_95 (fun v5 e5 a5 b5 => ?_)
  try simp only [e1, and_true, true_and, or_true, true_or, implies_true, upn, reduceIte, Nat.reduceEqDiff, ne_eq, not_false_eq_true, upc] at e5
  refine Z_iadd hk dX9_ofN_8 ?_
  refine Z_aload0 hk dX9_ofN_9 ?_
  refine Z_getI hk fl_9_173 dX9_ofN_10 ob_48.1 ob_48.2.1 ob_48.2.2.1 ob_48.2.2.2 ft_9_74 (fun v10 e10 a10 b10 => ?_)
  try simp only [e1, e5, and_true, true_and, or_true, true_or, implies_true, upn, reduceIte, Nat.reduceEqDiff, ne_eq, not_false_eq_true, upc] at e10
  refine Z_iconst hk dX9_ofN_13 ?_
  refine Z_icmp_ne hk (tgt := 21) dX9_ofN_14 (by decide) (by omega) (by omega) (by decide) (by decide) (fun h14 => ?_) (fun h14 => ?_)
  · refine Z_aload0 hk dX9_ofN_21 ?_
    refine Z_getI hk fl_9_508 dX9_ofN_22 ob_48.1 ob_48.2.1 ob_48.2.2.1 ob_48.2.2.2 ft_9_96 (fun v22 e22 a22 b22 => ?_)
    try simp only [e1, e5, e10, and_true, true_and, or_true, true_or, implies_true, upn, reduceIte, Nat.reduceEqDiff, ne_eq, not_false_eq_true, upc] at e22
    refine Z_iadd hk dX9_ofN_25 ?_
    exact Z_iret hk hA hQ dX9_ofN_26 ⟨rfl, rfl, _, rfl, (by exact ⟨rfl, (by omega)⟩)⟩
  · refine Z_iconst hk dX9_ofN_17 ?_
    refine Z_goto hk (tgt := 25) dX9_ofN_18 (by decide) ?_
    refine Z_iadd hk dX9_ofN_25 ?_
    exact Z_iret hk hA hQ dX9_ofN_26 ⟨rfl, rfl, _, rfl, (by exact ⟨rfl, (by omega)⟩)⟩
set_option maxRecDepth 10000 in
theorem c_X9_ofK (l : Launch) (δ : Dp) (ad : Nat → Nat) (M : Mem) (hA : okA δ ad) (t : Int) (q0 : 0 ≤ (M 48 94) ∧ 0 ≤ (M 48 95) ∧ 0 ≤ (M 48 96) ∧ (M 48 94) + (M 48 95) + (M 48 96) ≤ 30) (q1 : 0 ≤ t ∧ t ≤ 3) : Mi l δ yX9_ofK cX9_ofK 2 (some (.int)) 0 0 ad rs [.ref (ad 48), iv t] M (fun r M' => M = M' ∧ ((M 48 94) ≤ r ∧ r ≤ (M 48 94) + (M 48 96) ∧ ((M 48 74) ≠ 0 → r = (M 48 94)))) := by
  refine Mg.of (rm := rmN 0 0) (by decide) (Nat.le_of_ble_eq_true rfl) fun κ _ hk _ => ?_
  generalize hQ : Qg κ δ 121 (rmN 0 0).cells (rmN 0 0).slots _ = Q
  show Zj κ δ ad rs Q 2 (121, 0, 0) 0 [some (.ref (ad 48)), some (iv t)] [] M
  refine Z_aload0 hk dX9_ofK_0 ?_
  refine Z_getI hk fl_9_502 dX9_ofK_1 ob_48.1 ob_48.2.1 ob_48.2.2.1 ob_48.2.2.2 ft_9_94 (fun v1 e1 a1 b1 => ?_)
  refine Z_aload0 hk dX9_ofK_4 ?_
  refine Z_getI hk fl_9_173 dX9_ofK_5 ob_48.1 ob_48.2.1 ob_48.2.2.1 ob_48.2.2.2 ft_9_74 (fun v5 e5 a5 b5 => ?_)
  try simp only [e1, and_true, true_and, or_true, true_or, implies_true, upn, reduceIte, Nat.reduceEqDiff, ne_eq, not_false_eq_true, upc] at e5
  refine Z_if_ne hk (tgt := 29) dX9_ofK_8 (by decide) (by omega) (by omega) (fun h8 => ?_) (fun h8 => ?_)
  · refine Z_iconst hk dX9_ofK_29 ?_
    refine Z_iadd hk dX9_ofK_30 ?_
    exact Z_iret hk hA hQ dX9_ofK_31 ⟨rfl, rfl, _, rfl, (by exact ⟨rfl, (by omega)⟩)⟩
  · refine Z_aload0 hk dX9_ofK_11 ?_
    refine Z_getR hk fl_9_152 dX9_ofK_12 ob_48.1 ob_48.2.1 ob_48.2.2.1 ob_48.2.2.2 ft_9_67 rs_48_67 ?_
    refine Z_iload1 hk dX9_ofK_15 ?_
    refine Z_zald hk dX9_ofK_16 ar_94.1 ar_94.2.1 ar_94.2.2 (by omega) (by omega) (fun v16 e16 a16 b16 => ?_)
    try simp only [e1, e5, and_true, true_and, or_true, true_or, implies_true, upn, reduceIte, Nat.reduceEqDiff, ne_eq, not_false_eq_true, upc] at e16
    refine Z_if_ne hk (tgt := 29) dX9_ofK_17 (by decide) (by omega) (by omega) (fun h17 => ?_) (fun h17 => ?_)
    · refine Z_iconst hk dX9_ofK_29 ?_
      refine Z_iadd hk dX9_ofK_30 ?_
      exact Z_iret hk hA hQ dX9_ofK_31 ⟨rfl, rfl, _, rfl, (by exact ⟨rfl, (by omega)⟩)⟩
    · refine Z_aload0 hk dX9_ofK_20 ?_
      refine Z_getI hk fl_9_508 dX9_ofK_21 ob_48.1 ob_48.2.1 ob_48.2.2.1 ob_48.2.2.2 ft_9_96 (fun v21 e21 a21 b21 => ?_)
      try simp only [e1, e5, e16, and_true, true_and, or_true, true_or, implies_true, upn, reduceIte, Nat.reduceEqDiff, ne_eq, not_false_eq_true, upc] at e21
      refine Z_iconst hk dX9_ofK_24 ?_
      refine Z_idiv hk dX9_ofK_25 (by omega) (by omega) (by decide) (by decide) (by decide) ?_
      have g26 := td_in (x := v21) (y := 2) (by omega) (by decide)
      refine Z_goto hk (tgt := 30) dX9_ofK_26 (by decide) ?_
      refine Z_iadd hk dX9_ofK_30 ?_
      exact Z_iret hk hA hQ dX9_ofK_31 ⟨rfl, rfl, _, rfl, (by exact ⟨rfl, (by omega)⟩)⟩
set_option maxRecDepth 10000 in
theorem c_X9_isBelow (l : Launch) (δ : Dp) (ad : Nat → Nat) (M : Mem) (hA : okA δ ad) (z : Int) (k : Int) (nn : Int) (a : Int) (b : Int) (q0 : 0 ≤ nn ∧ nn ≤ 30 ∧ 0 ≤ k ∧ k ≤ nn) (q1 : z = 0 ∨ z = 1) (q2 : 0 ≤ a ∧ a ≤ 9999 ∧ 0 ≤ b ∧ b ≤ 9999) : Mi l δ yX9_isBelow cX9_isBelow 7 (some (.boolean)) 2 50 ad rs [iv z, iv k, iv nn, jv a, jv b] M (fun r M' => M = M' ∧ (0 ≤ r ∧ r ≤ 1 ∧ (r = 1 ↔ ((gsF z nn.toNat (nn - k + 1).toNat : Nat) : Int) * b < (if z = 1 then 3 else 2 : Int) ^ nn.toNat * a))) := by
  refine Mg.of (rm := rmN 2 50) (by decide) (Nat.le_of_ble_eq_true rfl) fun κ _ hk _ => ?_
  generalize hQ : Qg κ δ 121 (rmN 2 50).cells (rmN 2 50).slots _ = Q
  show Zj κ δ ad rs Q 7 (121, 0, 0) 0 [some (iv z), some (iv k), some (iv nn), some (jv a), none, some (jv b), none] [] M
  refine Z_iload0 hk dX9_isBelow_0 ?_
  refine Z_iload1 hk dX9_isBelow_1 ?_
  refine Z_iload2 hk dX9_isBelow_2 ?_
  refine Z_Sj hk (c_X9_guessed κ.2.1 δ ad _ hA z k nn (by (omega)) (by (omega))) os_X9_guessed ml_X9_544 dX9_isBelow_3 rfl ⟨by decide, by decide⟩ rfl (Nat.le_of_ble_eq_true rfl) (fun r3 m3 p3 => ?_)
  obtain ⟨rfl, p3⟩ := p3
  refine Z_lload5 hk dX9_isBelow_6 ?_
  refine Z_lmul hk dX9_isBelow_8 ?_
  refine Z_iload0 hk dX9_isBelow_9 ?_
  have J22 : ∀ (y1_22 : Int), (y1_22 = (if z = 1 then 3 else 2 : Int)) → Zj κ δ ad rs Q 7 (121, 0, 0) 22 [some (iv z), some (iv k), some (iv nn), some (jv a), none, some (jv b), none] [jv y1_22, jv (r3 * b)] M := by
    intro y1_22 h22
    have w22 := pw_in (b := y1_22) (k := nn.toNat) (by rw [h22]; split <;> omega) (by omega)
    have g22 := gs_le (z := z) q1 (n := nn.toNat) (m := (nn - k + 1).toNat) (by omega) (by omega)
    refine Z_iload2 hk dX9_isBelow_22 ?_
    refine Z_Sj hk (c_X9_power κ.2.1 δ ad _ hA y1_22 nn (by (omega))) os_X9_power ml_X9_540 dX9_isBelow_23 rfl ⟨by decide, by decide⟩ rfl (Nat.le_of_ble_eq_true rfl) (fun r23 m23 p23 => ?_)
    obtain ⟨rfl, p23⟩ := p23
    refine Z_lload3 hk dX9_isBelow_26 ?_
    refine Z_lmul hk dX9_isBelow_27 ?_
    have k1 : 0 ≤ r3 * b := Int.mul_nonneg (by omega) (by omega)
    have k2 : r3 * b ≤ 281474976710656 * 9999 := Int.mul_le_mul (by omega) (by omega) (by omega) (by omega)
    have k3 : 0 ≤ r23 * a := Int.mul_nonneg (by omega) (by omega)
    have k4 : r23 * a ≤ 205891132094649 * 9999 := Int.mul_le_mul (by omega) (by omega) (by omega) (by omega)
    refine Z_lcmp hk dX9_isBelow_28 (by omega) (by omega) (by omega) (by omega) (fun v28 e28 => ?_)
    refine Z_if_ge hk (tgt := 36) dX9_isBelow_29 (by decide) (by omega) (by omega) (fun h29 => ?_) (fun h29 => ?_)
    · refine Z_iconst hk dX9_isBelow_36 ?_
      exact Z_zret hk hA hQ dX9_isBelow_37 (by decide) (by decide) ⟨rfl, rfl, _, rfl, (by exact ⟨rfl, (by rw [← p3, ← h22, ← p23]; omega)⟩)⟩
    · refine Z_iconst hk dX9_isBelow_32 ?_
      refine Z_goto hk (tgt := 37) dX9_isBelow_33 (by decide) ?_
      exact Z_zret hk hA hQ dX9_isBelow_37 (by decide) (by decide) ⟨rfl, rfl, _, rfl, (by exact ⟨rfl, (by rw [← p3, ← h22, ← p23]; omega)⟩)⟩
  refine Z_if_eq hk (tgt := 19) dX9_isBelow_10 (by decide) (by omega) (by omega) (fun h10 => ?_) (fun h10 => ?_)
  · refine Z_ldc2_w hk (n := 2) (mem_g (by decide +kernel)) dX9_isBelow_19 ?_
    exact J22 _ (by rw [if_neg (by omega)])
  · refine Z_ldc2_w hk (n := 3) (mem_g (by decide +kernel)) dX9_isBelow_13 ?_
    refine Z_goto hk (tgt := 22) dX9_isBelow_16 (by decide) ?_
    exact J22 _ (by rw [if_pos (by omega)])
set_option maxHeartbeats 1000000 in
set_option maxRecDepth 10000 in
theorem c_X9_counts (l : Launch) (δ : Dp) (ad : Nat → Nat) (M : Mem) (hA : okA δ ad) (t : Int) (z : Int) (q0 : 0 ≤ t ∧ t ≤ 3) (q1 : 0 ≤ (M 48 84) ∧ (M 48 84) ≤ 250) (q2 : AC (M 48 84) (M 104) (M 105) (M 106) (M 107) (M 108)) (q3 : LK (M 97)) (q4 : KB (M 99)) (q5 : KB (M 100)) (i_z : -2147483648 ≤ z ∧ z ≤ 2147483647) : Mv l δ yX9_counts cX9_counts 6 none 3 76 ad rs [.ref (ad 48), iv t, iv z] M (fun M' => (0 ≤ (M' 48 94) ∧ 0 ≤ (M' 48 95) ∧ 0 ≤ (M' 48 96) ∧ (M' 48 94) + (M' 48 95) + (M' 48 96) ≤ 30) ∧ (∀ c : Nat, c ≠ 110 → c ≠ 111 → c ≠ 48 → M' c = M c) ∧ (∀ i : Nat, i ≠ 94 → i ≠ 95 → i ≠ 96 → i ≠ 97 → i ≠ 98 → M' 48 i = M 48 i)) := by
  refine Mg.of (rm := rmN 3 76) (by decide) (Nat.le_of_ble_eq_true rfl) fun κ _ hk _ => ?_
  generalize hQ : Qg κ δ 121 (rmN 3 76).cells (rmN 3 76).slots _ = Q
  show Zj κ δ ad rs Q 6 (121, 0, 0) 0 [some (.ref (ad 48)), some (iv t), some (iv z), none, none, none] [] M
  refine Z_aload0 hk dX9_counts_0 ?_
  refine Z_iload1 hk dX9_counts_1 ?_
  refine Z_Vv hk (c_X9_fills κ.2.1 δ ad _ hA t (by (omega)) (by (omega)) (by (omega))) ov_X9_fills ml_X9_499 dX9_counts_2 rfl ⟨by decide, by decide⟩ ob_48.1 (by decide) (by decide) rfl (Nat.le_of_ble_eq_true rfl) (fun m2 p2 => ?_)
  obtain ⟨p2, f2_0⟩ := p2
  try simp only [f2_0, and_true, true_and, or_true, true_or, implies_true, upn, reduceIte, Nat.reduceEqDiff, ne_eq, not_false_eq_true, upc] at p2
  refine Z_aload0 hk dX9_counts_5 ?_
  refine Z_iconst hk dX9_counts_6 ?_
  refine Z_putI hk hA fl_9_502 dX9_counts_7 ob_48.1 ob_48.2.1 ob_48.2.2.1 ob_48.2.2.2 ft_9_94 (by decide) (by decide) ?_
  refine Z_nm (fun m7 em7 => ?_)
  refine Z_aload0 hk dX9_counts_10 ?_
  refine Z_iconst hk dX9_counts_11 ?_
  refine Z_putI hk hA fl_9_505 dX9_counts_12 ob_48.1 ob_48.2.1 ob_48.2.2.1 ob_48.2.2.2 ft_9_95 (by decide) (by decide) ?_
  refine Z_nm (fun m12 em12 => ?_)
  refine Z_aload0 hk dX9_counts_15 ?_
  refine Z_iconst hk dX9_counts_16 ?_
  refine Z_putI hk hA fl_9_508 dX9_counts_17 ob_48.1 ob_48.2.1 ob_48.2.2.1 ob_48.2.2.2 ft_9_96 (by decide) (by decide) ?_
  refine Z_nm (fun m17 em17 => ?_)
  refine Z_aload0 hk dX9_counts_20 ?_
  refine Z_iconst hk dX9_counts_21 ?_
  refine Z_putI hk hA fl_9_511 dX9_counts_22 ob_48.1 ob_48.2.1 ob_48.2.2.1 ob_48.2.2.2 ft_9_97 (by decide) (by decide) ?_
  refine Z_nm (fun m22 em22 => ?_)
  refine Z_aload0 hk dX9_counts_25 ?_
  refine Z_iconst hk dX9_counts_26 ?_
  refine Z_putI hk hA fl_9_514 dX9_counts_27 ob_48.1 ob_48.2.1 ob_48.2.2.1 ob_48.2.2.2 ft_9_98 (by decide) (by decide) ?_
  refine Z_nm (fun m27 em27 => ?_)
  refine Z_iconst hk dX9_counts_30 ?_
  have J32 : ∀ (n : Nat) (x3_32 : Int) (m32 : Mem), (((0 ≤ x3_32 ∧ x3_32 ≤ 30) ∧ ∀ j : Nat, (j : Int) < x3_32 → m32 111 j = 0) ∧ (∀ c : Nat, c ≠ 111 → m32 c = m27 c)) → (30 - x3_32) < (n : Int) → Zj κ δ ad rs Q 6 (121, 0, 0) 32 [some (.ref (ad 48)), some (iv t), some (iv z), some (iv x3_32), none, none] [] m32 := by
    intro n
    induction n with
    | zero => intro x3_32 m32 h32 hm32; exfalso; obtain ⟨h32, -⟩ := h32; omega
    | succ n ih32 =>
      intro x3_32 m32 h32 hm32
      obtain ⟨h32, f32_0⟩ := h32
      try simp only [f32_0, em27, em22, em17, em12, em7, f2_0, and_true, true_and, or_true, true_or, implies_true, upn, reduceIte, Nat.reduceEqDiff, ne_eq, not_false_eq_true, upc] at h32 hm32
      refine Z_iload3 hk dX9_counts_32 ?_
      refine Z_bipush hk dX9_counts_33 (by decide) ?_
      refine Z_icmp_ge hk (tgt := 51) dX9_counts_35 (by decide) (by omega) (by omega) (by decide) (by decide) (fun h35 => ?_) (fun h35 => ?_)
      · refine Z_iconst hk dX9_counts_51 ?_
        refine Z_istore3 hk rfl (by decide) dX9_counts_52 ?_
        refine Z_iconst hk dX9_counts_53 ?_
        have J56 : ∀ (n : Nat) (x3_56 : Int) (x4_56 : Int) (m56 : Mem), (((0 ≤ x3_56 ∧ x3_56 ≤ M 97 t.toNat ∧ 1 ≤ x4_56 ∧ x4_56 ≤ (M 48 84) + 1 ∧ 0 ≤ (m56 48 94) ∧ 0 ≤ (m56 48 95) ∧ 0 ≤ (m56 48 96) ∧ 0 ≤ (m56 48 98)) ∧ (m56 48 94) + (m56 48 95) + (m56 48 96) + (m56 48 98) ≤ (cn (m56 111) 30 : Int)) ∧ (∀ c : Nat, c ≠ 111 → c ≠ 48 → m56 c = m32 c) ∧ (∀ i : Nat, i ≠ 94 → i ≠ 95 → i ≠ 96 → i ≠ 97 → i ≠ 98 → m56 48 i = m32 48 i)) → ((M 48 84) + 1 - x4_56) < (n : Int) → Zj κ δ ad rs Q 6 (121, 0, 0) 56 [some (.ref (ad 48)), some (iv t), some (iv z), some (iv x3_56), some (iv x4_56), none] [] m56 := by
          intro n
          induction n with
          | zero => intro x3_56 x4_56 m56 h56 hm56; exfalso; obtain ⟨h56, -⟩ := h56; omega
          | succ n ih56 =>
            intro x3_56 x4_56 m56 h56 hm56
            obtain ⟨h56, f56_0, f56_1⟩ := h56
            try simp only [f56_0, f56_1, f32_0, em27, em22, em17, em12, em7, f2_0, and_true, true_and, or_true, true_or, implies_true, upn, reduceIte, Nat.reduceEqDiff, ne_eq, not_false_eq_true, upc] at h56 hm56
            have cl56 := cn_le (m56 111) 30
            have lk56 := q3 t.toNat (by omega)
            refine Z_iload4 hk dX9_counts_56 ?_
            refine Z_aload0 hk dX9_counts_58 ?_
            refine Z_getI hk fl_9_445 dX9_counts_59 ob_48.1 ob_48.2.1 ob_48.2.2.1 ob_48.2.2.2 ft_9_84 (fun v59 e59 a59 b59 => ?_)
            try simp only [f56_0, f56_1, f32_0, em27, em22, em17, em12, em7, f2_0, and_true, true_and, or_true, true_or, implies_true, upn, reduceIte, Nat.reduceEqDiff, ne_eq, not_false_eq_true, upc] at e59
            refine Z_icmp_gt hk (tgt := 323) dX9_counts_62 (by decide) (by omega) (by omega) (by omega) (by omega) (fun h62 => ?_) (fun h62 => ?_)
            · exact Z_vret hk hA hQ dX9_counts_323 ⟨rfl, rfl, rfl, (by exact ⟨(by (try simp only [f56_0, f56_1, f32_0, em27, em22, em17, em12, em7, f2_0, and_true, true_and, or_true, true_or, implies_true, upn, reduceIte, Nat.reduceEqDiff, ne_eq, not_false_eq_true, upc]) <;> (omega)), (by intro c k0 k1 k2; simp only [f56_0, f56_1, f32_0, em27, em22, em17, em12, em7, f2_0, upc, upn, k0, k1, k2, reduceIte, Nat.reduceEqDiff, ne_eq, not_false_eq_true]), (by intro i k0 k1 k2 k3 k4; simp only [f56_0, f56_1, f32_0, em27, em22, em17, em12, em7, f2_0, upc, upn, k0, k1, k2, k3, k4, reduceIte, Nat.reduceEqDiff, ne_eq, not_false_eq_true])⟩)⟩
            · refine Z_aload0 hk dX9_counts_65 ?_
              refine Z_getI hk fl_9_511 dX9_counts_66 ob_48.1 ob_48.2.1 ob_48.2.2.1 ob_48.2.2.2 ft_9_97 (fun v66 e66 a66 b66 => ?_)
              try simp only [f56_0, f56_1, f32_0, em27, em22, em17, em12, em7, f2_0, e59, and_true, true_and, or_true, true_or, implies_true, upn, reduceIte, Nat.reduceEqDiff, ne_eq, not_false_eq_true, upc] at e66
              have J76 : ∀ (_ : Unit), (True) → Zj κ δ ad rs Q 6 (121, 0, 0) 76 [some (.ref (ad 48)), some (iv t), some (iv z), some (iv x3_56), some (iv x4_56), none] [] m56 := by
                intro _ h76
                try simp only [f56_0, f56_1, f32_0, em27, em22, em17, em12, em7, f2_0, and_true, true_and, or_true, true_or, implies_true, upn, reduceIte, Nat.reduceEqDiff, ne_eq, not_false_eq_true, upc] at h76
                refine Z_aload0 hk dX9_counts_76 ?_
                refine Z_getR hk fl_9_188 dX9_counts_77 ob_48.1 ob_48.2.1 ob_48.2.2.1 ob_48.2.2.2 ft_9_85 rs_48_85 ?_
                refine Z_iload4 hk dX9_counts_80 ?_
                refine Z_iald hk dX9_counts_82 ar_104.1 ar_104.2.1 ar_104.2.2 (by omega) (by omega) (fun v82 e82 a82 b82 => ?_)
                try simp only [f56_0, f56_1, f32_0, em27, em22, em17, em12, em7, f2_0, e59, e66, and_true, true_and, or_true, true_or, implies_true, upn, reduceIte, Nat.reduceEqDiff, ne_eq, not_false_eq_true, upc] at e82
                refine Z_iconst hk dX9_counts_83 ?_
                have J317 : ∀ (x3_317 : Int) (m317 : Mem), (((0 ≤ x3_317 ∧ x3_317 ≤ M 97 t.toNat ∧ 0 ≤ (m317 48 94) ∧ 0 ≤ (m317 48 95) ∧ 0 ≤ (m317 48 96) ∧ 0 ≤ (m317 48 98)) ∧ (m317 48 94) + (m317 48 95) + (m317 48 96) + (m317 48 98) ≤ (cn (m317 111) 30 : Int)) ∧ (∀ c : Nat, c ≠ 111 → c ≠ 48 → m317 c = m56 c) ∧ (∀ i : Nat, i ≠ 94 → i ≠ 95 → i ≠ 96 → i ≠ 97 → i ≠ 98 → m317 48 i = m56 48 i)) → Zj κ δ ad rs Q 6 (121, 0, 0) 317 [some (.ref (ad 48)), some (iv t), some (iv z), some (iv x3_317), some (iv x4_56), none] [] m317 := by
                  intro x3_317 m317 h317
                  obtain ⟨h317, f317_0, f317_1⟩ := h317
                  try simp only [f317_0, f317_1, f56_0, f56_1, f32_0, em27, em22, em17, em12, em7, f2_0, and_true, true_and, or_true, true_or, implies_true, upn, reduceIte, Nat.reduceEqDiff, ne_eq, not_false_eq_true, upc] at h317
                  refine Z_iinc4 hk rfl (by decide) dX9_counts_317 ?_
                  refine Z_goto hk (tgt := 56) dX9_counts_320 (by decide) ?_
                  exact ih56 _ _ _ (by exact ⟨(by (exact ⟨(by (try simp only [f317_0, f317_1, f56_0, f56_1, f32_0, em27, em22, em17, em12, em7, f2_0, e59, e66, e82, and_true, true_and, or_true, true_or, implies_true, upn, reduceIte, Nat.reduceEqDiff, ne_eq, not_false_eq_true, upc, upc]) <;> omega), (by (try simp only [f317_0, f317_1, f56_0, f56_1, f32_0, em27, em22, em17, em12, em7, f2_0, e59, e66, e82, and_true, true_and, or_true, true_or, implies_true, upn, reduceIte, Nat.reduceEqDiff, ne_eq, not_false_eq_true, upc, upc]) <;> omega)⟩)), (by intro c k0 k1; simp only [f317_0, f317_1, f56_0, f56_1, f32_0, em27, em22, em17, em12, em7, f2_0, upc, upn, k0, k1, reduceIte, Nat.reduceEqDiff, ne_eq, not_false_eq_true]), (by intro i k0 k1 k2 k3 k4; simp only [f317_0, f317_1, f56_0, f56_1, f32_0, em27, em22, em17, em12, em7, f2_0, upc, upn, k0, k1, k2, k3, k4, reduceIte, Nat.reduceEqDiff, ne_eq, not_false_eq_true])⟩) (by (try simp only [f317_0, f317_1, f56_0, f56_1, f32_0, em27, em22, em17, em12, em7, f2_0, and_true, true_and, or_true, true_or, implies_true, upn, reduceIte, Nat.reduceEqDiff, ne_eq, not_false_eq_true, upc]) <;> (omega))
                refine Z_icmp_ne hk (tgt := 317) dX9_counts_84 (by decide) (by omega) (by omega) (by decide) (by decide) (fun h84 => ?_) (fun h84 => ?_)
                · exact J317 _ _ (by exact ⟨(by (exact ⟨(by (try simp only [f56_0, f56_1, f32_0, em27, em22, em17, em12, em7, f2_0, e59, e66, e82, and_true, true_and, or_true, true_or, implies_true, upn, reduceIte, Nat.reduceEqDiff, ne_eq, not_false_eq_true, upc, upc]) <;> omega), (by (try simp only [f56_0, f56_1, f32_0, em27, em22, em17, em12, em7, f2_0, e59, e66, e82, and_true, true_and, or_true, true_or, implies_true, upn, reduceIte, Nat.reduceEqDiff, ne_eq, not_false_eq_true, upc, upc]) <;> omega)⟩)), (by intro c k0 k1; simp only [f56_0, f56_1, f32_0, em27, em22, em17, em12, em7, f2_0, upc, upn, k0, k1, reduceIte, Nat.reduceEqDiff, ne_eq, not_false_eq_true]), (by intro i k0 k1 k2 k3 k4; simp only [f56_0, f56_1, f32_0, em27, em22, em17, em12, em7, f2_0, upc, upn, k0, k1, k2, k3, k4, reduceIte, Nat.reduceEqDiff, ne_eq, not_false_eq_true])⟩)
                · refine Z_aload0 hk dX9_counts_87 ?_
                  refine Z_getR hk fl_9_191 dX9_counts_88 ob_48.1 ob_48.2.1 ob_48.2.2.1 ob_48.2.2.2 ft_9_86 rs_48_86 ?_
                  refine Z_iload4 hk dX9_counts_91 ?_
                  refine Z_iald hk dX9_counts_93 ar_105.1 ar_105.2.1 ar_105.2.2 (by omega) (by omega) (fun v93 e93 a93 b93 => ?_)
                  try simp only [f56_0, f56_1, f32_0, em27, em22, em17, em12, em7, f2_0, e59, e66, e82, and_true, true_and, or_true, true_or, implies_true, upn, reduceIte, Nat.reduceEqDiff, ne_eq, not_false_eq_true, upc] at e93
                  refine Z_iload1 hk dX9_counts_94 ?_
                  refine Z_icmp_ne hk (tgt := 317) dX9_counts_95 (by decide) (by omega) (by omega) (by omega) (by omega) (fun h95 => ?_) (fun h95 => ?_)
                  · exact J317 _ _ (by exact ⟨(by (exact ⟨(by (try simp only [f56_0, f56_1, f32_0, em27, em22, em17, em12, em7, f2_0, e59, e66, e82, e93, and_true, true_and, or_true, true_or, implies_true, upn, reduceIte, Nat.reduceEqDiff, ne_eq, not_false_eq_true, upc, upc]) <;> omega), (by (try simp only [f56_0, f56_1, f32_0, em27, em22, em17, em12, em7, f2_0, e59, e66, e82, e93, and_true, true_and, or_true, true_or, implies_true, upn, reduceIte, Nat.reduceEqDiff, ne_eq, not_false_eq_true, upc, upc]) <;> omega)⟩)), (by intro c k0 k1; simp only [f56_0, f56_1, f32_0, em27, em22, em17, em12, em7, f2_0, upc, upn, k0, k1, reduceIte, Nat.reduceEqDiff, ne_eq, not_false_eq_true]), (by intro i k0 k1 k2 k3 k4; simp only [f56_0, f56_1, f32_0, em27, em22, em17, em12, em7, f2_0, upc, upn, k0, k1, k2, k3, k4, reduceIte, Nat.reduceEqDiff, ne_eq, not_false_eq_true])⟩)
                  · refine Z_aload0 hk dX9_counts_98 ?_
                    refine Z_iload4 hk dX9_counts_99 ?_
                    refine Z_Vi hk (c_X9_isKnown κ.2.1 δ ad _ hA x4_56 (by (try simp only [f56_0, f56_1, f32_0, em27, em22, em17, em12, em7, f2_0, and_true, true_and, or_true, true_or, implies_true, upn, reduceIte, Nat.reduceEqDiff, ne_eq, not_false_eq_true, upc]) <;> (omega))) ov_X9_isKnown ml_X9_496 dX9_counts_101 rfl ⟨by decide, by decide⟩ ob_48.1 (by decide) (by decide) rfl (Nat.le_of_ble_eq_true rfl) (fun r101 m101 p101 => ?_)
                    obtain ⟨rfl, p101⟩ := p101
                    try simp only [f56_0, f56_1, f32_0, em27, em22, em17, em12, em7, f2_0, e59, e66, e82, e93, and_true, true_and, or_true, true_or, implies_true, upn, reduceIte, Nat.reduceEqDiff, ne_eq, not_false_eq_true, upc] at p101
                    refine Z_if_eq hk (tgt := 317) dX9_counts_104 (by decide) (by omega) (by omega) (fun h104 => ?_) (fun h104 => ?_)
                    · exact J317 _ _ (by exact ⟨(by (exact ⟨(by (try simp only [f56_0, f56_1, f32_0, em27, em22, em17, em12, em7, f2_0, e59, e66, e82, e93, and_true, true_and, or_true, true_or, implies_true, upn, reduceIte, Nat.reduceEqDiff, ne_eq, not_false_eq_true, upc, upc]) <;> omega), (by (try simp only [f56_0, f56_1, f32_0, em27, em22, em17, em12, em7, f2_0, e59, e66, e82, e93, and_true, true_and, or_true, true_or, implies_true, upn, reduceIte, Nat.reduceEqDiff, ne_eq, not_false_eq_true, upc, upc]) <;> omega)⟩)), (by intro c k0 k1; simp only [f56_0, f56_1, f32_0, em27, em22, em17, em12, em7, f2_0, upc, upn, k0, k1, reduceIte, Nat.reduceEqDiff, ne_eq, not_false_eq_true]), (by intro i k0 k1 k2 k3 k4; simp only [f56_0, f56_1, f32_0, em27, em22, em17, em12, em7, f2_0, upc, upn, k0, k1, k2, k3, k4, reduceIte, Nat.reduceEqDiff, ne_eq, not_false_eq_true])⟩)
                    · obtain ⟨g107, -, -⟩ := q2 x4_56.toNat (by omega) (by omega)
                      have g107 := g107 (by omega)
                      refine Z_aload0 hk dX9_counts_107 ?_
                      refine Z_getR hk fl_9_212 dX9_counts_108 ob_48.1 ob_48.2.1 ob_48.2.2.1 ob_48.2.2.2 ft_9_99 rs_48_99 ?_
                      refine Z_aload0 hk dX9_counts_111 ?_
                      refine Z_getR hk fl_9_194 dX9_counts_112 ob_48.1 ob_48.2.1 ob_48.2.2.1 ob_48.2.2.2 ft_9_87 rs_48_87 ?_
                      refine Z_iload4 hk dX9_counts_115 ?_
                      refine Z_iald hk dX9_counts_117 ar_106.1 ar_106.2.1 ar_106.2.2 (by omega) (by omega) (fun v117 e117 a117 b117 => ?_)
                      try simp only [f56_0, f56_1, f32_0, em27, em22, em17, em12, em7, f2_0, e59, e66, e82, e93, and_true, true_and, or_true, true_or, implies_true, upn, reduceIte, Nat.reduceEqDiff, ne_eq, not_false_eq_true, upc] at e117
                      refine Z_zald hk dX9_counts_118 ar_111.1 ar_111.2.1 ar_111.2.2 (by omega) (by omega) (fun v118 e118 a118 b118 => ?_)
                      try simp only [f56_0, f56_1, f32_0, em27, em22, em17, em12, em7, f2_0, e59, e66, e82, e93, e117, and_true, true_and, or_true, true_or, implies_true, upn, reduceIte, Nat.reduceEqDiff, ne_eq, not_false_eq_true, upc] at e118
                      refine Z_if_eq hk (tgt := 125) dX9_counts_119 (by decide) (by omega) (by omega) (fun h119 => ?_) (fun h119 => ?_)
                      · refine Z_aload0 hk dX9_counts_125 ?_
                        refine Z_getR hk fl_9_212 dX9_counts_126 ob_48.1 ob_48.2.1 ob_48.2.2.1 ob_48.2.2.2 ft_9_99 rs_48_99 ?_
                        refine Z_aload0 hk dX9_counts_129 ?_
                        refine Z_getR hk fl_9_194 dX9_counts_130 ob_48.1 ob_48.2.1 ob_48.2.2.1 ob_48.2.2.2 ft_9_87 rs_48_87 ?_
                        refine Z_iload4 hk dX9_counts_133 ?_
                        refine Z_iald hk dX9_counts_135 ar_106.1 ar_106.2.1 ar_106.2.2 (by omega) (by omega) (fun v135 e135 a135 b135 => ?_)
                        try simp only [f56_0, f56_1, f32_0, em27, em22, em17, em12, em7, f2_0, e59, e66, e82, e93, e117, e118, and_true, true_and, or_true, true_or, implies_true, upn, reduceIte, Nat.reduceEqDiff, ne_eq, not_false_eq_true, upc] at e135
                        refine Z_iconst hk dX9_counts_136 ?_
                        refine Z_zast hk hA dX9_counts_137 ar_111.1 ar_111.2.1 ar_111.2.2 (by omega) (by omega) (by decide) (by decide) ?_
                        refine Z_nm (fun m137 em137 => ?_)
                        have c138 : cn (m137 111) 30 = cn (m56 111) 30 + 1 := by
                          simp only [em137, f56_0, f56_1, f32_0, em27, em22, em17, em12, em7, f2_0, e59, e66, e82, e93, e117, e118, e135, and_true, true_and, or_true, true_or, implies_true, upn, reduceIte, Nat.reduceEqDiff, ne_eq, not_false_eq_true, upc, upc]
                          exact cn_set (by omega) (by decide) (by omega)
                        refine Z_aload0 hk dX9_counts_138 ?_
                        refine Z_iload1 hk dX9_counts_139 ?_
                        refine Z_aload0 hk dX9_counts_140 ?_
                        refine Z_getR hk fl_9_194 dX9_counts_141 ob_48.1 ob_48.2.1 ob_48.2.2.1 ob_48.2.2.2 ft_9_87 rs_48_87 ?_
                        refine Z_iload4 hk dX9_counts_144 ?_
                        refine Z_iald hk dX9_counts_146 ar_106.1 ar_106.2.1 ar_106.2.2 (by omega) (by omega) (fun v146 e146 a146 b146 => ?_)
                        try simp only [em137, f56_0, f56_1, f32_0, em27, em22, em17, em12, em7, f2_0, e59, e66, e82, e93, e117, e118, e135, and_true, true_and, or_true, true_or, implies_true, upn, reduceIte, Nat.reduceEqDiff, ne_eq, not_false_eq_true, upc] at e146
                        refine Z_Vi hk (c_X9_dueCup κ.2.1 δ ad _ hA t v146 (by (try simp only [em137, f56_0, f56_1, f32_0, em27, em22, em17, em12, em7, f2_0, and_true, true_and, or_true, true_or, implies_true, upn, reduceIte, Nat.reduceEqDiff, ne_eq, not_false_eq_true, upc]) <;> (omega)) (by (try simp only [em137, f56_0, f56_1, f32_0, em27, em22, em17, em12, em7, f2_0, and_true, true_and, or_true, true_or, implies_true, upn, reduceIte, Nat.reduceEqDiff, ne_eq, not_false_eq_true, upc]) <;> (omega))) ov_X9_dueCup ml_X9_517 dX9_counts_147 rfl ⟨by decide, by decide⟩ ob_48.1 (by decide) (by decide) rfl (Nat.le_of_ble_eq_true rfl) (fun r147 m147 p147 => ?_)
                        obtain ⟨rfl, p147⟩ := p147
                        try simp only [em137, f56_0, f56_1, f32_0, em27, em22, em17, em12, em7, f2_0, e59, e66, e82, e93, e117, e118, e135, e146, and_true, true_and, or_true, true_or, implies_true, upn, reduceIte, Nat.reduceEqDiff, ne_eq, not_false_eq_true, upc] at p147
                        refine Z_istore5 hk rfl (by decide) dX9_counts_150 ?_
                        refine Z_iload5 hk dX9_counts_152 ?_
                        refine Z_iconst hk dX9_counts_154 ?_
                        refine Z_icmp_ne hk (tgt := 171) dX9_counts_155 (by decide) (by omega) (by omega) (by decide) (by decide) (fun h155 => ?_) (fun h155 => ?_)
                        · refine Z_aload0 hk dX9_counts_171 ?_
                          refine Z_getR hk fl_9_197 dX9_counts_172 ob_48.1 ob_48.2.1 ob_48.2.2.1 ob_48.2.2.2 ft_9_88 rs_48_88 ?_
                          refine Z_iload4 hk dX9_counts_175 ?_
                          refine Z_iald hk dX9_counts_177 ar_107.1 ar_107.2.1 ar_107.2.2 (by omega) (by omega) (fun v177 e177 a177 b177 => ?_)
                          try simp only [em137, f56_0, f56_1, f32_0, em27, em22, em17, em12, em7, f2_0, e59, e66, e82, e93, e117, e118, e135, e146, and_true, true_and, or_true, true_or, implies_true, upn, reduceIte, Nat.reduceEqDiff, ne_eq, not_false_eq_true, upc] at e177
                          refine Z_iconst hk dX9_counts_178 ?_
                          have J230 : ∀ (m230 : Mem), (((0 ≤ (m230 48 94) ∧ 0 ≤ (m230 48 95) ∧ 0 ≤ (m230 48 96) ∧ 0 ≤ (m230 48 98)) ∧ (m230 48 94) + (m230 48 95) + (m230 48 96) + (m230 48 98) ≤ (cn (m230 111) 30 : Int)) ∧ (∀ c : Nat, c ≠ 48 → m230 c = m137 c) ∧ (∀ i : Nat, i ≠ 94 → i ≠ 95 → i ≠ 96 → m230 48 i = m137 48 i)) → Zj κ δ ad rs Q 6 (121, 0, 0) 230 [some (.ref (ad 48)), some (iv t), some (iv z), some (iv x3_56), some (iv x4_56), some (iv r147)] [] m230 := by
                            intro m230 h230
                            obtain ⟨h230, f230_0, f230_1⟩ := h230
                            try simp only [f230_0, f230_1, em137, f56_0, f56_1, f32_0, em27, em22, em17, em12, em7, f2_0, and_true, true_and, or_true, true_or, implies_true, upn, reduceIte, Nat.reduceEqDiff, ne_eq, not_false_eq_true, upc] at h230
                            have cl230 := cn_le (m230 111) 30
                            try simp only [f230_0, f230_1, em137, f56_0, f56_1, f32_0, em27, em22, em17, em12, em7, f2_0, e59, e66, e82, e93, e117, e118, e135, e146, e177, and_true, true_and, or_true, true_or, implies_true, upn, reduceIte, Nat.reduceEqDiff, ne_eq, not_false_eq_true, upc, upc] at cl230
                            try simp only [f230_0, f230_1, em137, f56_0, f56_1, f32_0, em27, em22, em17, em12, em7, f2_0, e59, e66, e82, e93, e117, e118, e135, e146, e177, and_true, true_and, or_true, true_or, implies_true, upn, reduceIte, Nat.reduceEqDiff, ne_eq, not_false_eq_true, upc, upc] at h230
                            refine Z_iload2 hk dX9_counts_230 ?_
                            refine Z_if_eq hk (tgt := 317) dX9_counts_231 (by decide) (by omega) (by omega) (fun h231 => ?_) (fun h231 => ?_)
                            · refine Z_drop5 ?_
                              exact J317 _ _ (by exact ⟨(by (exact ⟨(by (try simp only [f230_0, f230_1, em137, f56_0, f56_1, f32_0, em27, em22, em17, em12, em7, f2_0, e59, e66, e82, e93, e117, e118, e135, e146, e177, and_true, true_and, or_true, true_or, implies_true, upn, reduceIte, Nat.reduceEqDiff, ne_eq, not_false_eq_true, upc, upc]) <;> omega), (by (try simp only [f230_0, f230_1, em137, f56_0, f56_1, f32_0, em27, em22, em17, em12, em7, f2_0, e59, e66, e82, e93, e117, e118, e135, e146, e177, and_true, true_and, or_true, true_or, implies_true, upn, reduceIte, Nat.reduceEqDiff, ne_eq, not_false_eq_true, upc, upc]) <;> omega)⟩)), (by intro c k0 k1; simp only [f230_0, f230_1, em137, f56_0, f56_1, f32_0, em27, em22, em17, em12, em7, f2_0, upc, upn, k0, k1, reduceIte, Nat.reduceEqDiff, ne_eq, not_false_eq_true]), (by intro i k0 k1 k2 k3 k4; simp only [f230_0, f230_1, em137, f56_0, f56_1, f32_0, em27, em22, em17, em12, em7, f2_0, upc, upn, k0, k1, k2, k3, k4, reduceIte, Nat.reduceEqDiff, ne_eq, not_false_eq_true])⟩)
                            · refine Z_iload3 hk dX9_counts_234 ?_
                              refine Z_aload0 hk dX9_counts_235 ?_
                              refine Z_getR hk fl_9_161 dX9_counts_236 ob_48.1 ob_48.2.1 ob_48.2.2.1 ob_48.2.2.2 ft_9_70 rs_48_70 ?_
                              refine Z_iload1 hk dX9_counts_239 ?_
                              refine Z_iald hk dX9_counts_240 ar_97.1 ar_97.2.1 ar_97.2.2 (by omega) (by omega) (fun v240 e240 a240 b240 => ?_)
                              try simp only [f230_0, f230_1, em137, f56_0, f56_1, f32_0, em27, em22, em17, em12, em7, f2_0, e59, e66, e82, e93, e117, e118, e135, e146, e177, and_true, true_and, or_true, true_or, implies_true, upn, reduceIte, Nat.reduceEqDiff, ne_eq, not_false_eq_true, upc] at e240
                              refine Z_icmp_eq hk (tgt := 317) dX9_counts_241 (by decide) (by omega) (by omega) (by omega) (by omega) (fun h241 => ?_) (fun h241 => ?_)
                              · refine Z_drop5 ?_
                                exact J317 _ _ (by exact ⟨(by (exact ⟨(by (try simp only [f230_0, f230_1, em137, f56_0, f56_1, f32_0, em27, em22, em17, em12, em7, f2_0, e59, e66, e82, e93, e117, e118, e135, e146, e177, e240, and_true, true_and, or_true, true_or, implies_true, upn, reduceIte, Nat.reduceEqDiff, ne_eq, not_false_eq_true, upc, upc]) <;> omega), (by (try simp only [f230_0, f230_1, em137, f56_0, f56_1, f32_0, em27, em22, em17, em12, em7, f2_0, e59, e66, e82, e93, e117, e118, e135, e146, e177, e240, and_true, true_and, or_true, true_or, implies_true, upn, reduceIte, Nat.reduceEqDiff, ne_eq, not_false_eq_true, upc, upc]) <;> omega)⟩)), (by intro c k0 k1; simp only [f230_0, f230_1, em137, f56_0, f56_1, f32_0, em27, em22, em17, em12, em7, f2_0, upc, upn, k0, k1, reduceIte, Nat.reduceEqDiff, ne_eq, not_false_eq_true]), (by intro i k0 k1 k2 k3 k4; simp only [f230_0, f230_1, em137, f56_0, f56_1, f32_0, em27, em22, em17, em12, em7, f2_0, upc, upn, k0, k1, k2, k3, k4, reduceIte, Nat.reduceEqDiff, ne_eq, not_false_eq_true])⟩)
                              · refine Z_aload0 hk dX9_counts_244 ?_
                                refine Z_getR hk fl_9_164 dX9_counts_245 ob_48.1 ob_48.2.1 ob_48.2.2.1 ob_48.2.2.2 ft_9_71 rs_48_71 ?_
                                refine Z_iconst hk dX9_counts_248 ?_
                                refine Z_iload1 hk dX9_counts_249 ?_
                                refine Z_imul hk dX9_counts_250 ?_
                                refine Z_iload3 hk dX9_counts_251 ?_
                                refine Z_iadd hk dX9_counts_252 ?_
                                refine Z_iald hk dX9_counts_253 ar_98.1 ar_98.2.1 ar_98.2.2 (by omega) (by omega) (fun v253 e253 a253 b253 => ?_)
                                try simp only [f230_0, f230_1, em137, f56_0, f56_1, f32_0, em27, em22, em17, em12, em7, f2_0, e59, e66, e82, e93, e117, e118, e135, e146, e177, e240, and_true, true_and, or_true, true_or, implies_true, upn, reduceIte, Nat.reduceEqDiff, ne_eq, not_false_eq_true, upc] at e253
                                refine Z_aload0 hk dX9_counts_254 ?_
                                refine Z_Vi hk (c_X9_ofN κ.2.1 δ ad _ hA  (by (try simp only [f230_0, f230_1, em137, f56_0, f56_1, f32_0, em27, em22, em17, em12, em7, f2_0, and_true, true_and, or_true, true_or, implies_true, upn, reduceIte, Nat.reduceEqDiff, ne_eq, not_false_eq_true, upc]) <;> (omega))) ov_X9_ofN ml_X9_520 dX9_counts_255 rfl ⟨by decide, by decide⟩ ob_48.1 (by decide) (by decide) rfl (Nat.le_of_ble_eq_true rfl) (fun r255 m255 p255 => ?_)
                                obtain ⟨rfl, p255⟩ := p255
                                try simp only [f230_0, f230_1, em137, f56_0, f56_1, f32_0, em27, em22, em17, em12, em7, f2_0, e59, e66, e82, e93, e117, e118, e135, e146, e177, e240, e253, and_true, true_and, or_true, true_or, implies_true, upn, reduceIte, Nat.reduceEqDiff, ne_eq, not_false_eq_true, upc] at p255
                                refine Z_icmp_eq hk (tgt := 264) dX9_counts_258 (by decide) (by omega) (by omega) (by omega) (by omega) (fun h258 => ?_) (fun h258 => ?_)
                                · refine Z_aload0 hk dX9_counts_264 ?_
                                  refine Z_getR hk fl_9_152 dX9_counts_265 ob_48.1 ob_48.2.1 ob_48.2.2.1 ob_48.2.2.2 ft_9_67 rs_48_67 ?_
                                  refine Z_iload1 hk dX9_counts_268 ?_
                                  refine Z_zald hk dX9_counts_269 ar_94.1 ar_94.2.1 ar_94.2.2 (by omega) (by omega) (fun v269 e269 a269 b269 => ?_)
                                  try simp only [f230_0, f230_1, em137, f56_0, f56_1, f32_0, em27, em22, em17, em12, em7, f2_0, e59, e66, e82, e93, e117, e118, e135, e146, e177, e240, e253, and_true, true_and, or_true, true_or, implies_true, upn, reduceIte, Nat.reduceEqDiff, ne_eq, not_false_eq_true, upc] at e269
                                  refine Z_aload0 hk dX9_counts_270 ?_
                                  refine Z_iload1 hk dX9_counts_271 ?_
                                  refine Z_Vi hk (c_X9_ofK κ.2.1 δ ad _ hA t (by (try simp only [f230_0, f230_1, em137, f56_0, f56_1, f32_0, em27, em22, em17, em12, em7, f2_0, and_true, true_and, or_true, true_or, implies_true, upn, reduceIte, Nat.reduceEqDiff, ne_eq, not_false_eq_true, upc]) <;> (omega)) (by (try simp only [f230_0, f230_1, em137, f56_0, f56_1, f32_0, em27, em22, em17, em12, em7, f2_0, and_true, true_and, or_true, true_or, implies_true, upn, reduceIte, Nat.reduceEqDiff, ne_eq, not_false_eq_true, upc]) <;> (omega))) ov_X9_ofK ml_X9_523 dX9_counts_272 rfl ⟨by decide, by decide⟩ ob_48.1 (by decide) (by decide) rfl (Nat.le_of_ble_eq_true rfl) (fun r272 m272 p272 => ?_)
                                  obtain ⟨rfl, p272⟩ := p272
                                  try simp only [f230_0, f230_1, em137, f56_0, f56_1, f32_0, em27, em22, em17, em12, em7, f2_0, e59, e66, e82, e93, e117, e118, e135, e146, e177, e240, e253, e269, and_true, true_and, or_true, true_or, implies_true, upn, reduceIte, Nat.reduceEqDiff, ne_eq, not_false_eq_true, upc] at p272
                                  refine Z_aload0 hk dX9_counts_275 ?_
                                  refine Z_Vi hk (c_X9_ofN κ.2.1 δ ad _ hA  (by (try simp only [f230_0, f230_1, em137, f56_0, f56_1, f32_0, em27, em22, em17, em12, em7, f2_0, and_true, true_and, or_true, true_or, implies_true, upn, reduceIte, Nat.reduceEqDiff, ne_eq, not_false_eq_true, upc]) <;> (omega))) ov_X9_ofN ml_X9_520 dX9_counts_276 rfl ⟨by decide, by decide⟩ ob_48.1 (by decide) (by decide) rfl (Nat.le_of_ble_eq_true rfl) (fun r276 m276 p276 => ?_)
                                  obtain ⟨rfl, p276⟩ := p276
                                  try simp only [f230_0, f230_1, em137, f56_0, f56_1, f32_0, em27, em22, em17, em12, em7, f2_0, e59, e66, e82, e93, e117, e118, e135, e146, e177, e240, e253, e269, and_true, true_and, or_true, true_or, implies_true, upn, reduceIte, Nat.reduceEqDiff, ne_eq, not_false_eq_true, upc] at p276
                                  refine Z_aload0 hk dX9_counts_279 ?_
                                  refine Z_getR hk fl_9_167 dX9_counts_280 ob_48.1 ob_48.2.1 ob_48.2.2.1 ob_48.2.2.2 ft_9_72 rs_48_72 ?_
                                  refine Z_iconst hk dX9_counts_283 ?_
                                  refine Z_iload1 hk dX9_counts_284 ?_
                                  refine Z_imul hk dX9_counts_285 ?_
                                  refine Z_iload3 hk dX9_counts_286 ?_
                                  refine Z_iadd hk dX9_counts_287 ?_
                                  refine Z_iald hk dX9_counts_288 ar_99.1 ar_99.2.1 ar_99.2.2 (by omega) (by omega) (fun v288 e288 a288 b288 => ?_)
                                  try simp only [f230_0, f230_1, em137, f56_0, f56_1, f32_0, em27, em22, em17, em12, em7, f2_0, e59, e66, e82, e93, e117, e118, e135, e146, e177, e240, e253, e269, and_true, true_and, or_true, true_or, implies_true, upn, reduceIte, Nat.reduceEqDiff, ne_eq, not_false_eq_true, upc] at e288
                                  have kb1 := q4 (5 * t + x3_56).toNat (by omega)
                                  refine Z_i2l hk dX9_counts_289 (by omega) (by omega) ?_
                                  refine Z_aload0 hk dX9_counts_290 ?_
                                  refine Z_getR hk fl_9_170 dX9_counts_291 ob_48.1 ob_48.2.1 ob_48.2.2.1 ob_48.2.2.2 ft_9_73 rs_48_73 ?_
                                  refine Z_iconst hk dX9_counts_294 ?_
                                  refine Z_iload1 hk dX9_counts_295 ?_
                                  refine Z_imul hk dX9_counts_296 ?_
                                  refine Z_iload3 hk dX9_counts_297 ?_
                                  refine Z_iadd hk dX9_counts_298 ?_
                                  refine Z_iald hk dX9_counts_299 ar_100.1 ar_100.2.1 ar_100.2.2 (by omega) (by omega) (fun v299 e299 a299 b299 => ?_)
                                  try simp only [f230_0, f230_1, em137, f56_0, f56_1, f32_0, em27, em22, em17, em12, em7, f2_0, e59, e66, e82, e93, e117, e118, e135, e146, e177, e240, e253, e269, e288, and_true, true_and, or_true, true_or, implies_true, upn, reduceIte, Nat.reduceEqDiff, ne_eq, not_false_eq_true, upc] at e299
                                  have kb2 := q5 (5 * t + x3_56).toNat (by omega)
                                  refine Z_i2l hk dX9_counts_300 (by omega) (by omega) ?_
                                  refine Z_Si hk (c_X9_isBelow κ.2.1 δ ad _ hA v269 r272 r276 v288 v299 (by (try simp only [f230_0, f230_1, em137, f56_0, f56_1, f32_0, em27, em22, em17, em12, em7, f2_0, and_true, true_and, or_true, true_or, implies_true, upn, reduceIte, Nat.reduceEqDiff, ne_eq, not_false_eq_true, upc]) <;> (omega)) (by (try simp only [f230_0, f230_1, em137, f56_0, f56_1, f32_0, em27, em22, em17, em12, em7, f2_0, and_true, true_and, or_true, true_or, implies_true, upn, reduceIte, Nat.reduceEqDiff, ne_eq, not_false_eq_true, upc]) <;> (omega)) (by (try simp only [f230_0, f230_1, em137, f56_0, f56_1, f32_0, em27, em22, em17, em12, em7, f2_0, and_true, true_and, or_true, true_or, implies_true, upn, reduceIte, Nat.reduceEqDiff, ne_eq, not_false_eq_true, upc]) <;> (omega))) os_X9_isBelow ml_X9_526 dX9_counts_301 rfl ⟨by decide, by decide⟩ rfl (Nat.le_of_ble_eq_true rfl) (fun r301 m301 p301 => ?_)
                                  obtain ⟨rfl, p301⟩ := p301
                                  try simp only [f230_0, f230_1, em137, f56_0, f56_1, f32_0, em27, em22, em17, em12, em7, f2_0, e59, e66, e82, e93, e117, e118, e135, e146, e177, e240, e253, e269, e288, e299, and_true, true_and, or_true, true_or, implies_true, upn, reduceIte, Nat.reduceEqDiff, ne_eq, not_false_eq_true, upc] at p301
                                  have J314 : ∀ (m314 : Mem), ((True) ∧ (∀ c : Nat, c ≠ 48 → m314 c = m230 c) ∧ (∀ i : Nat, i ≠ 97 → m314 48 i = m230 48 i)) → Zj κ δ ad rs Q 6 (121, 0, 0) 314 [some (.ref (ad 48)), some (iv t), some (iv z), some (iv x3_56), some (iv x4_56), some (iv r147)] [] m314 := by
                                    intro m314 h314
                                    obtain ⟨h314, f314_0, f314_1⟩ := h314
                                    try simp only [f314_0, f314_1, f230_0, f230_1, em137, f56_0, f56_1, f32_0, em27, em22, em17, em12, em7, f2_0, and_true, true_and, or_true, true_or, implies_true, upn, reduceIte, Nat.reduceEqDiff, ne_eq, not_false_eq_true, upc] at h314
                                    refine Z_iinc3 hk rfl (by decide) dX9_counts_314 ?_
                                    refine Z_drop5 ?_
                                    exact J317 _ _ (by exact ⟨(by (exact ⟨(by (try simp only [f314_0, f314_1, f230_0, f230_1, em137, f56_0, f56_1, f32_0, em27, em22, em17, em12, em7, f2_0, e59, e66, e82, e93, e117, e118, e135, e146, e177, e240, e253, e269, e288, e299, and_true, true_and, or_true, true_or, implies_true, upn, reduceIte, Nat.reduceEqDiff, ne_eq, not_false_eq_true, upc, upc]) <;> omega), (by (try simp only [f314_0, f314_1, f230_0, f230_1, em137, f56_0, f56_1, f32_0, em27, em22, em17, em12, em7, f2_0, e59, e66, e82, e93, e117, e118, e135, e146, e177, e240, e253, e269, e288, e299, and_true, true_and, or_true, true_or, implies_true, upn, reduceIte, Nat.reduceEqDiff, ne_eq, not_false_eq_true, upc, upc]) <;> omega)⟩)), (by intro c k0 k1; simp only [f314_0, f314_1, f230_0, f230_1, em137, f56_0, f56_1, f32_0, em27, em22, em17, em12, em7, f2_0, upc, upn, k0, k1, reduceIte, Nat.reduceEqDiff, ne_eq, not_false_eq_true]), (by intro i k0 k1 k2 k3 k4; simp only [f314_0, f314_1, f230_0, f230_1, em137, f56_0, f56_1, f32_0, em27, em22, em17, em12, em7, f2_0, upc, upn, k0, k1, k2, k3, k4, reduceIte, Nat.reduceEqDiff, ne_eq, not_false_eq_true])⟩)
                                  refine Z_if_eq hk (tgt := 314) dX9_counts_304 (by decide) (by omega) (by omega) (fun h304 => ?_) (fun h304 => ?_)
                                  · exact J314 _ (by exact ⟨(by (try simp only [f230_0, f230_1, em137, f56_0, f56_1, f32_0, em27, em22, em17, em12, em7, f2_0, and_true, true_and, or_true, true_or, implies_true, upn, reduceIte, Nat.reduceEqDiff, ne_eq, not_false_eq_true, upc]) <;> (trivial)), (by intro c k0; simp only [f230_0, f230_1, em137, f56_0, f56_1, f32_0, em27, em22, em17, em12, em7, f2_0, upc, upn, k0, reduceIte, Nat.reduceEqDiff, ne_eq, not_false_eq_true]), (by intro i k0; simp only [f230_0, f230_1, em137, f56_0, f56_1, f32_0, em27, em22, em17, em12, em7, f2_0, upc, upn, k0, reduceIte, Nat.reduceEqDiff, ne_eq, not_false_eq_true])⟩)
                                  · refine Z_aload0 hk dX9_counts_307 ?_
                                    refine Z_iload3 hk dX9_counts_308 ?_
                                    refine Z_iconst hk dX9_counts_309 ?_
                                    refine Z_iadd hk dX9_counts_310 ?_
                                    refine Z_putI hk hA fl_9_511 dX9_counts_311 ob_48.1 ob_48.2.1 ob_48.2.2.1 ob_48.2.2.2 ft_9_97 (by omega) (by omega) ?_
                                    refine Z_nm (fun m311 em311 => ?_)
                                    exact J314 _ (by exact ⟨(by (try simp only [em311, f230_0, f230_1, em137, f56_0, f56_1, f32_0, em27, em22, em17, em12, em7, f2_0, and_true, true_and, or_true, true_or, implies_true, upn, reduceIte, Nat.reduceEqDiff, ne_eq, not_false_eq_true, upc]) <;> (trivial)), (by intro c k0; simp only [em311, f230_0, f230_1, em137, f56_0, f56_1, f32_0, em27, em22, em17, em12, em7, f2_0, upc, upn, k0, reduceIte, Nat.reduceEqDiff, ne_eq, not_false_eq_true]), (by intro i k0; simp only [em311, f230_0, f230_1, em137, f56_0, f56_1, f32_0, em27, em22, em17, em12, em7, f2_0, upc, upn, k0, reduceIte, Nat.reduceEqDiff, ne_eq, not_false_eq_true])⟩)
                                · refine Z_goto hk (tgt := 317) dX9_counts_261 (by decide) ?_
                                  refine Z_drop5 ?_
                                  exact J317 _ _ (by exact ⟨(by (exact ⟨(by (try simp only [f230_0, f230_1, em137, f56_0, f56_1, f32_0, em27, em22, em17, em12, em7, f2_0, e59, e66, e82, e93, e117, e118, e135, e146, e177, e240, e253, and_true, true_and, or_true, true_or, implies_true, upn, reduceIte, Nat.reduceEqDiff, ne_eq, not_false_eq_true, upc, upc]) <;> omega), (by (try simp only [f230_0, f230_1, em137, f56_0, f56_1, f32_0, em27, em22, em17, em12, em7, f2_0, e59, e66, e82, e93, e117, e118, e135, e146, e177, e240, e253, and_true, true_and, or_true, true_or, implies_true, upn, reduceIte, Nat.reduceEqDiff, ne_eq, not_false_eq_true, upc, upc]) <;> omega)⟩)), (by intro c k0 k1; simp only [f230_0, f230_1, em137, f56_0, f56_1, f32_0, em27, em22, em17, em12, em7, f2_0, upc, upn, k0, k1, reduceIte, Nat.reduceEqDiff, ne_eq, not_false_eq_true]), (by intro i k0 k1 k2 k3 k4; simp only [f230_0, f230_1, em137, f56_0, f56_1, f32_0, em27, em22, em17, em12, em7, f2_0, upc, upn, k0, k1, k2, k3, k4, reduceIte, Nat.reduceEqDiff, ne_eq, not_false_eq_true])⟩)
                          refine Z_icmp_ne hk (tgt := 195) dX9_counts_179 (by decide) (by omega) (by omega) (by decide) (by decide) (fun h179 => ?_) (fun h179 => ?_)
                          · refine Z_aload0 hk dX9_counts_195 ?_
                            refine Z_getR hk fl_9_197 dX9_counts_196 ob_48.1 ob_48.2.1 ob_48.2.2.1 ob_48.2.2.2 ft_9_88 rs_48_88 ?_
                            refine Z_iload4 hk dX9_counts_199 ?_
                            refine Z_iald hk dX9_counts_201 ar_107.1 ar_107.2.1 ar_107.2.2 (by omega) (by omega) (fun v201 e201 a201 b201 => ?_)
                            try simp only [em137, f56_0, f56_1, f32_0, em27, em22, em17, em12, em7, f2_0, e59, e66, e82, e93, e117, e118, e135, e146, e177, and_true, true_and, or_true, true_or, implies_true, upn, reduceIte, Nat.reduceEqDiff, ne_eq, not_false_eq_true, upc] at e201
                            refine Z_iload5 hk dX9_counts_202 ?_
                            refine Z_icmp_ne hk (tgt := 220) dX9_counts_204 (by decide) (by omega) (by omega) (by omega) (by omega) (fun h204 => ?_) (fun h204 => ?_)
                            · refine Z_aload0 hk dX9_counts_220 ?_
                              refine Z_dup1 hk rfl dX9_counts_221 ?_
                              refine Z_getI hk fl_9_505 dX9_counts_222 ob_48.1 ob_48.2.1 ob_48.2.2.1 ob_48.2.2.2 ft_9_95 (fun v222 e222 a222 b222 => ?_)
                              try simp only [em137, f56_0, f56_1, f32_0, em27, em22, em17, em12, em7, f2_0, e59, e66, e82, e93, e117, e118, e135, e146, e177, e201, and_true, true_and, or_true, true_or, implies_true, upn, reduceIte, Nat.reduceEqDiff, ne_eq, not_false_eq_true, upc] at e222
                              refine Z_iconst hk dX9_counts_225 ?_
                              refine Z_iadd hk dX9_counts_226 ?_
                              refine Z_putI hk hA fl_9_505 dX9_counts_227 ob_48.1 ob_48.2.1 ob_48.2.2.1 ob_48.2.2.2 ft_9_95 (by omega) (by omega) ?_
                              refine Z_nm (fun m227 em227 => ?_)
                              exact J230 _ (by exact ⟨(by (exact ⟨(by (try simp only [em227, em137, f56_0, f56_1, f32_0, em27, em22, em17, em12, em7, f2_0, e59, e66, e82, e93, e117, e118, e135, e146, e177, e201, e222, and_true, true_and, or_true, true_or, implies_true, upn, reduceIte, Nat.reduceEqDiff, ne_eq, not_false_eq_true, upc, upc]) <;> omega), (by have c138' := c138; (try simp only [em227, em137, f56_0, f56_1, f32_0, em27, em22, em17, em12, em7, f2_0, e59, e66, e82, e93, e117, e118, e135, e146, e177, e201, e222, and_true, true_and, or_true, true_or, implies_true, upn, reduceIte, Nat.reduceEqDiff, ne_eq, not_false_eq_true, upc, upc] at c138' ⊢); omega)⟩)), (by intro c k0; simp only [em227, em137, f56_0, f56_1, f32_0, em27, em22, em17, em12, em7, f2_0, upc, upn, k0, reduceIte, Nat.reduceEqDiff, ne_eq, not_false_eq_true]), (by intro i k0 k1 k2; simp only [em227, em137, f56_0, f56_1, f32_0, em27, em22, em17, em12, em7, f2_0, upc, upn, k0, k1, k2, reduceIte, Nat.reduceEqDiff, ne_eq, not_false_eq_true])⟩)
                            · refine Z_aload0 hk dX9_counts_207 ?_
                              refine Z_dup1 hk rfl dX9_counts_208 ?_
                              refine Z_getI hk fl_9_502 dX9_counts_209 ob_48.1 ob_48.2.1 ob_48.2.2.1 ob_48.2.2.2 ft_9_94 (fun v209 e209 a209 b209 => ?_)
                              try simp only [em137, f56_0, f56_1, f32_0, em27, em22, em17, em12, em7, f2_0, e59, e66, e82, e93, e117, e118, e135, e146, e177, e201, and_true, true_and, or_true, true_or, implies_true, upn, reduceIte, Nat.reduceEqDiff, ne_eq, not_false_eq_true, upc] at e209
                              refine Z_iconst hk dX9_counts_212 ?_
                              refine Z_iadd hk dX9_counts_213 ?_
                              refine Z_putI hk hA fl_9_502 dX9_counts_214 ob_48.1 ob_48.2.1 ob_48.2.2.1 ob_48.2.2.2 ft_9_94 (by omega) (by omega) ?_
                              refine Z_nm (fun m214 em214 => ?_)
                              refine Z_goto hk (tgt := 230) dX9_counts_217 (by decide) ?_
                              exact J230 _ (by exact ⟨(by (exact ⟨(by (try simp only [em214, em137, f56_0, f56_1, f32_0, em27, em22, em17, em12, em7, f2_0, e59, e66, e82, e93, e117, e118, e135, e146, e177, e201, e209, and_true, true_and, or_true, true_or, implies_true, upn, reduceIte, Nat.reduceEqDiff, ne_eq, not_false_eq_true, upc, upc]) <;> omega), (by have c138' := c138; (try simp only [em214, em137, f56_0, f56_1, f32_0, em27, em22, em17, em12, em7, f2_0, e59, e66, e82, e93, e117, e118, e135, e146, e177, e201, e209, and_true, true_and, or_true, true_or, implies_true, upn, reduceIte, Nat.reduceEqDiff, ne_eq, not_false_eq_true, upc, upc] at c138' ⊢); omega)⟩)), (by intro c k0; simp only [em214, em137, f56_0, f56_1, f32_0, em27, em22, em17, em12, em7, f2_0, upc, upn, k0, reduceIte, Nat.reduceEqDiff, ne_eq, not_false_eq_true]), (by intro i k0 k1 k2; simp only [em214, em137, f56_0, f56_1, f32_0, em27, em22, em17, em12, em7, f2_0, upc, upn, k0, k1, k2, reduceIte, Nat.reduceEqDiff, ne_eq, not_false_eq_true])⟩)
                          · refine Z_aload0 hk dX9_counts_182 ?_
                            refine Z_dup1 hk rfl dX9_counts_183 ?_
                            refine Z_getI hk fl_9_508 dX9_counts_184 ob_48.1 ob_48.2.1 ob_48.2.2.1 ob_48.2.2.2 ft_9_96 (fun v184 e184 a184 b184 => ?_)
                            try simp only [em137, f56_0, f56_1, f32_0, em27, em22, em17, em12, em7, f2_0, e59, e66, e82, e93, e117, e118, e135, e146, e177, and_true, true_and, or_true, true_or, implies_true, upn, reduceIte, Nat.reduceEqDiff, ne_eq, not_false_eq_true, upc] at e184
                            refine Z_iconst hk dX9_counts_187 ?_
                            refine Z_iadd hk dX9_counts_188 ?_
                            refine Z_putI hk hA fl_9_508 dX9_counts_189 ob_48.1 ob_48.2.1 ob_48.2.2.1 ob_48.2.2.2 ft_9_96 (by omega) (by omega) ?_
                            refine Z_nm (fun m189 em189 => ?_)
                            refine Z_goto hk (tgt := 230) dX9_counts_192 (by decide) ?_
                            exact J230 _ (by exact ⟨(by (exact ⟨(by (try simp only [em189, em137, f56_0, f56_1, f32_0, em27, em22, em17, em12, em7, f2_0, e59, e66, e82, e93, e117, e118, e135, e146, e177, e184, and_true, true_and, or_true, true_or, implies_true, upn, reduceIte, Nat.reduceEqDiff, ne_eq, not_false_eq_true, upc, upc]) <;> omega), (by have c138' := c138; (try simp only [em189, em137, f56_0, f56_1, f32_0, em27, em22, em17, em12, em7, f2_0, e59, e66, e82, e93, e117, e118, e135, e146, e177, e184, and_true, true_and, or_true, true_or, implies_true, upn, reduceIte, Nat.reduceEqDiff, ne_eq, not_false_eq_true, upc, upc] at c138' ⊢); omega)⟩)), (by intro c k0; simp only [em189, em137, f56_0, f56_1, f32_0, em27, em22, em17, em12, em7, f2_0, upc, upn, k0, reduceIte, Nat.reduceEqDiff, ne_eq, not_false_eq_true]), (by intro i k0 k1 k2; simp only [em189, em137, f56_0, f56_1, f32_0, em27, em22, em17, em12, em7, f2_0, upc, upn, k0, k1, k2, reduceIte, Nat.reduceEqDiff, ne_eq, not_false_eq_true])⟩)
                        · refine Z_aload0 hk dX9_counts_158 ?_
                          refine Z_dup1 hk rfl dX9_counts_159 ?_
                          refine Z_getI hk fl_9_514 dX9_counts_160 ob_48.1 ob_48.2.1 ob_48.2.2.1 ob_48.2.2.2 ft_9_98 (fun v160 e160 a160 b160 => ?_)
                          try simp only [em137, f56_0, f56_1, f32_0, em27, em22, em17, em12, em7, f2_0, e59, e66, e82, e93, e117, e118, e135, e146, and_true, true_and, or_true, true_or, implies_true, upn, reduceIte, Nat.reduceEqDiff, ne_eq, not_false_eq_true, upc] at e160
                          refine Z_iconst hk dX9_counts_163 ?_
                          refine Z_iadd hk dX9_counts_164 ?_
                          refine Z_putI hk hA fl_9_514 dX9_counts_165 ob_48.1 ob_48.2.1 ob_48.2.2.1 ob_48.2.2.2 ft_9_98 (by omega) (by omega) ?_
                          refine Z_nm (fun m165 em165 => ?_)
                          refine Z_goto hk (tgt := 317) dX9_counts_168 (by decide) ?_
                          refine Z_drop5 ?_
                          exact J317 _ _ (by exact ⟨(by (exact ⟨(by (try simp only [em165, em137, f56_0, f56_1, f32_0, em27, em22, em17, em12, em7, f2_0, e59, e66, e82, e93, e117, e118, e135, e146, e160, and_true, true_and, or_true, true_or, implies_true, upn, reduceIte, Nat.reduceEqDiff, ne_eq, not_false_eq_true, upc, upc]) <;> omega), (by have c138' := c138; (try simp only [em165, em137, f56_0, f56_1, f32_0, em27, em22, em17, em12, em7, f2_0, e59, e66, e82, e93, e117, e118, e135, e146, e160, and_true, true_and, or_true, true_or, implies_true, upn, reduceIte, Nat.reduceEqDiff, ne_eq, not_false_eq_true, upc, upc] at c138' ⊢); omega)⟩)), (by intro c k0 k1; simp only [em165, em137, f56_0, f56_1, f32_0, em27, em22, em17, em12, em7, f2_0, upc, upn, k0, k1, reduceIte, Nat.reduceEqDiff, ne_eq, not_false_eq_true]), (by intro i k0 k1 k2 k3 k4; simp only [em165, em137, f56_0, f56_1, f32_0, em27, em22, em17, em12, em7, f2_0, upc, upn, k0, k1, k2, k3, k4, reduceIte, Nat.reduceEqDiff, ne_eq, not_false_eq_true])⟩)
                      · refine Z_goto hk (tgt := 317) dX9_counts_122 (by decide) ?_
                        exact J317 _ _ (by exact ⟨(by (exact ⟨(by (try simp only [f56_0, f56_1, f32_0, em27, em22, em17, em12, em7, f2_0, e59, e66, e82, e93, e117, e118, and_true, true_and, or_true, true_or, implies_true, upn, reduceIte, Nat.reduceEqDiff, ne_eq, not_false_eq_true, upc, upc]) <;> omega), (by (try simp only [f56_0, f56_1, f32_0, em27, em22, em17, em12, em7, f2_0, e59, e66, e82, e93, e117, e118, and_true, true_and, or_true, true_or, implies_true, upn, reduceIte, Nat.reduceEqDiff, ne_eq, not_false_eq_true, upc, upc]) <;> omega)⟩)), (by intro c k0 k1; simp only [f56_0, f56_1, f32_0, em27, em22, em17, em12, em7, f2_0, upc, upn, k0, k1, reduceIte, Nat.reduceEqDiff, ne_eq, not_false_eq_true]), (by intro i k0 k1 k2 k3 k4; simp only [f56_0, f56_1, f32_0, em27, em22, em17, em12, em7, f2_0, upc, upn, k0, k1, k2, k3, k4, reduceIte, Nat.reduceEqDiff, ne_eq, not_false_eq_true])⟩)
              refine Z_if_eq hk (tgt := 76) dX9_counts_69 (by decide) (by omega) (by omega) (fun h69 => ?_) (fun h69 => ?_)
              · exact J76 () (by trivial)
              · refine Z_iload2 hk dX9_counts_72 ?_
                refine Z_if_ne hk (tgt := 323) dX9_counts_73 (by decide) (by omega) (by omega) (fun h73 => ?_) (fun h73 => ?_)
                · exact Z_vret hk hA hQ dX9_counts_323 ⟨rfl, rfl, rfl, (by exact ⟨(by (try simp only [f56_0, f56_1, f32_0, em27, em22, em17, em12, em7, f2_0, and_true, true_and, or_true, true_or, implies_true, upn, reduceIte, Nat.reduceEqDiff, ne_eq, not_false_eq_true, upc]) <;> (omega)), (by intro c k0 k1 k2; simp only [f56_0, f56_1, f32_0, em27, em22, em17, em12, em7, f2_0, upc, upn, k0, k1, k2, reduceIte, Nat.reduceEqDiff, ne_eq, not_false_eq_true]), (by intro i k0 k1 k2 k3 k4; simp only [f56_0, f56_1, f32_0, em27, em22, em17, em12, em7, f2_0, upc, upn, k0, k1, k2, k3, k4, reduceIte, Nat.reduceEqDiff, ne_eq, not_false_eq_true])⟩)⟩
                · exact J76 () (by trivial)
        refine Z_istore4 hk rfl (by decide) dX9_counts_54 ?_
        exact J56 ((((M 48 84) + 1 - 1) : Int).toNat + 1) _ _ _ (by exact ⟨(by (exact ⟨(by have lk := q3 t.toNat (by omega); (try simp only [f32_0, em27, em22, em17, em12, em7, f2_0, and_true, true_and, or_true, true_or, implies_true, upn, reduceIte, Nat.reduceEqDiff, ne_eq, not_false_eq_true, upc, upc]) <;> omega), (by (try simp only [f32_0, em27, em22, em17, em12, em7, f2_0, and_true, true_and, or_true, true_or, implies_true, upn, reduceIte, Nat.reduceEqDiff, ne_eq, not_false_eq_true, upc, upc]) <;> omega)⟩)), (by intro c k0 k1; simp only [f32_0, em27, em22, em17, em12, em7, f2_0, upc, upn, k0, k1, reduceIte, Nat.reduceEqDiff, ne_eq, not_false_eq_true]), (by intro i k0 k1 k2 k3 k4; simp only [f32_0, em27, em22, em17, em12, em7, f2_0, upc, upn, k0, k1, k2, k3, k4, reduceIte, Nat.reduceEqDiff, ne_eq, not_false_eq_true])⟩) (by omega)
      · refine Z_aload0 hk dX9_counts_38 ?_
        refine Z_getR hk fl_9_212 dX9_counts_39 ob_48.1 ob_48.2.1 ob_48.2.2.1 ob_48.2.2.2 ft_9_99 rs_48_99 ?_
        refine Z_iload3 hk dX9_counts_42 ?_
        refine Z_iconst hk dX9_counts_43 ?_
        refine Z_zast hk hA dX9_counts_44 ar_111.1 ar_111.2.1 ar_111.2.2 (by omega) (by omega) (by decide) (by decide) ?_
        refine Z_nm (fun m44 em44 => ?_)
        refine Z_iinc3 hk rfl (by decide) dX9_counts_45 ?_
        refine Z_goto hk (tgt := 32) dX9_counts_48 (by decide) ?_
        exact ih32 _ _ (by exact ⟨(by (exact ⟨by omega, fun j hj => by simp only [em44, f32_0, em27, em22, em17, em12, em7, f2_0, and_true, true_and, or_true, true_or, implies_true, upn, reduceIte, Nat.reduceEqDiff, ne_eq, not_false_eq_true, upc, upc]; split; rfl; exact h32.2 j (by omega)⟩)), (by intro c k0; simp only [em44, f32_0, em27, em22, em17, em12, em7, f2_0, upc, upn, k0, reduceIte, Nat.reduceEqDiff, ne_eq, not_false_eq_true])⟩) (by (try simp only [em44, f32_0, em27, em22, em17, em12, em7, f2_0, and_true, true_and, or_true, true_or, implies_true, upn, reduceIte, Nat.reduceEqDiff, ne_eq, not_false_eq_true, upc]) <;> (omega))
  refine Z_istore3 hk rfl (by decide) dX9_counts_31 ?_
  exact J32 (((30 - 0) : Int).toNat + 1) _ _ (by exact ⟨(by (exact ⟨by omega, fun j hj => by omega⟩)), (by intro c k0; simp only [em27, em22, em17, em12, em7, f2_0, upc, upn, k0, reduceIte, Nat.reduceEqDiff, ne_eq, not_false_eq_true])⟩) (by omega)
