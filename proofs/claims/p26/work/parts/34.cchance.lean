theorem land_in (x : Int64) : 0 ≤ (x &&& Int64.ofInt 2147483647).toInt ∧ (x &&& Int64.ofInt 2147483647).toInt ≤ 2147483647 := by
  have h : (x &&& Int64.ofInt 2147483647).toBitVec.toNat ≤ 2147483647 := by
    rw [Int64.toBitVec_and, BitVec.toNat_and]
    exact Nat.le_trans Nat.and_le_right (by decide)
  have e : (x &&& Int64.ofInt 2147483647).toInt = ((x &&& Int64.ofInt 2147483647).toBitVec.toNat : Int) := by
    show (x &&& Int64.ofInt 2147483647).toBitVec.toInt = _
    exact BitVec.toInt_eq_toNat_of_lt (by omega)
  rw [e]
  omega
set_option maxRecDepth 10000 in
theorem c_X3_layCodes_p38 (l : Launch) (δ : Dp) (ad : Nat → Nat) (M : Mem) (hA : okA δ ad) (s : Int) (q0 : 0 ≤ M 38 0 ∧ M 38 0 ≤ 6 ∧ 0 ≤ M 38 1 ∧ M 38 1 ≤ 4 ∧ 0 ≤ M 38 2 ∧ M 38 2 ≤ 8 ∧ -1 ≤ M 38 5 ∧ M 38 5 ≤ 5 ∧ 0 ≤ M 38 6 ∧ M 38 6 ≤ 700) (i_s : -2147483648 ≤ s ∧ s ≤ 2147483647) : Mv l δ yX3_layCodes cX3_layCodes 6 none 4 89 ad rs [.ref (ad 38), iv s] M (fun M' => (True) ∧ (∀ c : Nat, c ≠ 45 → M' c = M c)) := by
  refine Mg.of (rm := rmN 4 89) (by decide) (Nat.le_of_ble_eq_true rfl) fun κ _ hk _ => ?_
  generalize hQ : Qg κ δ 121 (rmN 4 89).cells (rmN 4 89).slots _ = Q
  show Zj κ δ ad rs Q 6 (121, 0, 0) 0 [some (.ref (ad 38)), some (iv s), none, none, none, none] [] M
  refine Z_aload0 hk dX3_layCodes_0 ?_
  refine Z_getR hk fl_3_39 dX3_layCodes_1 ob_38.1 ob_38.2.1 ob_38.2.2.1 ob_38.2.2.2 ft_3_13 rs_38_13 ?_
  refine Z_iconst hk dX3_layCodes_4 ?_
  refine Z_Sv hk (c_J7_fill_53178 κ.2.1 δ ad _ hA 45 360 ar_45 0 (by (omega))) os_J7_fill_53178 ml_X3_72 dX3_layCodes_5 rfl ⟨by decide, by decide⟩ rfl (Nat.le_of_ble_eq_true rfl) (fun m5 p5 => ?_)
  obtain ⟨p5, f5_0⟩ := p5
  try simp only [f5_0, and_true, true_and, or_true, true_or, implies_true, upn, reduceIte, Nat.reduceEqDiff, ne_eq, not_false_eq_true, upc] at p5
  refine Z_iconst hk dX3_layCodes_8 ?_
  have J10 : ∀ (n : Nat) (x2_10 : Int) (m10 : Mem), ((0 ≤ x2_10 ∧ x2_10 ≤ (M 38 1)) ∧ (∀ c : Nat, c ≠ 45 → m10 c = m5 c)) → ((M 38 1) - x2_10) < (n : Int) → Zj κ δ ad rs Q 6 (121, 0, 0) 10 [some (.ref (ad 38)), some (iv s), some (iv x2_10), none, none, none] [] m10 := by
    intro n
    induction n with
    | zero => intro x2_10 m10 h10 hm10; exfalso; obtain ⟨h10, -⟩ := h10; omega
    | succ n ih10 =>
      intro x2_10 m10 h10 hm10
      obtain ⟨h10, f10_0⟩ := h10
      try simp only [f10_0, f5_0, and_true, true_and, or_true, true_or, implies_true, upn, reduceIte, Nat.reduceEqDiff, ne_eq, not_false_eq_true, upc] at h10 hm10
      refine Z_iload2 hk dX3_layCodes_10 ?_
      refine Z_aload0 hk dX3_layCodes_11 ?_
      refine Z_getI hk fl_3_51 dX3_layCodes_12 ob_38.1 ob_38.2.1 ob_38.2.2.1 ob_38.2.2.2 ft_3_1 (fun v12 e12 a12 b12 => ?_)
      try simp only [f10_0, f5_0, and_true, true_and, or_true, true_or, implies_true, upn, reduceIte, Nat.reduceEqDiff, ne_eq, not_false_eq_true, upc] at e12
      refine Z_icmp_ge hk (tgt := 87) dX3_layCodes_15 (by decide) (by omega) (by omega) (by omega) (by omega) (fun h15 => ?_) (fun h15 => ?_)
      · exact Z_vret hk hA hQ dX3_layCodes_87 ⟨rfl, rfl, rfl, (by exact ⟨(by (try simp only [f10_0, f5_0, and_true, true_and, or_true, true_or, implies_true, upn, reduceIte, Nat.reduceEqDiff, ne_eq, not_false_eq_true, upc]) <;> (trivial)), (by intro c k0; simp only [f10_0, f5_0, upc, upn, k0, reduceIte, Nat.reduceEqDiff, ne_eq, not_false_eq_true])⟩)⟩
      · refine Z_iload1 hk dX3_layCodes_18 ?_
        refine Z_i2l hk dX3_layCodes_19 (by omega) (by omega) ?_
        refine Z_lstore3 hk rfl (by decide) dX3_layCodes_20 ?_
        refine Z_iconst hk dX3_layCodes_21 ?_
        have J24 : ∀ (n : Nat) (x3_24 : Int) (x5_24 : Int) (m24 : Mem), ((0 ≤ x5_24 ∧ x5_24 ≤ 90) ∧ (∀ c : Nat, c ≠ 45 → m24 c = m10 c)) → (90 - x5_24) < (n : Int) → Zj κ δ ad rs Q 6 (121, 0, 0) 24 [some (.ref (ad 38)), some (iv s), some (iv x2_10), some (jv x3_24), none, some (iv x5_24)] [] m24 := by
          intro n
          induction n with
          | zero => intro x3_24 x5_24 m24 h24 hm24; exfalso; obtain ⟨h24, -⟩ := h24; omega
          | succ n ih24 =>
            intro x3_24 x5_24 m24 h24 hm24
            obtain ⟨h24, f24_0⟩ := h24
            try simp only [f24_0, f10_0, f5_0, and_true, true_and, or_true, true_or, implies_true, upn, reduceIte, Nat.reduceEqDiff, ne_eq, not_false_eq_true, upc] at h24 hm24
            refine Z_iload5 hk dX3_layCodes_24 ?_
            refine Z_aload0 hk dX3_layCodes_26 ?_
            refine Z_iload2 hk dX3_layCodes_27 ?_
            refine Z_Vi hk (c_X3_cups_p38 κ.2.1 δ ad _ hA x2_10 (by (try simp only [f24_0, f10_0, f5_0, and_true, true_and, or_true, true_or, implies_true, upn, reduceIte, Nat.reduceEqDiff, ne_eq, not_false_eq_true, upc]) <;> (omega))) ov_X3_cups ml_X3_78 dX3_layCodes_28 rfl ⟨by decide, by decide⟩ ob_38.1 (by decide) (by decide) rfl (Nat.le_of_ble_eq_true rfl) (fun r28 m28 p28 => ?_)
            obtain ⟨rfl, p28⟩ := p28
            try simp only [f24_0, f10_0, f5_0, e12, and_true, true_and, or_true, true_or, implies_true, upn, reduceIte, Nat.reduceEqDiff, ne_eq, not_false_eq_true, upc] at p28
            refine Z_icmp_ge hk (tgt := 81) dX3_layCodes_31 (by decide) (by omega) (by omega) (by omega) (by omega) (fun h31 => ?_) (fun h31 => ?_)
            · refine Z_iinc2 hk rfl (by decide) dX3_layCodes_81 ?_
              refine Z_goto hk (tgt := 10) dX3_layCodes_84 (by decide) ?_
              refine Z_drop3 ?_
              refine Z_drop5 ?_
              exact ih10 _ _ (by exact ⟨(by (try simp only [f24_0, f10_0, f5_0, and_true, true_and, or_true, true_or, implies_true, upn, reduceIte, Nat.reduceEqDiff, ne_eq, not_false_eq_true, upc]) <;> (omega)), (by intro c k0; simp only [f24_0, f10_0, f5_0, upc, upn, k0, reduceIte, Nat.reduceEqDiff, ne_eq, not_false_eq_true])⟩) (by (try simp only [f24_0, f10_0, f5_0, and_true, true_and, or_true, true_or, implies_true, upn, reduceIte, Nat.reduceEqDiff, ne_eq, not_false_eq_true, upc]) <;> (omega))
            · refine Z_ldc2_w hk (n := 1103515245) (mem_g (by decide +kernel)) dX3_layCodes_34 ?_
              refine Z_lload3 hk dX3_layCodes_37 ?_
              refine Z_lmul hk dX3_layCodes_38 ?_
              refine Z_wJ (fun w38 a38w b38w g38w => ?_)
              refine Z_ldc2_w hk (n := 12345) (mem_g (by decide +kernel)) dX3_layCodes_39 ?_
              refine Z_ladd hk dX3_layCodes_42 ?_
              refine Z_wJ (fun w42 a42w b42w g42w => ?_)
              refine Z_ldc2_w hk (n := 2147483647) (mem_g (by decide +kernel)) dX3_layCodes_43 ?_
              refine Z_land hk dX3_layCodes_46 (fun v46 e46 a46 b46 => ?_)
              have g46 := land_in (Int64.ofInt w42)
              rw [← e46] at g46
              have g47 := td_in (x := v46) (y := 256) (by omega) (by decide)
              have g48 := tm_in (x := Int.tdiv v46 256) (y := 900) (by omega) (by decide)
              refine Z_lstore3 hk rfl (by decide) dX3_layCodes_47 ?_
              refine Z_aload0 hk dX3_layCodes_48 ?_
              refine Z_getR hk fl_3_39 dX3_layCodes_49 ob_38.1 ob_38.2.1 ob_38.2.2.1 ob_38.2.2.2 ft_3_13 rs_38_13 ?_
              refine Z_iload2 hk dX3_layCodes_52 ?_
              refine Z_bipush hk dX3_layCodes_53 (by decide) ?_
              refine Z_imul hk dX3_layCodes_55 ?_
              refine Z_iload5 hk dX3_layCodes_56 ?_
              refine Z_iadd hk dX3_layCodes_58 ?_
              refine Z_aload0 hk dX3_layCodes_59 ?_
              refine Z_iload2 hk dX3_layCodes_60 ?_
              refine Z_lload3 hk dX3_layCodes_61 ?_
              refine Z_ldc2_w hk (n := 256) (mem_g (by decide +kernel)) dX3_layCodes_62 ?_
              refine Z_ldiv hk dX3_layCodes_65 (by omega) (by omega) (by omega) (by omega) (by omega) ?_
              refine Z_ldc2_w hk (n := 900) (mem_g (by decide +kernel)) dX3_layCodes_66 ?_
              refine Z_lrem hk dX3_layCodes_69 (by omega) (by omega) (by omega) (by omega) (by omega) ?_
              refine Z_l2i hk dX3_layCodes_70 ?_
              refine Z_Vi hk (c_X3_freeCode_p38 κ.2.1 δ ad _ hA x2_10 (Int.tmod (Int.tdiv v46 (256)) (900)) (by (try simp only [f24_0, f10_0, f5_0, and_true, true_and, or_true, true_or, implies_true, upn, reduceIte, Nat.reduceEqDiff, ne_eq, not_false_eq_true, upc]) <;> (omega)) (by (try simp only [f24_0, f10_0, f5_0, and_true, true_and, or_true, true_or, implies_true, upn, reduceIte, Nat.reduceEqDiff, ne_eq, not_false_eq_true, upc]) <;> (omega))) ov_X3_freeCode ml_X3_91 dX3_layCodes_71 rfl ⟨by decide, by decide⟩ ob_38.1 (by decide) (by decide) rfl (Nat.le_of_ble_eq_true rfl) (fun r71 m71 p71 => ?_)
              obtain ⟨rfl, p71⟩ := p71
              try simp only [f24_0, f10_0, f5_0, e12, and_true, true_and, or_true, true_or, implies_true, upn, reduceIte, Nat.reduceEqDiff, ne_eq, not_false_eq_true, upc] at p71
              refine Z_iast hk hA dX3_layCodes_74 ar_45.1 ar_45.2.1 ar_45.2.2 (by omega) (by omega) (by omega) (by omega) ?_
              refine Z_nm (fun m74 em74 => ?_)
              refine Z_iinc5 hk rfl (by decide) dX3_layCodes_75 ?_
              refine Z_goto hk (tgt := 24) dX3_layCodes_78 (by decide) ?_
              exact ih24 _ _ _ (by exact ⟨(by (try simp only [em74, f24_0, f10_0, f5_0, and_true, true_and, or_true, true_or, implies_true, upn, reduceIte, Nat.reduceEqDiff, ne_eq, not_false_eq_true, upc]) <;> (omega)), (by intro c k0; simp only [em74, f24_0, f10_0, f5_0, upc, upn, k0, reduceIte, Nat.reduceEqDiff, ne_eq, not_false_eq_true])⟩) (by (try simp only [em74, f24_0, f10_0, f5_0, and_true, true_and, or_true, true_or, implies_true, upn, reduceIte, Nat.reduceEqDiff, ne_eq, not_false_eq_true, upc]) <;> (omega))
        refine Z_istore5 hk rfl (by decide) dX3_layCodes_22 ?_
        exact J24 (((90 - 0) : Int).toNat + 1) _ _ _ (by exact ⟨(by (try simp only [f10_0, f5_0, and_true, true_and, or_true, true_or, implies_true, upn, reduceIte, Nat.reduceEqDiff, ne_eq, not_false_eq_true, upc]) <;> (omega)), (by intro c k0; simp only [f10_0, f5_0, upc, upn, k0, reduceIte, Nat.reduceEqDiff, ne_eq, not_false_eq_true])⟩) (by omega)
  refine Z_istore2 hk rfl (by decide) dX3_layCodes_9 ?_
  exact J10 ((((M 38 1) - 0) : Int).toNat + 1) _ _ (by exact ⟨(by (try simp only [f5_0, and_true, true_and, or_true, true_or, implies_true, upn, reduceIte, Nat.reduceEqDiff, ne_eq, not_false_eq_true, upc]) <;> (omega)), (by intro c k0; simp only [f5_0, upc, upn, k0, reduceIte, Nat.reduceEqDiff, ne_eq, not_false_eq_true])⟩) (by omega)
set_option maxRecDepth 10000 in
theorem c_X0_below (l : Launch) (δ : Dp) (ad : Nat → Nat) (M : Mem) (hA : okA δ ad) (z : Int) (nn : Int) (q0 : 0 ≤ nn ∧ nn ≤ 30) (qz : z = 0 ∨ z = 1) : Mj l δ yX0_below cX0_below 6 (some (.long)) 0 0 ad rs [.ref (ad 8), iv z, iv nn] M (fun r M' => M = M' ∧ (r = (if z = 1 then 3 else 2 : Int) ^ nn.toNat)) := by
  refine Mg.of (rm := rmN 0 0) (by decide) (Nat.le_of_ble_eq_true rfl) fun κ _ hk _ => ?_
  generalize hQ : Qg κ δ 121 (rmN 0 0).cells (rmN 0 0).slots _ = Q
  show Zj κ δ ad rs Q 6 (121, 0, 0) 0 [some (.ref (ad 8)), some (iv z), some (iv nn), none, none, none] [] M
  refine Z_lconst1 hk dX0_below_0 ?_
  refine Z_lstore3 hk rfl (by decide) dX0_below_1 ?_
  refine Z_iconst hk dX0_below_2 ?_
  have J5 : ∀ (n : Nat) (x3_5 : Int) (x5_5 : Int), ((0 ≤ x5_5 ∧ x5_5 ≤ nn) ∧ x3_5 = (if z = 1 then 3 else 2 : Int) ^ (x5_5).toNat) → (nn - x5_5) < (n : Int) → Zj κ δ ad rs Q 6 (121, 0, 0) 5 [some (.ref (ad 8)), some (iv z), some (iv nn), some (jv x3_5), none, some (iv x5_5)] [] M := by
    intro n
    induction n with
    | zero => intro x3_5 x5_5 h5 hm5; exfalso; obtain ⟨h5, -⟩ := h5; omega
    | succ n ih5 =>
      intro x3_5 x5_5 h5 hm5
      refine Z_iload5 hk dX0_below_5 ?_
      refine Z_iload2 hk dX0_below_7 ?_
      refine Z_icmp_ge hk (tgt := 33) dX0_below_8 (by decide) (by omega) (by omega) (by omega) (by omega) (fun h8 => ?_) (fun h8 => ?_)
      · refine Z_lload3 hk dX0_below_33 ?_
        exact Z_lret hk hA hQ dX0_below_34 ⟨rfl, rfl, _, rfl, (by exact ⟨rfl, (by rw [h5.2]; congr 1; omega)⟩)⟩
      · refine Z_lload3 hk dX0_below_11 ?_
        refine Z_iload1 hk dX0_below_12 ?_
        have J25 : ∀ (y1_25 : Int), (y1_25 = (if z = 1 then 3 else 2 : Int)) → Zj κ δ ad rs Q 6 (121, 0, 0) 25 [some (.ref (ad 8)), some (iv z), some (iv nn), some (jv x3_5), none, some (iv x5_5)] [jv y1_25, jv x3_5] M := by
          intro y1_25 h25
          refine Z_lmul hk dX0_below_25 ?_
          refine Z_lstore3 hk rfl (by decide) dX0_below_26 ?_
          refine Z_iinc5 hk rfl (by decide) dX0_below_27 ?_
          refine Z_goto hk (tgt := 5) dX0_below_30 (by decide) ?_
          exact ih5 _ _ (by refine ⟨by omega, ?_⟩; rw [h5.2, h25, show (x5_5 + 1).toNat = x5_5.toNat + 1 from (by omega), Int.pow_succ]) (by (omega))
        refine Z_if_eq hk (tgt := 22) dX0_below_13 (by decide) (by omega) (by omega) (fun h13 => ?_) (fun h13 => ?_)
        · refine Z_ldc2_w hk (n := 2) (mem_g (by decide +kernel)) dX0_below_22 ?_
          exact J25 _ (by rw [if_neg (by omega)])
        · refine Z_ldc2_w hk (n := 3) (mem_g (by decide +kernel)) dX0_below_16 ?_
          refine Z_goto hk (tgt := 25) dX0_below_19 (by decide) ?_
          exact J25 _ (by rw [if_pos (by omega)])
  refine Z_istore5 hk rfl (by decide) dX0_below_3 ?_
  exact J5 (((nn - 0) : Int).toNat + 1) _ _ (by exact ⟨by omega, (Int.pow_zero _).symm⟩) (by omega)
set_option maxRecDepth 10000 in
theorem c_X0_isBelow (l : Launch) (δ : Dp) (ad : Nat → Nat) (M : Mem) (hA : okA δ ad) (z : Int) (k : Int) (nn : Int) (a : Int) (b : Int) (q0 : 0 ≤ nn ∧ nn ≤ 30 ∧ 0 ≤ k ∧ k ≤ nn) (q1 : z = 0 ∨ z = 1) (i_a : -2147483648 ≤ a ∧ a ≤ 2147483647) (i_b : -2147483648 ≤ b ∧ b ≤ 2147483647) : Mi l δ yX0_isBelow cX0_isBelow 6 (some (.boolean)) 1 28 ad rs [.ref (ad 8), iv z, iv k, iv nn, iv a, iv b] M (fun r M' => M = M' ∧ (0 ≤ r ∧ r ≤ 1)) := by
  refine Mg.of (rm := rmN 1 28) (by decide) (Nat.le_of_ble_eq_true rfl) fun κ _ hk _ => ?_
  generalize hQ : Qg κ δ 121 (rmN 1 28).cells (rmN 1 28).slots _ = Q
  show Zj κ δ ad rs Q 6 (121, 0, 0) 0 [some (.ref (ad 8)), some (iv z), some (iv k), some (iv nn), some (iv a), some (iv b)] [] M
  refine Z_aload0 hk dX0_isBelow_0 ?_
  refine Z_iload1 hk dX0_isBelow_1 ?_
  refine Z_iload2 hk dX0_isBelow_2 ?_
  refine Z_iload3 hk dX0_isBelow_3 ?_
  refine Z_Vj hk (c_X0_above κ.2.1 δ ad _ hA z k nn (by (omega)) (by (omega))) ov_X0_above ml_X0_19 dX0_isBelow_4 rfl ⟨by decide, by decide⟩ ob_8.1 (by decide) (by decide) rfl (Nat.le_of_ble_eq_true rfl) (fun r4 m4 p4 => ?_)
  obtain ⟨rfl, p4⟩ := p4
  refine Z_iload5 hk dX0_isBelow_7 ?_
  refine Z_i2l hk dX0_isBelow_9 (by omega) (by omega) ?_
  refine Z_lmul hk dX0_isBelow_10 ?_
  refine Z_wJ (fun w10 a10w b10w g10w => ?_)
  refine Z_aload0 hk dX0_isBelow_11 ?_
  refine Z_iload1 hk dX0_isBelow_12 ?_
  refine Z_iload3 hk dX0_isBelow_13 ?_
  refine Z_Vj hk (c_X0_below κ.2.1 δ ad _ hA z nn (by (omega)) (by (omega))) ov_X0_below ml_X0_23 dX0_isBelow_14 rfl ⟨by decide, by decide⟩ ob_8.1 (by decide) (by decide) rfl (Nat.le_of_ble_eq_true rfl) (fun r14 m14 p14 => ?_)
  obtain ⟨rfl, p14⟩ := p14
  refine Z_iload4 hk dX0_isBelow_17 ?_
  refine Z_i2l hk dX0_isBelow_19 (by omega) (by omega) ?_
  refine Z_lmul hk dX0_isBelow_20 ?_
  refine Z_wJ (fun w20 a20w b20w g20w => ?_)
  refine Z_lcmp hk dX0_isBelow_21 (by omega) (by omega) (by omega) (by omega) (fun v21 e21 => ?_)
  refine Z_if_ge hk (tgt := 29) dX0_isBelow_22 (by decide) (by omega) (by omega) (fun h22 => ?_) (fun h22 => ?_)
  · refine Z_iconst hk dX0_isBelow_29 ?_
    exact Z_zret hk hA hQ dX0_isBelow_30 (by decide) (by decide) ⟨rfl, rfl, _, rfl, (by exact ⟨rfl, (by omega)⟩)⟩
  · refine Z_iconst hk dX0_isBelow_25 ?_
    refine Z_goto hk (tgt := 30) dX0_isBelow_26 (by decide) ?_
    exact Z_zret hk hA hQ dX0_isBelow_30 (by decide) (by decide) ⟨rfl, rfl, _, rfl, (by exact ⟨rfl, (by omega)⟩)⟩
set_option maxRecDepth 10000 in
theorem c_X0_inMillion (l : Launch) (δ : Dp) (ad : Nat → Nat) (M : Mem) (hA : okA δ ad) (z : Int) (k : Int) (nn : Int) (q0 : 0 ≤ nn ∧ nn ≤ 30 ∧ 0 ≤ k ∧ k ≤ nn) (q1 : z = 0 ∨ z = 1) : Mi l δ yX0_inMillion cX0_inMillion 12 (some (.int)) 1 28 ad rs [.ref (ad 8), iv z, iv k, iv nn] M (fun r M' => M = M' ∧ (-2147483648 ≤ r ∧ r ≤ 2147483647)) := by
  refine Mg.of (rm := rmN 1 28) (by decide) (Nat.le_of_ble_eq_true rfl) fun κ _ hk _ => ?_
  generalize hQ : Qg κ δ 121 (rmN 1 28).cells (rmN 1 28).slots _ = Q
  show Zj κ δ ad rs Q 12 (121, 0, 0) 0 [some (.ref (ad 8)), some (iv z), some (iv k), some (iv nn), none, none, none, none, none, none, none, none] [] M
  refine Z_lconst1 hk dX0_inMillion_0 ?_
  refine Z_aload0 hk dX0_inMillion_1 ?_
  refine Z_iload1 hk dX0_inMillion_2 ?_
  refine Z_iload3 hk dX0_inMillion_3 ?_
  refine Z_Vj hk (c_X0_below κ.2.1 δ ad _ hA z nn (by (omega)) (by (omega))) ov_X0_below ml_X0_23 dX0_inMillion_4 rfl ⟨by decide, by decide⟩ ob_8.1 (by decide) (by decide) rfl (Nat.le_of_ble_eq_true rfl) (fun r4 m4 p4 => ?_)
  obtain ⟨rfl, p4⟩ := p4
  have w4 := pw_in (b := (if z = 1 then 3 else 2 : Int)) (k := nn.toNat) (by split <;> omega) (by omega)
  rw [← p4] at w4
  refine Z_Sj hk (c_J9_max_f86c9 κ.2.1 δ ad _ hA 1 r4 (by (omega)) (by (omega))) os_J9_max_f86c9 ml_X0_27 dX0_inMillion_7 rfl ⟨by decide, by decide⟩ rfl (Nat.le_of_ble_eq_true rfl) (fun r7 m7 p7 => ?_)
  obtain ⟨rfl, p7⟩ := p7
  refine Z_lstore4 hk rfl (by decide) dX0_inMillion_10 ?_
  refine Z_aload0 hk dX0_inMillion_12 ?_
  refine Z_iload1 hk dX0_inMillion_13 ?_
  refine Z_iload2 hk dX0_inMillion_14 ?_
  refine Z_iload3 hk dX0_inMillion_15 ?_
  refine Z_Vj hk (c_X0_above κ.2.1 δ ad _ hA z k nn (by (omega)) (by (omega))) ov_X0_above ml_X0_19 dX0_inMillion_16 rfl ⟨by decide, by decide⟩ ob_8.1 (by decide) (by decide) rfl (Nat.le_of_ble_eq_true rfl) (fun r16 m16 p16 => ?_)
  obtain ⟨rfl, p16⟩ := p16
  refine Z_ldc2_w hk (n := 1000) (mem_g (by decide +kernel)) dX0_inMillion_19 ?_
  refine Z_lmul hk dX0_inMillion_22 ?_
  refine Z_wJ (fun w22 a22w b22w g22w => ?_)
  refine Z_lstore6 hk rfl (by decide) dX0_inMillion_23 ?_
  refine Z_lload6 hk dX0_inMillion_25 ?_
  refine Z_lload4 hk dX0_inMillion_27 ?_
  refine Z_lrem hk dX0_inMillion_29 (by omega) (by omega) (by omega) (by omega) (by omega) ?_
  refine Z_wJ (fun w29 a29w b29w g29w => ?_)
  refine Z_ldc2_w hk (n := 1000) (mem_g (by decide +kernel)) dX0_inMillion_30 ?_
  refine Z_lmul hk dX0_inMillion_33 ?_
  refine Z_wJ (fun w33 a33w b33w g33w => ?_)
  refine Z_lstore8 hk rfl (by decide) dX0_inMillion_34 ?_
  refine Z_lload6 hk dX0_inMillion_36 ?_
  refine Z_lload4 hk dX0_inMillion_38 ?_
  refine Z_ldiv hk dX0_inMillion_40 (by omega) (by omega) (by omega) (by omega) (by omega) ?_
  refine Z_wJ (fun w40 a40w b40w g40w => ?_)
  refine Z_ldc2_w hk (n := 1000) (mem_g (by decide +kernel)) dX0_inMillion_41 ?_
  refine Z_lmul hk dX0_inMillion_44 ?_
  refine Z_wJ (fun w44 a44w b44w g44w => ?_)
  refine Z_lload8 hk dX0_inMillion_45 ?_
  refine Z_lload4 hk dX0_inMillion_47 ?_
  refine Z_ldiv hk dX0_inMillion_49 (by omega) (by omega) (by omega) (by omega) (by omega) ?_
  refine Z_wJ (fun w49 a49w b49w g49w => ?_)
  refine Z_ladd hk dX0_inMillion_50 ?_
  refine Z_wJ (fun w50 a50w b50w g50w => ?_)
  refine Z_lstore10 hk rfl (by decide) dX0_inMillion_51 ?_
  refine Z_lload8 hk dX0_inMillion_53 ?_
  refine Z_lload4 hk dX0_inMillion_55 ?_
  refine Z_lrem hk dX0_inMillion_57 (by omega) (by omega) (by omega) (by omega) (by omega) ?_
  refine Z_wJ (fun w57 a57w b57w g57w => ?_)
  refine Z_lconst0 hk dX0_inMillion_58 ?_
  refine Z_lcmp hk dX0_inMillion_59 (by omega) (by omega) (by decide) (by decide) (fun v59 e59 => ?_)
  refine Z_if_ne hk (tgt := 68) dX0_inMillion_60 (by decide) (by omega) (by omega) (fun h60 => ?_) (fun h60 => ?_)
  · refine Z_lload10 hk dX0_inMillion_68 ?_
    refine Z_lconst1 hk dX0_inMillion_70 ?_
    refine Z_ladd hk dX0_inMillion_71 ?_
    refine Z_wJ (fun w71 a71w b71w g71w => ?_)
    refine Z_l2i hk dX0_inMillion_72 ?_
    refine Z_wI (fun w72 a72w b72w g72w => ?_)
    exact Z_iret hk hA hQ dX0_inMillion_73 ⟨rfl, rfl, _, rfl, (by exact ⟨rfl, (by omega)⟩)⟩
  · refine Z_lload10 hk dX0_inMillion_63 ?_
    refine Z_goto hk (tgt := 72) dX0_inMillion_65 (by decide) ?_
    refine Z_l2i hk dX0_inMillion_72 ?_
    refine Z_wI (fun w72 a72w b72w g72w => ?_)
    exact Z_iret hk hA hQ dX0_inMillion_73 ⟨rfl, rfl, _, rfl, (by exact ⟨rfl, (by omega)⟩)⟩
set_option maxRecDepth 10000 in
theorem c_X0_fillRow (l : Launch) (δ : Dp) (ad : Nat → Nat) (M : Mem) (hA : okA δ ad) (z : Int) (s : Int) (nn : Int) (q0 : -1 ≤ s ∧ s ≤ 1001) (q1 : z = 0 ∨ z = 1) (i_nn : -2147483648 ≤ nn ∧ nn ≤ 2147483647) : Mv l δ yX0_fillRow cX0_fillRow 10 none 1 24 ad rs [.ref (ad 8), iv z, iv s, iv nn] M (fun M' => (True) ∧ (∀ c : Nat, c ≠ 9 → M' c = M c)) := by
  refine Mg.of (rm := rmN 1 24) (by decide) (Nat.le_of_ble_eq_true rfl) fun κ _ hk _ => ?_
  generalize hQ : Qg κ δ 121 (rmN 1 24).cells (rmN 1 24).slots _ = Q
  show Zj κ δ ad rs Q 10 (121, 0, 0) 0 [some (.ref (ad 8)), some (iv z), some (iv s), some (iv nn), none, none, none, none, none, none] [] M
  refine Z_iload1 hk dX0_fillRow_0 ?_
  have J13 : ∀ (y0_13 : Int), (2000 ≤ y0_13 ∧ y0_13 ≤ 3000) → Zj κ δ ad rs Q 10 (121, 0, 0) 13 [some (.ref (ad 8)), some (iv z), some (iv s), some (iv nn), none, none, none, none, none, none] [jv y0_13] M := by
    intro y0_13 h13
    refine Z_lstore4 hk rfl (by decide) dX0_fillRow_13 ?_
    refine Z_iload1 hk dX0_fillRow_15 ?_
    have J36 : ∀ (y0_36 : Int), (0 ≤ y0_36 ∧ y0_36 ≤ 4000) → Zj κ δ ad rs Q 10 (121, 0, 0) 36 [some (.ref (ad 8)), some (iv z), some (iv s), some (iv nn), some (jv y0_13), none, none, none, none, none] [jv y0_36] M := by
      intro y0_36 h36
      refine Z_lstore6 hk rfl (by decide) dX0_fillRow_36 ?_
      refine Z_aload0 hk dX0_fillRow_38 ?_
      refine Z_getR hk fl_0_11 dX0_fillRow_39 ob_8.1 ob_8.2.1 ob_8.2.2.1 ob_8.2.2.2 ft_0_0 rs_8_0 ?_
      refine Z_lconst0 hk dX0_fillRow_42 ?_
      refine Z_Sv hk (c_J7_fill_d0a16 κ.2.1 δ ad _ hA 9 31 ar_9 0 (by (omega))) os_J7_fill_d0a16 ml_X0_39 dX0_fillRow_43 rfl ⟨by decide, by decide⟩ rfl (Nat.le_of_ble_eq_true rfl) (fun m43 p43 => ?_)
      obtain ⟨p43, f43_0⟩ := p43
      try simp only [f43_0, and_true, true_and, or_true, true_or, implies_true, upn, reduceIte, Nat.reduceEqDiff, ne_eq, not_false_eq_true, upc] at p43
      refine Z_aload0 hk dX0_fillRow_46 ?_
      refine Z_getR hk fl_0_11 dX0_fillRow_47 ob_8.1 ob_8.2.1 ob_8.2.2.1 ob_8.2.2.2 ft_0_0 rs_8_0 ?_
      refine Z_iconst hk dX0_fillRow_50 ?_
      refine Z_ldc2_w hk (n := 1073741824) (mem_g (by decide +kernel)) dX0_fillRow_51 ?_
      refine Z_last hk hA dX0_fillRow_54 ar_9.1 ar_9.2.1 ar_9.2.2 (by omega) (by omega) (by omega) (by omega) ?_
      refine Z_nm (fun m54 em54 => ?_)
      refine Z_iconst hk dX0_fillRow_55 ?_
      have J58 : ∀ (n : Nat) (x8_58 : Int) (m58 : Mem), ((1 ≤ x8_58 ∧ x8_58 ≤ 31) ∧ (∀ c : Nat, c ≠ 9 → m58 c = m54 c)) → (31 - x8_58) < (n : Int) → Zj κ δ ad rs Q 10 (121, 0, 0) 58 [some (.ref (ad 8)), some (iv z), some (iv s), some (iv nn), some (jv y0_13), none, some (jv y0_36), none, some (iv x8_58), none] [] m58 := by
        intro n
        induction n with
        | zero => intro x8_58 m58 h58 hm58; exfalso; obtain ⟨h58, -⟩ := h58; omega
        | succ n ih58 =>
          intro x8_58 m58 h58 hm58
          obtain ⟨h58, f58_0⟩ := h58
          try simp only [f58_0, em54, f43_0, and_true, true_and, or_true, true_or, implies_true, upn, reduceIte, Nat.reduceEqDiff, ne_eq, not_false_eq_true, upc] at h58 hm58
          refine Z_iload8 hk dX0_fillRow_58 ?_
          refine Z_iload3 hk dX0_fillRow_60 ?_
          refine Z_icmp_gt hk (tgt := 156) dX0_fillRow_61 (by decide) (by omega) (by omega) (by omega) (by omega) (fun h61 => ?_) (fun h61 => ?_)
          · exact Z_vret hk hA hQ dX0_fillRow_156 ⟨rfl, rfl, rfl, (by exact ⟨(by (try simp only [f58_0, em54, f43_0, and_true, true_and, or_true, true_or, implies_true, upn, reduceIte, Nat.reduceEqDiff, ne_eq, not_false_eq_true, upc]) <;> (trivial)), (by intro c k0; simp only [f58_0, em54, f43_0, upc, upn, k0, reduceIte, Nat.reduceEqDiff, ne_eq, not_false_eq_true])⟩)⟩
          · refine Z_iload8 hk dX0_fillRow_64 ?_
            refine Z_aload0 hk dX0_fillRow_66 ?_
            refine Z_getR hk fl_0_11 dX0_fillRow_67 ob_8.1 ob_8.2.1 ob_8.2.2.1 ob_8.2.2.2 ft_0_0 rs_8_0 ?_
            refine Z_alen hk (i := 0) dX0_fillRow_70 ar_9.1 (by decide) ar_9.2.1 ?_
            refine Z_icmp_ge hk (tgt := 156) dX0_fillRow_71 (by decide) (by omega) (by omega) (by decide) (by decide) (fun h71 => ?_) (fun h71 => ?_)
            · exact Z_vret hk hA hQ dX0_fillRow_156 ⟨rfl, rfl, rfl, (by exact ⟨(by (try simp only [f58_0, em54, f43_0, and_true, true_and, or_true, true_or, implies_true, upn, reduceIte, Nat.reduceEqDiff, ne_eq, not_false_eq_true, upc]) <;> (trivial)), (by intro c k0; simp only [f58_0, em54, f43_0, upc, upn, k0, reduceIte, Nat.reduceEqDiff, ne_eq, not_false_eq_true])⟩)⟩
            · refine Z_iload8 hk dX0_fillRow_74 ?_
              have J78 : ∀ (n : Nat) (x9_78 : Int) (m78 : Mem), ((0 ≤ x9_78 ∧ x9_78 ≤ 30) ∧ (∀ c : Nat, c ≠ 9 → m78 c = m58 c)) → (x9_78) < (n : Int) → Zj κ δ ad rs Q 10 (121, 0, 0) 78 [some (.ref (ad 8)), some (iv z), some (iv s), some (iv nn), some (jv y0_13), none, some (jv y0_36), none, some (iv x8_58), some (iv x9_78)] [] m78 := by
                intro n
                induction n with
                | zero => intro x9_78 m78 h78 hm78; exfalso; obtain ⟨h78, -⟩ := h78; omega
                | succ n ih78 =>
                  intro x9_78 m78 h78 hm78
                  obtain ⟨h78, f78_0⟩ := h78
                  try simp only [f78_0, f58_0, em54, f43_0, and_true, true_and, or_true, true_or, implies_true, upn, reduceIte, Nat.reduceEqDiff, ne_eq, not_false_eq_true, upc] at h78 hm78
                  refine Z_iload9 hk dX0_fillRow_78 ?_
                  refine Z_iconst hk dX0_fillRow_80 ?_
                  refine Z_icmp_lt hk (tgt := 129) dX0_fillRow_81 (by decide) (by omega) (by omega) (by decide) (by decide) (fun h81 => ?_) (fun h81 => ?_)
                  · refine Z_aload0 hk dX0_fillRow_129 ?_
                    refine Z_getR hk fl_0_11 dX0_fillRow_130 ob_8.1 ob_8.2.1 ob_8.2.2.1 ob_8.2.2.2 ft_0_0 rs_8_0 ?_
                    refine Z_iconst hk dX0_fillRow_133 ?_
                    refine Z_aload0 hk dX0_fillRow_134 ?_
                    refine Z_getR hk fl_0_11 dX0_fillRow_135 ob_8.1 ob_8.2.1 ob_8.2.2.1 ob_8.2.2.2 ft_0_0 rs_8_0 ?_
                    refine Z_iconst hk dX0_fillRow_138 ?_
                    refine Z_lald hk dX0_fillRow_139 ar_9.1 ar_9.2.1 ar_9.2.2 (by omega) (by omega) (fun v139 e139 a139 b139 => ?_)
                    try simp only [f78_0, f58_0, em54, f43_0, and_true, true_and, or_true, true_or, implies_true, upn, reduceIte, Nat.reduceEqDiff, ne_eq, not_false_eq_true, upc] at e139
                    refine Z_lload4 hk dX0_fillRow_140 ?_
                    refine Z_lload6 hk dX0_fillRow_142 ?_
                    refine Z_lsub hk dX0_fillRow_144 ?_
                    refine Z_lmul hk dX0_fillRow_145 ?_
                    refine Z_wJ (fun w145 a145w b145w g145w => ?_)
                    refine Z_lload4 hk dX0_fillRow_146 ?_
                    refine Z_ldiv hk dX0_fillRow_148 (by omega) (by omega) (by omega) (by omega) (by omega) ?_
                    refine Z_wJ (fun w148 a148w b148w g148w => ?_)
                    refine Z_last hk hA dX0_fillRow_149 ar_9.1 ar_9.2.1 ar_9.2.2 (by omega) (by omega) (by omega) (by omega) ?_
                    refine Z_nm (fun m149 em149 => ?_)
                    refine Z_iinc8 hk rfl (by decide) dX0_fillRow_150 ?_
                    refine Z_goto hk (tgt := 58) dX0_fillRow_153 (by decide) ?_
                    refine Z_drop9 ?_
                    exact ih58 _ _ (by exact ⟨(by (try simp only [em149, f78_0, f58_0, em54, f43_0, and_true, true_and, or_true, true_or, implies_true, upn, reduceIte, Nat.reduceEqDiff, ne_eq, not_false_eq_true, upc]) <;> (omega)), (by intro c k0; simp only [em149, f78_0, f58_0, em54, f43_0, upc, upn, k0, reduceIte, Nat.reduceEqDiff, ne_eq, not_false_eq_true])⟩) (by (try simp only [em149, f78_0, f58_0, em54, f43_0, and_true, true_and, or_true, true_or, implies_true, upn, reduceIte, Nat.reduceEqDiff, ne_eq, not_false_eq_true, upc]) <;> (omega))
                  · refine Z_aload0 hk dX0_fillRow_84 ?_
                    refine Z_getR hk fl_0_11 dX0_fillRow_85 ob_8.1 ob_8.2.1 ob_8.2.2.1 ob_8.2.2.2 ft_0_0 rs_8_0 ?_
                    refine Z_iload9 hk dX0_fillRow_88 ?_
                    refine Z_aload0 hk dX0_fillRow_90 ?_
                    refine Z_getR hk fl_0_11 dX0_fillRow_91 ob_8.1 ob_8.2.1 ob_8.2.2.1 ob_8.2.2.2 ft_0_0 rs_8_0 ?_
                    refine Z_iload9 hk dX0_fillRow_94 ?_
                    refine Z_lald hk dX0_fillRow_96 ar_9.1 ar_9.2.1 ar_9.2.2 (by omega) (by omega) (fun v96 e96 a96 b96 => ?_)
                    try simp only [f78_0, f58_0, em54, f43_0, and_true, true_and, or_true, true_or, implies_true, upn, reduceIte, Nat.reduceEqDiff, ne_eq, not_false_eq_true, upc] at e96
                    refine Z_lload4 hk dX0_fillRow_97 ?_
                    refine Z_lload6 hk dX0_fillRow_99 ?_
                    refine Z_lsub hk dX0_fillRow_101 ?_
                    refine Z_lmul hk dX0_fillRow_102 ?_
                    refine Z_wJ (fun w102 a102w b102w g102w => ?_)
                    refine Z_lload4 hk dX0_fillRow_103 ?_
                    refine Z_ldiv hk dX0_fillRow_105 (by omega) (by omega) (by omega) (by omega) (by omega) ?_
                    refine Z_wJ (fun w105 a105w b105w g105w => ?_)
                    refine Z_aload0 hk dX0_fillRow_106 ?_
                    refine Z_getR hk fl_0_11 dX0_fillRow_107 ob_8.1 ob_8.2.1 ob_8.2.2.1 ob_8.2.2.2 ft_0_0 rs_8_0 ?_
                    refine Z_iload9 hk dX0_fillRow_110 ?_
                    refine Z_iconst hk dX0_fillRow_112 ?_
                    refine Z_isub hk dX0_fillRow_113 ?_
                    refine Z_lald hk dX0_fillRow_114 ar_9.1 ar_9.2.1 ar_9.2.2 (by omega) (by omega) (fun v114 e114 a114 b114 => ?_)
                    try simp only [f78_0, f58_0, em54, f43_0, e96, and_true, true_and, or_true, true_or, implies_true, upn, reduceIte, Nat.reduceEqDiff, ne_eq, not_false_eq_true, upc] at e114
                    refine Z_lload6 hk dX0_fillRow_115 ?_
                    refine Z_lmul hk dX0_fillRow_117 ?_
                    refine Z_wJ (fun w117 a117w b117w g117w => ?_)
                    refine Z_lload4 hk dX0_fillRow_118 ?_
                    refine Z_ldiv hk dX0_fillRow_120 (by omega) (by omega) (by omega) (by omega) (by omega) ?_
                    refine Z_wJ (fun w120 a120w b120w g120w => ?_)
                    refine Z_ladd hk dX0_fillRow_121 ?_
                    refine Z_wJ (fun w121 a121w b121w g121w => ?_)
                    refine Z_last hk hA dX0_fillRow_122 ar_9.1 ar_9.2.1 ar_9.2.2 (by omega) (by omega) (by omega) (by omega) ?_
                    refine Z_nm (fun m122 em122 => ?_)
                    refine Z_iinc9 hk rfl (by decide) dX0_fillRow_123 ?_
                    refine Z_goto hk (tgt := 78) dX0_fillRow_126 (by decide) ?_
                    exact ih78 _ _ (by exact ⟨(by (try simp only [em122, f78_0, f58_0, em54, f43_0, and_true, true_and, or_true, true_or, implies_true, upn, reduceIte, Nat.reduceEqDiff, ne_eq, not_false_eq_true, upc]) <;> (omega)), (by intro c k0; simp only [em122, f78_0, f58_0, em54, f43_0, upc, upn, k0, reduceIte, Nat.reduceEqDiff, ne_eq, not_false_eq_true])⟩) (by (try simp only [em122, f78_0, f58_0, em54, f43_0, and_true, true_and, or_true, true_or, implies_true, upn, reduceIte, Nat.reduceEqDiff, ne_eq, not_false_eq_true, upc]) <;> (omega))
              refine Z_istore9 hk rfl (by decide) dX0_fillRow_76 ?_
              exact J78 (((x8_58) : Int).toNat + 1) _ _ (by exact ⟨(by (try simp only [f58_0, em54, f43_0, and_true, true_and, or_true, true_or, implies_true, upn, reduceIte, Nat.reduceEqDiff, ne_eq, not_false_eq_true, upc]) <;> (omega)), (by intro c k0; simp only [f58_0, em54, f43_0, upc, upn, k0, reduceIte, Nat.reduceEqDiff, ne_eq, not_false_eq_true])⟩) (by omega)
      refine Z_istore8 hk rfl (by decide) dX0_fillRow_56 ?_
      exact J58 (((31 - 1) : Int).toNat + 1) _ _ (by exact ⟨(by (try simp only [em54, f43_0, and_true, true_and, or_true, true_or, implies_true, upn, reduceIte, Nat.reduceEqDiff, ne_eq, not_false_eq_true, upc]) <;> (omega)), (by intro c k0; simp only [em54, f43_0, upc, upn, k0, reduceIte, Nat.reduceEqDiff, ne_eq, not_false_eq_true])⟩) (by omega)
    refine Z_if_eq hk (tgt := 30) dX0_fillRow_16 (by decide) (by omega) (by omega) (fun h16 => ?_) (fun h16 => ?_)
    · refine Z_sipush hk dX0_fillRow_30 (by decide) ?_
      refine Z_iload2 hk dX0_fillRow_33 ?_
      refine Z_iadd hk dX0_fillRow_34 ?_
      refine Z_i2l hk dX0_fillRow_35 (by omega) (by omega) ?_
      exact J36 _ (by omega)
    · refine Z_sipush hk dX0_fillRow_19 (by decide) ?_
      refine Z_iconst hk dX0_fillRow_22 ?_
      refine Z_iload2 hk dX0_fillRow_23 ?_
      refine Z_imul hk dX0_fillRow_24 ?_
      refine Z_iadd hk dX0_fillRow_25 ?_
      refine Z_i2l hk dX0_fillRow_26 (by omega) (by omega) ?_
      refine Z_goto hk (tgt := 36) dX0_fillRow_27 (by decide) ?_
      exact J36 _ (by omega)
  refine Z_if_eq hk (tgt := 10) dX0_fillRow_1 (by decide) (by omega) (by omega) (fun h1 => ?_) (fun h1 => ?_)
  · refine Z_ldc2_w hk (n := 2000) (mem_g (by decide +kernel)) dX0_fillRow_10 ?_
    exact J13 _ (by omega)
  · refine Z_ldc2_w hk (n := 3000) (mem_g (by decide +kernel)) dX0_fillRow_4 ?_
    refine Z_goto hk (tgt := 13) dX0_fillRow_7 (by decide) ?_
    exact J13 _ (by omega)
set_option maxRecDepth 10000 in
theorem c_X0_sum (l : Launch) (δ : Dp) (ad : Nat → Nat) (M : Mem) (hA : okA δ ad) (z : Int) (s : Int) (nn : Int) (a : Int) (b : Int) (q0 : -1 ≤ s ∧ s ≤ 1001) (q1 : z = 0 ∨ z = 1) (q2 : a ≤ 31 ∧ -2147483648 ≤ a) (i_nn : -2147483648 ≤ nn ∧ nn ≤ 2147483647) (i_b : -2147483648 ≤ b ∧ b ≤ 2147483647) : Mj l δ yX0_sum cX0_sum 9 (some (.long)) 2 53 ad rs [.ref (ad 8), iv z, iv s, iv nn, iv a, iv b] M (fun r M' => (-9223372036854775808 ≤ r ∧ r ≤ 9223372036854775807) ∧ (∀ c : Nat, c ≠ 9 → M' c = M c)) := by
  refine Mg.of (rm := rmN 2 53) (by decide) (Nat.le_of_ble_eq_true rfl) fun κ _ hk _ => ?_
  generalize hQ : Qg κ δ 121 (rmN 2 53).cells (rmN 2 53).slots _ = Q
  show Zj κ δ ad rs Q 9 (121, 0, 0) 0 [some (.ref (ad 8)), some (iv z), some (iv s), some (iv nn), some (iv a), some (iv b), none, none, none] [] M
  refine Z_aload0 hk dX0_sum_0 ?_
  refine Z_iload1 hk dX0_sum_1 ?_
  refine Z_iload2 hk dX0_sum_2 ?_
  refine Z_iload3 hk dX0_sum_3 ?_
  refine Z_Vv hk (c_X0_fillRow κ.2.1 δ ad _ hA z s nn (by (omega)) (by (omega)) (by (omega))) ov_X0_fillRow ml_X0_47 dX0_sum_4 rfl ⟨by decide, by decide⟩ ob_8.1 (by decide) (by decide) rfl (Nat.le_of_ble_eq_true rfl) (fun m4 p4 => ?_)
  obtain ⟨p4, f4_0⟩ := p4
  try simp only [f4_0, and_true, true_and, or_true, true_or, implies_true, upn, reduceIte, Nat.reduceEqDiff, ne_eq, not_false_eq_true, upc] at p4
  refine Z_lconst0 hk dX0_sum_7 ?_
  refine Z_lstore6 hk rfl (by decide) dX0_sum_8 ?_
  refine Z_iconst hk dX0_sum_10 ?_
  refine Z_iload4 hk dX0_sum_11 ?_
  refine Z_Si hk (c_J9_max_7cf53 κ.2.1 δ ad _ hA 0 a (by (try simp only [f4_0, and_true, true_and, or_true, true_or, implies_true, upn, reduceIte, Nat.reduceEqDiff, ne_eq, not_false_eq_true, upc]) <;> (omega)) (by (try simp only [f4_0, and_true, true_and, or_true, true_or, implies_true, upn, reduceIte, Nat.reduceEqDiff, ne_eq, not_false_eq_true, upc]) <;> (omega))) os_J9_max_7cf53 ml_X0_51 dX0_sum_13 rfl ⟨by decide, by decide⟩ rfl (Nat.le_of_ble_eq_true rfl) (fun r13 m13 p13 => ?_)
  obtain ⟨rfl, p13⟩ := p13
  try simp only [f4_0, and_true, true_and, or_true, true_or, implies_true, upn, reduceIte, Nat.reduceEqDiff, ne_eq, not_false_eq_true, upc] at p13
  have J18 : ∀ (n : Nat) (x6_18 : Int) (x8_18 : Int), (0 ≤ x8_18 ∧ x8_18 ≤ 31 ∧ -9223372036854775808 ≤ x6_18 ∧ x6_18 ≤ 9223372036854775807) → (31 - x8_18) < (n : Int) → Zj κ δ ad rs Q 9 (121, 0, 0) 18 [some (.ref (ad 8)), some (iv z), some (iv s), some (iv nn), some (iv a), some (iv b), some (jv x6_18), none, some (iv x8_18)] [] m4 := by
    intro n
    induction n with
    | zero => intro x6_18 x8_18 h18 hm18; exfalso; (try simp only [f4_0, and_true, true_and, or_true, true_or, implies_true, upn, reduceIte, Nat.reduceEqDiff, ne_eq, not_false_eq_true, upc] at h18 hm18); omega
    | succ n ih18 =>
      intro x6_18 x8_18 h18 hm18
      try simp only [f4_0, and_true, true_and, or_true, true_or, implies_true, upn, reduceIte, Nat.reduceEqDiff, ne_eq, not_false_eq_true, upc] at h18 hm18
      refine Z_iload8 hk dX0_sum_18 ?_
      refine Z_iload5 hk dX0_sum_20 ?_
      refine Z_icmp_gt hk (tgt := 53) dX0_sum_22 (by decide) (by omega) (by omega) (by omega) (by omega) (fun h22 => ?_) (fun h22 => ?_)
      · refine Z_lload6 hk dX0_sum_53 ?_
        exact Z_lret hk hA hQ dX0_sum_55 ⟨rfl, rfl, _, rfl, (by exact ⟨(by (try simp only [f4_0, and_true, true_and, or_true, true_or, implies_true, upn, reduceIte, Nat.reduceEqDiff, ne_eq, not_false_eq_true, upc]) <;> (omega)), (by intro c k0; simp only [f4_0, upc, upn, k0, reduceIte, Nat.reduceEqDiff, ne_eq, not_false_eq_true])⟩)⟩
      · refine Z_iload8 hk dX0_sum_25 ?_
        refine Z_aload0 hk dX0_sum_27 ?_
        refine Z_getR hk fl_0_11 dX0_sum_28 ob_8.1 ob_8.2.1 ob_8.2.2.1 ob_8.2.2.2 ft_0_0 rs_8_0 ?_
        refine Z_alen hk (i := 0) dX0_sum_31 ar_9.1 (by decide) ar_9.2.1 ?_
        refine Z_icmp_ge hk (tgt := 53) dX0_sum_32 (by decide) (by omega) (by omega) (by decide) (by decide) (fun h32 => ?_) (fun h32 => ?_)
        · refine Z_lload6 hk dX0_sum_53 ?_
          exact Z_lret hk hA hQ dX0_sum_55 ⟨rfl, rfl, _, rfl, (by exact ⟨(by (try simp only [f4_0, and_true, true_and, or_true, true_or, implies_true, upn, reduceIte, Nat.reduceEqDiff, ne_eq, not_false_eq_true, upc]) <;> (omega)), (by intro c k0; simp only [f4_0, upc, upn, k0, reduceIte, Nat.reduceEqDiff, ne_eq, not_false_eq_true])⟩)⟩
        · refine Z_lload6 hk dX0_sum_35 ?_
          refine Z_aload0 hk dX0_sum_37 ?_
          refine Z_getR hk fl_0_11 dX0_sum_38 ob_8.1 ob_8.2.1 ob_8.2.2.1 ob_8.2.2.2 ft_0_0 rs_8_0 ?_
          refine Z_iload8 hk dX0_sum_41 ?_
          refine Z_lald hk dX0_sum_43 ar_9.1 ar_9.2.1 ar_9.2.2 (by omega) (by omega) (fun v43 e43 a43 b43 => ?_)
          try simp only [f4_0, and_true, true_and, or_true, true_or, implies_true, upn, reduceIte, Nat.reduceEqDiff, ne_eq, not_false_eq_true, upc] at e43
          refine Z_ladd hk dX0_sum_44 ?_
          refine Z_wJ (fun w44 a44w b44w g44w => ?_)
          refine Z_lstore6 hk rfl (by decide) dX0_sum_45 ?_
          refine Z_iinc8 hk rfl (by decide) dX0_sum_47 ?_
          refine Z_goto hk (tgt := 18) dX0_sum_50 (by decide) ?_
          exact ih18 _ _ (by (try simp only [f4_0, and_true, true_and, or_true, true_or, implies_true, upn, reduceIte, Nat.reduceEqDiff, ne_eq, not_false_eq_true, upc]) <;> (omega)) (by (try simp only [f4_0, and_true, true_and, or_true, true_or, implies_true, upn, reduceIte, Nat.reduceEqDiff, ne_eq, not_false_eq_true, upc]) <;> (omega))
  refine Z_istore8 hk rfl (by decide) dX0_sum_16 ?_
  exact J18 (((31 - r13) : Int).toNat + 1) _ _ (by (try simp only [f4_0, and_true, true_and, or_true, true_or, implies_true, upn, reduceIte, Nat.reduceEqDiff, ne_eq, not_false_eq_true, upc]) <;> (omega)) (by omega)
set_option maxRecDepth 10000 in
theorem c_X0_leastShare (l : Launch) (δ : Dp) (ad : Nat → Nat) (M : Mem) (hA : okA δ ad) (z : Int) (k : Int) (nn : Int) (q0 : 0 ≤ nn ∧ nn ≤ 30 ∧ 0 ≤ k ∧ k ≤ nn) (q1 : z = 0 ∨ z = 1) : Mi l δ yX0_leastShare cX0_leastShare 8 (some (.int)) 3 81 ad rs [.ref (ad 8), iv z, iv k, iv nn] M (fun r M' => (0 ≤ r ∧ r ≤ 1000) ∧ (∀ c : Nat, c ≠ 9 → M' c = M c)) := by
  refine Mg.of (rm := rmN 3 81) (by decide) (Nat.le_of_ble_eq_true rfl) fun κ _ hk _ => ?_
  generalize hQ : Qg κ δ 121 (rmN 3 81).cells (rmN 3 81).slots _ = Q
  show Zj κ δ ad rs Q 8 (121, 0, 0) 0 [some (.ref (ad 8)), some (iv z), some (iv k), some (iv nn), none, none, none, none] [] M
  refine Z_iconst hk dX0_leastShare_0 ?_
  refine Z_istore4 hk rfl (by decide) dX0_leastShare_1 ?_
  refine Z_sipush hk dX0_leastShare_3 (by decide) ?_
  refine Z_istore5 hk rfl (by decide) dX0_leastShare_6 ?_
  refine Z_iconst hk dX0_leastShare_8 ?_
  have J11 : ∀ (n : Nat) (x4_11 : Int) (x5_11 : Int) (x6_11 : Int) (m11 : Mem), ((0 ≤ x6_11 ∧ x6_11 ≤ 10 ∧ 0 ≤ x4_11 ∧ x4_11 ≤ 1001 ∧ 0 ≤ x5_11 ∧ x5_11 ≤ 1001) ∧ (∀ c : Nat, c ≠ 9 → m11 c = M c)) → (10 - x6_11) < (n : Int) → Zj κ δ ad rs Q 8 (121, 0, 0) 11 [some (.ref (ad 8)), some (iv z), some (iv k), some (iv nn), some (iv x4_11), some (iv x5_11), some (iv x6_11), none] [] m11 := by
    intro n
    induction n with
    | zero => intro x4_11 x5_11 x6_11 m11 h11 hm11; exfalso; obtain ⟨h11, -⟩ := h11; omega
    | succ n ih11 =>
      intro x4_11 x5_11 x6_11 m11 h11 hm11
      obtain ⟨h11, f11_0⟩ := h11
      try simp only [f11_0, and_true, true_and, or_true, true_or, implies_true, upn, reduceIte, Nat.reduceEqDiff, ne_eq, not_false_eq_true, upc] at h11 hm11
      refine Z_iload6 hk dX0_leastShare_11 ?_
      refine Z_bipush hk dX0_leastShare_13 (by decide) ?_
      have J70 : ∀ (_ : Unit), (True) → Zj κ δ ad rs Q 8 (121, 0, 0) 70 [some (.ref (ad 8)), some (iv z), some (iv k), some (iv nn), some (iv x4_11), some (iv x5_11), some (iv x6_11), none] [] m11 := by
        intro _ h70
        try simp only [f11_0, and_true, true_and, or_true, true_or, implies_true, upn, reduceIte, Nat.reduceEqDiff, ne_eq, not_false_eq_true, upc] at h70
        refine Z_iload4 hk dX0_leastShare_70 ?_
        have J74 : ∀ (n : Nat) (x6_74 : Int) (m74 : Mem), ((0 ≤ x6_74 ∧ x6_74 ≤ 1001) ∧ (∀ c : Nat, c ≠ 9 → m74 c = m11 c)) → (1001 - x6_74) < (n : Int) → Zj κ δ ad rs Q 8 (121, 0, 0) 74 [some (.ref (ad 8)), some (iv z), some (iv k), some (iv nn), some (iv x4_11), some (iv x5_11), some (iv x6_74), none] [] m74 := by
          intro n
          induction n with
          | zero => intro x6_74 m74 h74 hm74; exfalso; obtain ⟨h74, -⟩ := h74; omega
          | succ n ih74 =>
            intro x6_74 m74 h74 hm74
            obtain ⟨h74, f74_0⟩ := h74
            try simp only [f74_0, f11_0, and_true, true_and, or_true, true_or, implies_true, upn, reduceIte, Nat.reduceEqDiff, ne_eq, not_false_eq_true, upc] at h74 hm74
            refine Z_iload6 hk dX0_leastShare_74 ?_
            refine Z_sipush hk dX0_leastShare_76 (by decide) ?_
            refine Z_icmp_gt hk (tgt := 108) dX0_leastShare_79 (by decide) (by omega) (by omega) (by decide) (by decide) (fun h79 => ?_) (fun h79 => ?_)
            · refine Z_sipush hk dX0_leastShare_108 (by decide) ?_
              exact Z_iret hk hA hQ dX0_leastShare_111 ⟨rfl, rfl, _, rfl, (by exact ⟨(by (try simp only [f74_0, f11_0, and_true, true_and, or_true, true_or, implies_true, upn, reduceIte, Nat.reduceEqDiff, ne_eq, not_false_eq_true, upc]) <;> (omega)), (by intro c k0; simp only [f74_0, f11_0, upc, upn, k0, reduceIte, Nat.reduceEqDiff, ne_eq, not_false_eq_true])⟩)⟩
            · refine Z_aload0 hk dX0_leastShare_82 ?_
              refine Z_iload1 hk dX0_leastShare_83 ?_
              refine Z_iload6 hk dX0_leastShare_84 ?_
              refine Z_iload3 hk dX0_leastShare_86 ?_
              refine Z_iload2 hk dX0_leastShare_87 ?_
              refine Z_iload3 hk dX0_leastShare_88 ?_
              refine Z_Vj hk (c_X0_sum κ.2.1 δ ad _ hA z x6_74 nn k nn (by (try simp only [f74_0, f11_0, and_true, true_and, or_true, true_or, implies_true, upn, reduceIte, Nat.reduceEqDiff, ne_eq, not_false_eq_true, upc]) <;> (omega)) (by (try simp only [f74_0, f11_0, and_true, true_and, or_true, true_or, implies_true, upn, reduceIte, Nat.reduceEqDiff, ne_eq, not_false_eq_true, upc]) <;> (omega)) (by (try simp only [f74_0, f11_0, and_true, true_and, or_true, true_or, implies_true, upn, reduceIte, Nat.reduceEqDiff, ne_eq, not_false_eq_true, upc]) <;> (omega)) (by (try simp only [f74_0, f11_0, and_true, true_and, or_true, true_or, implies_true, upn, reduceIte, Nat.reduceEqDiff, ne_eq, not_false_eq_true, upc]) <;> (omega)) (by (try simp only [f74_0, f11_0, and_true, true_and, or_true, true_or, implies_true, upn, reduceIte, Nat.reduceEqDiff, ne_eq, not_false_eq_true, upc]) <;> (omega))) ov_X0_sum ml_X0_54 dX0_leastShare_89 rfl ⟨by decide, by decide⟩ ob_8.1 (by decide) (by decide) rfl (Nat.le_of_ble_eq_true rfl) (fun r89 m89 p89 => ?_)
              obtain ⟨p89, f89_0⟩ := p89
              try simp only [f89_0, f74_0, f11_0, and_true, true_and, or_true, true_or, implies_true, upn, reduceIte, Nat.reduceEqDiff, ne_eq, not_false_eq_true, upc] at p89
              refine Z_ldc2_w hk (n := 26843545) (mem_g (by decide +kernel)) dX0_leastShare_92 ?_
              refine Z_lcmp hk dX0_leastShare_95 (by omega) (by omega) (by omega) (by omega) (fun v95 e95 => ?_)
              refine Z_if_lt hk (tgt := 102) dX0_leastShare_96 (by decide) (by omega) (by omega) (fun h96 => ?_) (fun h96 => ?_)
              · refine Z_iinc6 hk rfl (by decide) dX0_leastShare_102 ?_
                refine Z_goto hk (tgt := 74) dX0_leastShare_105 (by decide) ?_
                exact ih74 _ _ (by exact ⟨(by (try simp only [f89_0, f74_0, f11_0, and_true, true_and, or_true, true_or, implies_true, upn, reduceIte, Nat.reduceEqDiff, ne_eq, not_false_eq_true, upc]) <;> (omega)), (by intro c k0; simp only [f89_0, f74_0, f11_0, upc, upn, k0, reduceIte, Nat.reduceEqDiff, ne_eq, not_false_eq_true])⟩) (by (try simp only [f89_0, f74_0, f11_0, and_true, true_and, or_true, true_or, implies_true, upn, reduceIte, Nat.reduceEqDiff, ne_eq, not_false_eq_true, upc]) <;> (omega))
              · refine Z_iload6 hk dX0_leastShare_99 ?_
                exact Z_iret hk hA hQ dX0_leastShare_101 ⟨rfl, rfl, _, rfl, (by exact ⟨(by (try simp only [f89_0, f74_0, f11_0, and_true, true_and, or_true, true_or, implies_true, upn, reduceIte, Nat.reduceEqDiff, ne_eq, not_false_eq_true, upc]) <;> (omega)), (by intro c k0; simp only [f89_0, f74_0, f11_0, upc, upn, k0, reduceIte, Nat.reduceEqDiff, ne_eq, not_false_eq_true])⟩)⟩
        refine Z_istore6 hk rfl (by decide) dX0_leastShare_72 ?_
        exact J74 (((1001 - x4_11) : Int).toNat + 1) _ _ (by exact ⟨(by (try simp only [f11_0, and_true, true_and, or_true, true_or, implies_true, upn, reduceIte, Nat.reduceEqDiff, ne_eq, not_false_eq_true, upc]) <;> (omega)), (by intro c k0; simp only [f11_0, upc, upn, k0, reduceIte, Nat.reduceEqDiff, ne_eq, not_false_eq_true])⟩) (by omega)
      refine Z_icmp_ge hk (tgt := 70) dX0_leastShare_15 (by decide) (by omega) (by omega) (by decide) (by decide) (fun h15 => ?_) (fun h15 => ?_)
      · exact J70 () (by trivial)
      · refine Z_iload4 hk dX0_leastShare_18 ?_
        refine Z_iload5 hk dX0_leastShare_20 ?_
        refine Z_icmp_ge hk (tgt := 70) dX0_leastShare_22 (by decide) (by omega) (by omega) (by omega) (by omega) (fun h22 => ?_) (fun h22 => ?_)
        · exact J70 () (by trivial)
        · refine Z_iload4 hk dX0_leastShare_25 ?_
          refine Z_iload5 hk dX0_leastShare_27 ?_
          refine Z_iadd hk dX0_leastShare_29 ?_
          refine Z_iconst hk dX0_leastShare_30 ?_
          refine Z_idiv hk dX0_leastShare_31 (by omega) (by omega) (by decide) (by decide) (by decide) ?_
          have g32 : Int.tdiv (x4_11 + x5_11) 2 = (x4_11 + x5_11) / 2 := Int.tdiv_eq_ediv_of_nonneg (by omega)
          refine Z_istore7 hk rfl (by decide) dX0_leastShare_32 ?_
          refine Z_aload0 hk dX0_leastShare_34 ?_
          refine Z_iload1 hk dX0_leastShare_35 ?_
          refine Z_iload7 hk dX0_leastShare_36 ?_
          refine Z_iload3 hk dX0_leastShare_38 ?_
          refine Z_iload2 hk dX0_leastShare_39 ?_
          refine Z_iload3 hk dX0_leastShare_40 ?_
          refine Z_Vj hk (c_X0_sum κ.2.1 δ ad _ hA z (Int.tdiv (x4_11 + x5_11) 2) nn k nn (by (try simp only [f11_0, and_true, true_and, or_true, true_or, implies_true, upn, reduceIte, Nat.reduceEqDiff, ne_eq, not_false_eq_true, upc]) <;> (omega)) (by (try simp only [f11_0, and_true, true_and, or_true, true_or, implies_true, upn, reduceIte, Nat.reduceEqDiff, ne_eq, not_false_eq_true, upc]) <;> (omega)) (by (try simp only [f11_0, and_true, true_and, or_true, true_or, implies_true, upn, reduceIte, Nat.reduceEqDiff, ne_eq, not_false_eq_true, upc]) <;> (omega)) (by (try simp only [f11_0, and_true, true_and, or_true, true_or, implies_true, upn, reduceIte, Nat.reduceEqDiff, ne_eq, not_false_eq_true, upc]) <;> (omega)) (by (try simp only [f11_0, and_true, true_and, or_true, true_or, implies_true, upn, reduceIte, Nat.reduceEqDiff, ne_eq, not_false_eq_true, upc]) <;> (omega))) ov_X0_sum ml_X0_54 dX0_leastShare_41 rfl ⟨by decide, by decide⟩ ob_8.1 (by decide) (by decide) rfl (Nat.le_of_ble_eq_true rfl) (fun r41 m41 p41 => ?_)
          obtain ⟨p41, f41_0⟩ := p41
          try simp only [f41_0, f11_0, and_true, true_and, or_true, true_or, implies_true, upn, reduceIte, Nat.reduceEqDiff, ne_eq, not_false_eq_true, upc] at p41
          refine Z_ldc2_w hk (n := 26842545) (mem_g (by decide +kernel)) dX0_leastShare_44 ?_
          refine Z_lcmp hk dX0_leastShare_47 (by omega) (by omega) (by omega) (by omega) (fun v47 e47 => ?_)
          have J64 : ∀ (x4_64 : Int) (x5_64 : Int), (0 ≤ x4_64 ∧ x4_64 ≤ 1001 ∧ 0 ≤ x5_64 ∧ x5_64 ≤ 1001) → Zj κ δ ad rs Q 8 (121, 0, 0) 64 [some (.ref (ad 8)), some (iv z), some (iv k), some (iv nn), some (iv x4_64), some (iv x5_64), some (iv x6_11), some (iv (Int.tdiv (x4_11 + x5_11) 2))] [] m41 := by
            intro x4_64 x5_64 h64
            try simp only [f41_0, f11_0, and_true, true_and, or_true, true_or, implies_true, upn, reduceIte, Nat.reduceEqDiff, ne_eq, not_false_eq_true, upc] at h64
            refine Z_iinc6 hk rfl (by decide) dX0_leastShare_64 ?_
            refine Z_goto hk (tgt := 11) dX0_leastShare_67 (by decide) ?_
            refine Z_drop7 ?_
            exact ih11 _ _ _ _ (by exact ⟨(by (try simp only [f41_0, f11_0, and_true, true_and, or_true, true_or, implies_true, upn, reduceIte, Nat.reduceEqDiff, ne_eq, not_false_eq_true, upc]) <;> (omega)), (by intro c k0; simp only [f41_0, f11_0, upc, upn, k0, reduceIte, Nat.reduceEqDiff, ne_eq, not_false_eq_true])⟩) (by (try simp only [f41_0, f11_0, and_true, true_and, or_true, true_or, implies_true, upn, reduceIte, Nat.reduceEqDiff, ne_eq, not_false_eq_true, upc]) <;> (omega))
          refine Z_if_ge hk (tgt := 60) dX0_leastShare_48 (by decide) (by omega) (by omega) (fun h48 => ?_) (fun h48 => ?_)
          · refine Z_iload7 hk dX0_leastShare_60 ?_
            refine Z_istore5 hk rfl (by decide) dX0_leastShare_62 ?_
            exact J64 _ _ (by (try simp only [f41_0, f11_0, and_true, true_and, or_true, true_or, implies_true, upn, reduceIte, Nat.reduceEqDiff, ne_eq, not_false_eq_true, upc]) <;> (omega))
          · refine Z_iload7 hk dX0_leastShare_51 ?_
            refine Z_iconst hk dX0_leastShare_53 ?_
            refine Z_iadd hk dX0_leastShare_54 ?_
            refine Z_istore4 hk rfl (by decide) dX0_leastShare_55 ?_
            refine Z_goto hk (tgt := 64) dX0_leastShare_57 (by decide) ?_
            exact J64 _ _ (by (try simp only [f41_0, f11_0, and_true, true_and, or_true, true_or, implies_true, upn, reduceIte, Nat.reduceEqDiff, ne_eq, not_false_eq_true, upc]) <;> (omega))
  refine Z_istore6 hk rfl (by decide) dX0_leastShare_9 ?_
  exact J11 (((10 - 0) : Int).toNat + 1) _ _ _ _ (by exact ⟨(by (omega)), (by intro c k0; rfl)⟩) (by omega)
set_option maxRecDepth 10000 in
theorem c_X0_mostShare (l : Launch) (δ : Dp) (ad : Nat → Nat) (M : Mem) (hA : okA δ ad) (z : Int) (k : Int) (nn : Int) (q0 : 0 ≤ nn ∧ nn ≤ 30 ∧ 0 ≤ k ∧ k ≤ nn) (q1 : z = 0 ∨ z = 1) : Mi l δ yX0_mostShare cX0_mostShare 8 (some (.int)) 3 81 ad rs [.ref (ad 8), iv z, iv k, iv nn] M (fun r M' => (0 ≤ r ∧ r ≤ 1000) ∧ (∀ c : Nat, c ≠ 9 → M' c = M c)) := by
  refine Mg.of (rm := rmN 3 81) (by decide) (Nat.le_of_ble_eq_true rfl) fun κ _ hk _ => ?_
  generalize hQ : Qg κ δ 121 (rmN 3 81).cells (rmN 3 81).slots _ = Q
  show Zj κ δ ad rs Q 8 (121, 0, 0) 0 [some (.ref (ad 8)), some (iv z), some (iv k), some (iv nn), none, none, none, none] [] M
  refine Z_iconst hk dX0_mostShare_0 ?_
  refine Z_istore4 hk rfl (by decide) dX0_mostShare_1 ?_
  refine Z_sipush hk dX0_mostShare_3 (by decide) ?_
  refine Z_istore5 hk rfl (by decide) dX0_mostShare_6 ?_
  refine Z_iconst hk dX0_mostShare_8 ?_
  have J11 : ∀ (n : Nat) (x4_11 : Int) (x5_11 : Int) (x6_11 : Int) (m11 : Mem), ((0 ≤ x6_11 ∧ x6_11 ≤ 10 ∧ -1 ≤ x4_11 ∧ x4_11 ≤ 1000 ∧ -1 ≤ x5_11 ∧ x5_11 ≤ 1000) ∧ (∀ c : Nat, c ≠ 9 → m11 c = M c)) → (10 - x6_11) < (n : Int) → Zj κ δ ad rs Q 8 (121, 0, 0) 11 [some (.ref (ad 8)), some (iv z), some (iv k), some (iv nn), some (iv x4_11), some (iv x5_11), some (iv x6_11), none] [] m11 := by
    intro n
    induction n with
    | zero => intro x4_11 x5_11 x6_11 m11 h11 hm11; exfalso; obtain ⟨h11, -⟩ := h11; omega
    | succ n ih11 =>
      intro x4_11 x5_11 x6_11 m11 h11 hm11
      obtain ⟨h11, f11_0⟩ := h11
      try simp only [f11_0, and_true, true_and, or_true, true_or, implies_true, upn, reduceIte, Nat.reduceEqDiff, ne_eq, not_false_eq_true, upc] at h11 hm11
      refine Z_iload6 hk dX0_mostShare_11 ?_
      refine Z_bipush hk dX0_mostShare_13 (by decide) ?_
      have J72 : ∀ (_ : Unit), (True) → Zj κ δ ad rs Q 8 (121, 0, 0) 72 [some (.ref (ad 8)), some (iv z), some (iv k), some (iv nn), some (iv x4_11), some (iv x5_11), some (iv x6_11), none] [] m11 := by
        intro _ h72
        try simp only [f11_0, and_true, true_and, or_true, true_or, implies_true, upn, reduceIte, Nat.reduceEqDiff, ne_eq, not_false_eq_true, upc] at h72
        refine Z_iload5 hk dX0_mostShare_72 ?_
        have J76 : ∀ (n : Nat) (x6_76 : Int) (m76 : Mem), ((-1 ≤ x6_76 ∧ x6_76 ≤ 1000) ∧ (∀ c : Nat, c ≠ 9 → m76 c = m11 c)) → (x6_76 + 1) < (n : Int) → Zj κ δ ad rs Q 8 (121, 0, 0) 76 [some (.ref (ad 8)), some (iv z), some (iv k), some (iv nn), some (iv x4_11), some (iv x5_11), some (iv x6_76), none] [] m76 := by
          intro n
          induction n with
          | zero => intro x6_76 m76 h76 hm76; exfalso; obtain ⟨h76, -⟩ := h76; omega
          | succ n ih76 =>
            intro x6_76 m76 h76 hm76
            obtain ⟨h76, f76_0⟩ := h76
            try simp only [f76_0, f11_0, and_true, true_and, or_true, true_or, implies_true, upn, reduceIte, Nat.reduceEqDiff, ne_eq, not_false_eq_true, upc] at h76 hm76
            refine Z_iload6 hk dX0_mostShare_76 ?_
            refine Z_if_lt hk (tgt := 107) dX0_mostShare_78 (by decide) (by omega) (by omega) (fun h78 => ?_) (fun h78 => ?_)
            · refine Z_iconst hk dX0_mostShare_107 ?_
              exact Z_iret hk hA hQ dX0_mostShare_108 ⟨rfl, rfl, _, rfl, (by exact ⟨(by (try simp only [f76_0, f11_0, and_true, true_and, or_true, true_or, implies_true, upn, reduceIte, Nat.reduceEqDiff, ne_eq, not_false_eq_true, upc]) <;> (omega)), (by intro c k0; simp only [f76_0, f11_0, upc, upn, k0, reduceIte, Nat.reduceEqDiff, ne_eq, not_false_eq_true])⟩)⟩
            · refine Z_aload0 hk dX0_mostShare_81 ?_
              refine Z_iload1 hk dX0_mostShare_82 ?_
              refine Z_iload6 hk dX0_mostShare_83 ?_
              refine Z_iload3 hk dX0_mostShare_85 ?_
              refine Z_iconst hk dX0_mostShare_86 ?_
              refine Z_iload2 hk dX0_mostShare_87 ?_
              refine Z_Vj hk (c_X0_sum κ.2.1 δ ad _ hA z x6_76 nn 0 k (by (try simp only [f76_0, f11_0, and_true, true_and, or_true, true_or, implies_true, upn, reduceIte, Nat.reduceEqDiff, ne_eq, not_false_eq_true, upc]) <;> (omega)) (by (try simp only [f76_0, f11_0, and_true, true_and, or_true, true_or, implies_true, upn, reduceIte, Nat.reduceEqDiff, ne_eq, not_false_eq_true, upc]) <;> (omega)) (by (try simp only [f76_0, f11_0, and_true, true_and, or_true, true_or, implies_true, upn, reduceIte, Nat.reduceEqDiff, ne_eq, not_false_eq_true, upc]) <;> (omega)) (by (try simp only [f76_0, f11_0, and_true, true_and, or_true, true_or, implies_true, upn, reduceIte, Nat.reduceEqDiff, ne_eq, not_false_eq_true, upc]) <;> (omega)) (by (try simp only [f76_0, f11_0, and_true, true_and, or_true, true_or, implies_true, upn, reduceIte, Nat.reduceEqDiff, ne_eq, not_false_eq_true, upc]) <;> (omega))) ov_X0_sum ml_X0_54 dX0_mostShare_88 rfl ⟨by decide, by decide⟩ ob_8.1 (by decide) (by decide) rfl (Nat.le_of_ble_eq_true rfl) (fun r88 m88 p88 => ?_)
              obtain ⟨p88, f88_0⟩ := p88
              try simp only [f88_0, f76_0, f11_0, and_true, true_and, or_true, true_or, implies_true, upn, reduceIte, Nat.reduceEqDiff, ne_eq, not_false_eq_true, upc] at p88
              refine Z_ldc2_w hk (n := 26843545) (mem_g (by decide +kernel)) dX0_mostShare_91 ?_
              refine Z_lcmp hk dX0_mostShare_94 (by omega) (by omega) (by omega) (by omega) (fun v94 e94 => ?_)
              refine Z_if_lt hk (tgt := 101) dX0_mostShare_95 (by decide) (by omega) (by omega) (fun h95 => ?_) (fun h95 => ?_)
              · refine Z_iinc6 hk rfl (by decide) dX0_mostShare_101 ?_
                refine Z_goto hk (tgt := 76) dX0_mostShare_104 (by decide) ?_
                exact ih76 _ _ (by exact ⟨(by (try simp only [f88_0, f76_0, f11_0, and_true, true_and, or_true, true_or, implies_true, upn, reduceIte, Nat.reduceEqDiff, ne_eq, not_false_eq_true, upc]) <;> (omega)), (by intro c k0; simp only [f88_0, f76_0, f11_0, upc, upn, k0, reduceIte, Nat.reduceEqDiff, ne_eq, not_false_eq_true])⟩) (by (try simp only [f88_0, f76_0, f11_0, and_true, true_and, or_true, true_or, implies_true, upn, reduceIte, Nat.reduceEqDiff, ne_eq, not_false_eq_true, upc]) <;> (omega))
              · refine Z_iload6 hk dX0_mostShare_98 ?_
                exact Z_iret hk hA hQ dX0_mostShare_100 ⟨rfl, rfl, _, rfl, (by exact ⟨(by (try simp only [f88_0, f76_0, f11_0, and_true, true_and, or_true, true_or, implies_true, upn, reduceIte, Nat.reduceEqDiff, ne_eq, not_false_eq_true, upc]) <;> (omega)), (by intro c k0; simp only [f88_0, f76_0, f11_0, upc, upn, k0, reduceIte, Nat.reduceEqDiff, ne_eq, not_false_eq_true])⟩)⟩
        refine Z_istore6 hk rfl (by decide) dX0_mostShare_74 ?_
        exact J76 (((x5_11 + 1) : Int).toNat + 1) _ _ (by exact ⟨(by (try simp only [f11_0, and_true, true_and, or_true, true_or, implies_true, upn, reduceIte, Nat.reduceEqDiff, ne_eq, not_false_eq_true, upc]) <;> (omega)), (by intro c k0; simp only [f11_0, upc, upn, k0, reduceIte, Nat.reduceEqDiff, ne_eq, not_false_eq_true])⟩) (by omega)
      refine Z_icmp_ge hk (tgt := 72) dX0_mostShare_15 (by decide) (by omega) (by omega) (by decide) (by decide) (fun h15 => ?_) (fun h15 => ?_)
      · exact J72 () (by trivial)
      · refine Z_iload4 hk dX0_mostShare_18 ?_
        refine Z_iload5 hk dX0_mostShare_20 ?_
        refine Z_icmp_ge hk (tgt := 72) dX0_mostShare_22 (by decide) (by omega) (by omega) (by omega) (by omega) (fun h22 => ?_) (fun h22 => ?_)
        · exact J72 () (by trivial)
        · refine Z_iload4 hk dX0_mostShare_25 ?_
          refine Z_iload5 hk dX0_mostShare_27 ?_
          refine Z_iadd hk dX0_mostShare_29 ?_
          refine Z_iconst hk dX0_mostShare_30 ?_
          refine Z_iadd hk dX0_mostShare_31 ?_
          refine Z_iconst hk dX0_mostShare_32 ?_
          refine Z_idiv hk dX0_mostShare_33 (by omega) (by omega) (by decide) (by decide) (by decide) ?_
          have g34 : Int.tdiv (x4_11 + x5_11 + 1) 2 = (x4_11 + x5_11 + 1) / 2 := Int.tdiv_eq_ediv_of_nonneg (by omega)
          refine Z_istore7 hk rfl (by decide) dX0_mostShare_34 ?_
          refine Z_aload0 hk dX0_mostShare_36 ?_
          refine Z_iload1 hk dX0_mostShare_37 ?_
          refine Z_iload7 hk dX0_mostShare_38 ?_
          refine Z_iload3 hk dX0_mostShare_40 ?_
          refine Z_iconst hk dX0_mostShare_41 ?_
          refine Z_iload2 hk dX0_mostShare_42 ?_
          refine Z_Vj hk (c_X0_sum κ.2.1 δ ad _ hA z (Int.tdiv ((x4_11 + x5_11) + 1) 2) nn 0 k (by (try simp only [f11_0, and_true, true_and, or_true, true_or, implies_true, upn, reduceIte, Nat.reduceEqDiff, ne_eq, not_false_eq_true, upc]) <;> (omega)) (by (try simp only [f11_0, and_true, true_and, or_true, true_or, implies_true, upn, reduceIte, Nat.reduceEqDiff, ne_eq, not_false_eq_true, upc]) <;> (omega)) (by (try simp only [f11_0, and_true, true_and, or_true, true_or, implies_true, upn, reduceIte, Nat.reduceEqDiff, ne_eq, not_false_eq_true, upc]) <;> (omega)) (by (try simp only [f11_0, and_true, true_and, or_true, true_or, implies_true, upn, reduceIte, Nat.reduceEqDiff, ne_eq, not_false_eq_true, upc]) <;> (omega)) (by (try simp only [f11_0, and_true, true_and, or_true, true_or, implies_true, upn, reduceIte, Nat.reduceEqDiff, ne_eq, not_false_eq_true, upc]) <;> (omega))) ov_X0_sum ml_X0_54 dX0_mostShare_43 rfl ⟨by decide, by decide⟩ ob_8.1 (by decide) (by decide) rfl (Nat.le_of_ble_eq_true rfl) (fun r43 m43 p43 => ?_)
          obtain ⟨p43, f43_0⟩ := p43
          try simp only [f43_0, f11_0, and_true, true_and, or_true, true_or, implies_true, upn, reduceIte, Nat.reduceEqDiff, ne_eq, not_false_eq_true, upc] at p43
          refine Z_ldc2_w hk (n := 26842545) (mem_g (by decide +kernel)) dX0_mostShare_46 ?_
          refine Z_lcmp hk dX0_mostShare_49 (by omega) (by omega) (by omega) (by omega) (fun v49 e49 => ?_)
          have J66 : ∀ (x4_66 : Int) (x5_66 : Int), (-1 ≤ x4_66 ∧ x4_66 ≤ 1000 ∧ -1 ≤ x5_66 ∧ x5_66 ≤ 1000) → Zj κ δ ad rs Q 8 (121, 0, 0) 66 [some (.ref (ad 8)), some (iv z), some (iv k), some (iv nn), some (iv x4_66), some (iv x5_66), some (iv x6_11), some (iv (Int.tdiv ((x4_11 + x5_11) + 1) 2))] [] m43 := by
            intro x4_66 x5_66 h66
            try simp only [f43_0, f11_0, and_true, true_and, or_true, true_or, implies_true, upn, reduceIte, Nat.reduceEqDiff, ne_eq, not_false_eq_true, upc] at h66
            refine Z_iinc6 hk rfl (by decide) dX0_mostShare_66 ?_
            refine Z_goto hk (tgt := 11) dX0_mostShare_69 (by decide) ?_
            refine Z_drop7 ?_
            exact ih11 _ _ _ _ (by exact ⟨(by (try simp only [f43_0, f11_0, and_true, true_and, or_true, true_or, implies_true, upn, reduceIte, Nat.reduceEqDiff, ne_eq, not_false_eq_true, upc]) <;> (omega)), (by intro c k0; simp only [f43_0, f11_0, upc, upn, k0, reduceIte, Nat.reduceEqDiff, ne_eq, not_false_eq_true])⟩) (by (try simp only [f43_0, f11_0, and_true, true_and, or_true, true_or, implies_true, upn, reduceIte, Nat.reduceEqDiff, ne_eq, not_false_eq_true, upc]) <;> (omega))
          refine Z_if_ge hk (tgt := 62) dX0_mostShare_50 (by decide) (by omega) (by omega) (fun h50 => ?_) (fun h50 => ?_)
          · refine Z_iload7 hk dX0_mostShare_62 ?_
            refine Z_istore4 hk rfl (by decide) dX0_mostShare_64 ?_
            exact J66 _ _ (by (try simp only [f43_0, f11_0, and_true, true_and, or_true, true_or, implies_true, upn, reduceIte, Nat.reduceEqDiff, ne_eq, not_false_eq_true, upc]) <;> (omega))
          · refine Z_iload7 hk dX0_mostShare_53 ?_
            refine Z_iconst hk dX0_mostShare_55 ?_
            refine Z_isub hk dX0_mostShare_56 ?_
            refine Z_istore5 hk rfl (by decide) dX0_mostShare_57 ?_
            refine Z_goto hk (tgt := 66) dX0_mostShare_59 (by decide) ?_
            exact J66 _ _ (by (try simp only [f43_0, f11_0, and_true, true_and, or_true, true_or, implies_true, upn, reduceIte, Nat.reduceEqDiff, ne_eq, not_false_eq_true, upc]) <;> (omega))
  refine Z_istore6 hk rfl (by decide) dX0_mostShare_9 ?_
  exact J11 (((10 - 0) : Int).toNat + 1) _ _ _ _ (by exact ⟨(by (omega)), (by intro c k0; rfl)⟩) (by omega)
set_option maxRecDepth 10000 in
theorem c_X0_isEnough (l : Launch) (δ : Dp) (ad : Nat → Nat) (M : Mem) (hA : okA δ ad) (z : Int) (nn : Int) (a : Int) (p : Int) (q0 : 0 ≤ nn ∧ nn ≤ 30) (q1 : z = 0 ∨ z = 1) (i_a : -2147483648 ≤ a ∧ a ≤ 2147483647) (i_p : -9223372036854775808 ≤ p ∧ p ≤ 9223372036854775807) : Mi l δ yX0_isEnough cX0_isEnough 9 (some (.boolean)) 2 53 ad rs [.ref (ad 8), iv z, iv nn, iv a, jv p] M (fun r M' => M = M' ∧ (0 ≤ r ∧ r ≤ 1)) := by
  refine Mg.of (rm := rmN 2 53) (by decide) (Nat.le_of_ble_eq_true rfl) fun κ _ hk _ => ?_
  generalize hQ : Qg κ δ 121 (rmN 2 53).cells (rmN 2 53).slots _ = Q
  show Zj κ δ ad rs Q 9 (121, 0, 0) 0 [some (.ref (ad 8)), some (iv z), some (iv nn), some (iv a), some (jv p), none, none, none, none] [] M
  refine Z_lconst0 hk dX0_isEnough_0 ?_
  refine Z_lstore6 hk rfl (by decide) dX0_isEnough_1 ?_
  refine Z_iload2 hk dX0_isEnough_3 ?_
  have J6 : ∀ (n : Nat) (x6_6 : Int) (x8_6 : Int), (-1 ≤ x8_6 ∧ x8_6 ≤ nn ∧ -9223372036854775808 ≤ x6_6 ∧ x6_6 ≤ 9223372036854775807) → (x8_6 + 1) < (n : Int) → Zj κ δ ad rs Q 9 (121, 0, 0) 6 [some (.ref (ad 8)), some (iv z), some (iv nn), some (iv a), some (jv p), none, some (jv x6_6), none, some (iv x8_6)] [] M := by
    intro n
    induction n with
    | zero => intro x6_6 x8_6 h6 hm6; exfalso; omega
    | succ n ih6 =>
      intro x6_6 x8_6 h6 hm6
      refine Z_iload8 hk dX0_isEnough_6 ?_
      refine Z_if_lt hk (tgt := 54) dX0_isEnough_8 (by decide) (by omega) (by omega) (fun h8 => ?_) (fun h8 => ?_)
      · refine Z_iconst hk dX0_isEnough_54 ?_
        exact Z_zret hk hA hQ dX0_isEnough_55 (by decide) (by decide) ⟨rfl, rfl, _, rfl, (by exact ⟨rfl, (by omega)⟩)⟩
      · refine Z_aload0 hk dX0_isEnough_11 ?_
        refine Z_iload1 hk dX0_isEnough_12 ?_
        refine Z_iload8 hk dX0_isEnough_13 ?_
        refine Z_iload2 hk dX0_isEnough_15 ?_
        refine Z_iload3 hk dX0_isEnough_16 ?_
        refine Z_sipush hk dX0_isEnough_17 (by decide) ?_
        refine Z_Vi hk (c_X0_isBelow κ.2.1 δ ad _ hA z x8_6 nn a 1000 (by (omega)) (by (omega)) (by (omega)) (by (omega))) ov_X0_isBelow ml_X0_66 dX0_isEnough_20 rfl ⟨by decide, by decide⟩ ob_8.1 (by decide) (by decide) rfl (Nat.le_of_ble_eq_true rfl) (fun r20 m20 p20 => ?_)
        obtain ⟨rfl, p20⟩ := p20
        refine Z_if_eq hk (tgt := 54) dX0_isEnough_23 (by decide) (by omega) (by omega) (fun h23 => ?_) (fun h23 => ?_)
        · refine Z_iconst hk dX0_isEnough_54 ?_
          exact Z_zret hk hA hQ dX0_isEnough_55 (by decide) (by decide) ⟨rfl, rfl, _, rfl, (by exact ⟨rfl, (by omega)⟩)⟩
        · refine Z_lload6 hk dX0_isEnough_26 ?_
          refine Z_aload0 hk dX0_isEnough_28 ?_
          refine Z_getR hk fl_0_11 dX0_isEnough_29 ob_8.1 ob_8.2.1 ob_8.2.2.1 ob_8.2.2.2 ft_0_0 rs_8_0 ?_
          refine Z_iload8 hk dX0_isEnough_32 ?_
          refine Z_lald hk dX0_isEnough_34 ar_9.1 ar_9.2.1 ar_9.2.2 (by omega) (by omega) (fun v34 e34 a34 b34 => ?_)
          refine Z_ladd hk dX0_isEnough_35 ?_
          refine Z_wJ (fun w35 a35w b35w g35w => ?_)
          refine Z_lstore6 hk rfl (by decide) dX0_isEnough_36 ?_
          refine Z_lload6 hk dX0_isEnough_38 ?_
          refine Z_lload4 hk dX0_isEnough_40 ?_
          refine Z_lcmp hk dX0_isEnough_42 (by omega) (by omega) (by omega) (by omega) (fun v42 e42 => ?_)
          refine Z_if_lt hk (tgt := 48) dX0_isEnough_43 (by decide) (by omega) (by omega) (fun h43 => ?_) (fun h43 => ?_)
          · refine Z_iinc8 hk rfl (by decide) dX0_isEnough_48 ?_
            refine Z_goto hk (tgt := 6) dX0_isEnough_51 (by decide) ?_
            exact ih6 _ _ (by omega) (by (omega))
          · refine Z_iconst hk dX0_isEnough_46 ?_
            exact Z_zret hk hA hQ dX0_isEnough_47 (by decide) (by decide) ⟨rfl, rfl, _, rfl, (by exact ⟨rfl, (by omega)⟩)⟩
  refine Z_istore8 hk rfl (by decide) dX0_isEnough_4 ?_
  exact J6 (((nn + 1) : Int).toNat + 1) _ _ (by omega) (by omega)
set_option maxRecDepth 10000 in
theorem c_X0_tastersFor (l : Launch) (δ : Dp) (ad : Nat → Nat) (M : Mem) (hA : okA δ ad) (z : Int) (s : Int) (a : Int) (b : Int) (q0 : 0 ≤ s ∧ s ≤ 1000 ∧ 0 ≤ a ∧ a ≤ 1000 ∧ 0 ≤ b ∧ b ≤ 1000) (q1 : z = 0 ∨ z = 1) : Mi l δ yX0_tastersFor cX0_tastersFor 8 (some (.int)) 3 81 ad rs [.ref (ad 8), iv z, iv s, iv a, iv b] M (fun r M' => (-2147483648 ≤ r ∧ r ≤ 2147483647) ∧ (∀ c : Nat, c ≠ 9 → M' c = M c)) := by
  refine Mg.of (rm := rmN 3 81) (by decide) (Nat.le_of_ble_eq_true rfl) fun κ _ hk _ => ?_
  generalize hQ : Qg κ δ 121 (rmN 3 81).cells (rmN 3 81).slots _ = Q
  show Zj κ δ ad rs Q 8 (121, 0, 0) 0 [some (.ref (ad 8)), some (iv z), some (iv s), some (iv a), some (iv b), none, none, none] [] M
  refine Z_ldc2_w hk (n := 1073741824) (mem_g (by decide +kernel)) dX0_tastersFor_0 ?_
  refine Z_sipush hk dX0_tastersFor_3 (by decide) ?_
  refine Z_iload4 hk dX0_tastersFor_6 ?_
  refine Z_isub hk dX0_tastersFor_8 ?_
  refine Z_i2l hk dX0_tastersFor_9 (by omega) (by omega) ?_
  refine Z_lmul hk dX0_tastersFor_10 ?_
  refine Z_ldc2_w hk (n := 1000) (mem_g (by decide +kernel)) dX0_tastersFor_11 ?_
  refine Z_ldiv hk dX0_tastersFor_14 (by omega) (by omega) (by omega) (by omega) (by omega) ?_
  refine Z_wJ (fun w14 a14w b14w g14w => ?_)
  refine Z_lstore5 hk rfl (by decide) dX0_tastersFor_15 ?_
  refine Z_iconst hk dX0_tastersFor_17 ?_
  have J20 : ∀ (n : Nat) (x7_20 : Int) (m20 : Mem), ((1 ≤ x7_20 ∧ x7_20 ≤ 31) ∧ (∀ c : Nat, c ≠ 9 → m20 c = M c)) → (31 - x7_20) < (n : Int) → Zj κ δ ad rs Q 8 (121, 0, 0) 20 [some (.ref (ad 8)), some (iv z), some (iv s), some (iv a), some (iv b), some (jv w14), none, some (iv x7_20)] [] m20 := by
    intro n
    induction n with
    | zero => intro x7_20 m20 h20 hm20; exfalso; obtain ⟨h20, -⟩ := h20; omega
    | succ n ih20 =>
      intro x7_20 m20 h20 hm20
      obtain ⟨h20, f20_0⟩ := h20
      try simp only [f20_0, and_true, true_and, or_true, true_or, implies_true, upn, reduceIte, Nat.reduceEqDiff, ne_eq, not_false_eq_true, upc] at h20 hm20
      refine Z_iload7 hk dX0_tastersFor_20 ?_
      refine Z_bipush hk dX0_tastersFor_22 (by decide) ?_
      refine Z_icmp_gt hk (tgt := 57) dX0_tastersFor_24 (by decide) (by omega) (by omega) (by decide) (by decide) (fun h24 => ?_) (fun h24 => ?_)
      · refine Z_iconst hk dX0_tastersFor_57 ?_
        exact Z_iret hk hA hQ dX0_tastersFor_58 ⟨rfl, rfl, _, rfl, (by exact ⟨(by (try simp only [f20_0, and_true, true_and, or_true, true_or, implies_true, upn, reduceIte, Nat.reduceEqDiff, ne_eq, not_false_eq_true, upc]) <;> (omega)), (by intro c k0; simp only [f20_0, upc, upn, k0, reduceIte, Nat.reduceEqDiff, ne_eq, not_false_eq_true])⟩)⟩
      · refine Z_aload0 hk dX0_tastersFor_27 ?_
        refine Z_iload1 hk dX0_tastersFor_28 ?_
        refine Z_iload2 hk dX0_tastersFor_29 ?_
        refine Z_iload7 hk dX0_tastersFor_30 ?_
        refine Z_Vv hk (c_X0_fillRow κ.2.1 δ ad _ hA z s x7_20 (by (try simp only [f20_0, and_true, true_and, or_true, true_or, implies_true, upn, reduceIte, Nat.reduceEqDiff, ne_eq, not_false_eq_true, upc]) <;> (omega)) (by (try simp only [f20_0, and_true, true_and, or_true, true_or, implies_true, upn, reduceIte, Nat.reduceEqDiff, ne_eq, not_false_eq_true, upc]) <;> (omega)) (by (try simp only [f20_0, and_true, true_and, or_true, true_or, implies_true, upn, reduceIte, Nat.reduceEqDiff, ne_eq, not_false_eq_true, upc]) <;> (omega))) ov_X0_fillRow ml_X0_47 dX0_tastersFor_32 rfl ⟨by decide, by decide⟩ ob_8.1 (by decide) (by decide) rfl (Nat.le_of_ble_eq_true rfl) (fun m32 p32 => ?_)
        obtain ⟨p32, f32_0⟩ := p32
        try simp only [f32_0, f20_0, and_true, true_and, or_true, true_or, implies_true, upn, reduceIte, Nat.reduceEqDiff, ne_eq, not_false_eq_true, upc] at p32
        refine Z_aload0 hk dX0_tastersFor_35 ?_
        refine Z_iload1 hk dX0_tastersFor_36 ?_
        refine Z_iload7 hk dX0_tastersFor_37 ?_
        refine Z_iload3 hk dX0_tastersFor_39 ?_
        refine Z_lload5 hk dX0_tastersFor_40 ?_
        refine Z_Vi hk (c_X0_isEnough κ.2.1 δ ad _ hA z x7_20 a w14 (by (try simp only [f32_0, f20_0, and_true, true_and, or_true, true_or, implies_true, upn, reduceIte, Nat.reduceEqDiff, ne_eq, not_false_eq_true, upc]) <;> (omega)) (by (try simp only [f32_0, f20_0, and_true, true_and, or_true, true_or, implies_true, upn, reduceIte, Nat.reduceEqDiff, ne_eq, not_false_eq_true, upc]) <;> (omega)) (by (try simp only [f32_0, f20_0, and_true, true_and, or_true, true_or, implies_true, upn, reduceIte, Nat.reduceEqDiff, ne_eq, not_false_eq_true, upc]) <;> (omega)) (by (try simp only [f32_0, f20_0, and_true, true_and, or_true, true_or, implies_true, upn, reduceIte, Nat.reduceEqDiff, ne_eq, not_false_eq_true, upc]) <;> (omega))) ov_X0_isEnough ml_X0_62 dX0_tastersFor_42 rfl ⟨by decide, by decide⟩ ob_8.1 (by decide) (by decide) rfl (Nat.le_of_ble_eq_true rfl) (fun r42 m42 p42 => ?_)
        obtain ⟨rfl, p42⟩ := p42
        try simp only [f32_0, f20_0, and_true, true_and, or_true, true_or, implies_true, upn, reduceIte, Nat.reduceEqDiff, ne_eq, not_false_eq_true, upc] at p42
        refine Z_if_eq hk (tgt := 51) dX0_tastersFor_45 (by decide) (by omega) (by omega) (fun h45 => ?_) (fun h45 => ?_)
        · refine Z_iinc7 hk rfl (by decide) dX0_tastersFor_51 ?_
          refine Z_goto hk (tgt := 20) dX0_tastersFor_54 (by decide) ?_
          exact ih20 _ _ (by exact ⟨(by (try simp only [f32_0, f20_0, and_true, true_and, or_true, true_or, implies_true, upn, reduceIte, Nat.reduceEqDiff, ne_eq, not_false_eq_true, upc]) <;> (omega)), (by intro c k0; simp only [f32_0, f20_0, upc, upn, k0, reduceIte, Nat.reduceEqDiff, ne_eq, not_false_eq_true])⟩) (by (try simp only [f32_0, f20_0, and_true, true_and, or_true, true_or, implies_true, upn, reduceIte, Nat.reduceEqDiff, ne_eq, not_false_eq_true, upc]) <;> (omega))
        · refine Z_iload7 hk dX0_tastersFor_48 ?_
          exact Z_iret hk hA hQ dX0_tastersFor_50 ⟨rfl, rfl, _, rfl, (by exact ⟨(by (try simp only [f32_0, f20_0, and_true, true_and, or_true, true_or, implies_true, upn, reduceIte, Nat.reduceEqDiff, ne_eq, not_false_eq_true, upc]) <;> (omega)), (by intro c k0; simp only [f32_0, f20_0, upc, upn, k0, reduceIte, Nat.reduceEqDiff, ne_eq, not_false_eq_true])⟩)⟩
  refine Z_istore7 hk rfl (by decide) dX0_tastersFor_18 ?_
  exact J20 (((31 - 1) : Int).toNat + 1) _ _ (by exact ⟨(by (omega)), (by intro c k0; rfl)⟩) (by omega)
set_option maxRecDepth 10000 in
theorem c_X5_cell (l : Launch) (δ : Dp) (ad : Nat → Nat) (M : Mem) (hA : okA δ ad) (t : Int) (s : Int) (p : Int) (q0 : 0 ≤ t ∧ t ≤ 29 ∧ 0 ≤ s ∧ s ≤ 9 ∧ 0 ≤ p ∧ p ≤ 5) : Mi l δ yX5_cell cX5_cell 3 (some (.int)) 0 0 ad rs [iv t, iv s, iv p] M (fun r M' => M = M' ∧ (0 ≤ r ∧ r ≤ 1799)) := by
  refine Mg.of (rm := rmN 0 0) (by decide) (Nat.le_of_ble_eq_true rfl) fun κ _ hk _ => ?_
  generalize hQ : Qg κ δ 121 (rmN 0 0).cells (rmN 0 0).slots _ = Q
  show Zj κ δ ad rs Q 3 (121, 0, 0) 0 [some (iv t), some (iv s), some (iv p)] [] M
  refine Z_iload0 hk dX5_cell_0 ?_
  refine Z_bipush hk dX5_cell_1 (by decide) ?_
  refine Z_imul hk dX5_cell_3 ?_
  refine Z_iload1 hk dX5_cell_4 ?_
  refine Z_iadd hk dX5_cell_5 ?_
  refine Z_bipush hk dX5_cell_6 (by decide) ?_
  refine Z_imul hk dX5_cell_8 ?_
  refine Z_iload2 hk dX5_cell_9 ?_
  refine Z_iadd hk dX5_cell_10 ?_
  exact Z_iret hk hA hQ dX5_cell_11 ⟨rfl, rfl, _, rfl, (by exact ⟨rfl, (by omega)⟩)⟩
set_option maxRecDepth 10000 in
theorem c_X5_write (l : Launch) (δ : Dp) (ad : Nat → Nat) (M : Mem) (hA : okA δ ad) (c : Int) (t : Int) (v : Int) (q0 : 0 ≤ c ∧ c ≤ 1799 ∧ 0 ≤ t ∧ t ≤ 29) (i_v : -2147483648 ≤ v ∧ v ≤ 2147483647) : Mv l δ yX5_write cX5_write 4 none 1 21 ad rs [.ref (ad 13), iv c, iv t, iv v] M (fun M' => (True) ∧ (∀ c : Nat, c ≠ 14 → c ≠ 15 → c ≠ 16 → M' c = M c)) := by
  refine Mg.of (rm := rmN 1 21) (by decide) (Nat.le_of_ble_eq_true rfl) fun κ _ hk _ => ?_
  generalize hQ : Qg κ δ 121 (rmN 1 21).cells (rmN 1 21).slots _ = Q
  show Zj κ δ ad rs Q 4 (121, 0, 0) 0 [some (.ref (ad 13)), some (iv c), some (iv t), some (iv v)] [] M
  refine Z_aload0 hk dX5_write_0 ?_
  refine Z_getR hk fl_5_9 dX5_write_1 ob_13.1 ob_13.2.1 ob_13.2.2.1 ob_13.2.2.2 ft_5_1 rs_13_1 ?_
  refine Z_iload1 hk dX5_write_4 ?_
  refine Z_iald hk dX5_write_5 ar_14.1 ar_14.2.1 ar_14.2.2 (by omega) (by omega) (fun v5 e5 a5 b5 => ?_)
  refine Z_iconst hk dX5_write_6 ?_
  refine Z_icmp_ne hk (tgt := 49) dX5_write_7 (by decide) (by omega) (by omega) (by decide) (by decide) (fun h7 => ?_) (fun h7 => ?_)
  · exact Z_vret hk hA hQ dX5_write_49 ⟨rfl, rfl, rfl, (by exact ⟨(by (trivial)), (by intro c k0 k1 k2; rfl)⟩)⟩
  · refine Z_aload0 hk dX5_write_10 ?_
    refine Z_getR hk fl_5_9 dX5_write_11 ob_13.1 ob_13.2.1 ob_13.2.2.1 ob_13.2.2.2 ft_5_1 rs_13_1 ?_
    refine Z_iload1 hk dX5_write_14 ?_
    refine Z_iload3 hk dX5_write_15 ?_
    refine Z_iast hk hA dX5_write_16 ar_14.1 ar_14.2.1 ar_14.2.2 (by omega) (by omega) (by omega) (by omega) ?_
    refine Z_nm (fun m16 em16 => ?_)
    refine Z_aload0 hk dX5_write_17 ?_
    refine Z_getR hk fl_5_15 dX5_write_18 ob_13.1 ob_13.2.1 ob_13.2.2.1 ob_13.2.2.2 ft_5_2 rs_13_2 ?_
    refine Z_iload2 hk dX5_write_21 ?_
    refine Z_aload0 hk dX5_write_22 ?_
    refine Z_getR hk fl_5_15 dX5_write_23 ob_13.1 ob_13.2.1 ob_13.2.2.1 ob_13.2.2.2 ft_5_2 rs_13_2 ?_
    refine Z_iload2 hk dX5_write_26 ?_
    refine Z_iald hk dX5_write_27 ar_15.1 ar_15.2.1 ar_15.2.2 (by omega) (by omega) (fun v27 e27 a27 b27 => ?_)
    try simp only [em16, e5, and_true, true_and, or_true, true_or, implies_true, upn, reduceIte, Nat.reduceEqDiff, ne_eq, not_false_eq_true, upc] at e27
    refine Z_iload3 hk dX5_write_28 ?_
    refine Z_Si hk (c_J9_min_7cf53 κ.2.1 δ ad _ hA v27 v (by (try simp only [em16, and_true, true_and, or_true, true_or, implies_true, upn, reduceIte, Nat.reduceEqDiff, ne_eq, not_false_eq_true, upc]) <;> (omega)) (by (try simp only [em16, and_true, true_and, or_true, true_or, implies_true, upn, reduceIte, Nat.reduceEqDiff, ne_eq, not_false_eq_true, upc]) <;> (omega))) os_J9_min_7cf53 ml_X5_75 dX5_write_29 rfl ⟨by decide, by decide⟩ rfl (Nat.le_of_ble_eq_true rfl) (fun r29 m29 p29 => ?_)
    obtain ⟨rfl, p29⟩ := p29
    try simp only [em16, e5, e27, and_true, true_and, or_true, true_or, implies_true, upn, reduceIte, Nat.reduceEqDiff, ne_eq, not_false_eq_true, upc] at p29
    refine Z_iast hk hA dX5_write_32 ar_15.1 ar_15.2.1 ar_15.2.2 (by omega) (by omega) (by omega) (by omega) ?_
    refine Z_nm (fun m32 em32 => ?_)
    refine Z_aload0 hk dX5_write_33 ?_
    refine Z_getR hk fl_5_18 dX5_write_34 ob_13.1 ob_13.2.1 ob_13.2.2.1 ob_13.2.2.2 ft_5_3 rs_13_3 ?_
    refine Z_iload2 hk dX5_write_37 ?_
    refine Z_aload0 hk dX5_write_38 ?_
    refine Z_getR hk fl_5_18 dX5_write_39 ob_13.1 ob_13.2.1 ob_13.2.2.1 ob_13.2.2.2 ft_5_3 rs_13_3 ?_
    refine Z_iload2 hk dX5_write_42 ?_
    refine Z_iald hk dX5_write_43 ar_16.1 ar_16.2.1 ar_16.2.2 (by omega) (by omega) (fun v43 e43 a43 b43 => ?_)
    try simp only [em32, em16, e5, e27, and_true, true_and, or_true, true_or, implies_true, upn, reduceIte, Nat.reduceEqDiff, ne_eq, not_false_eq_true, upc] at e43
    refine Z_iload3 hk dX5_write_44 ?_
    refine Z_Si hk (c_J9_max_7cf53 κ.2.1 δ ad _ hA v43 v (by (try simp only [em32, em16, and_true, true_and, or_true, true_or, implies_true, upn, reduceIte, Nat.reduceEqDiff, ne_eq, not_false_eq_true, upc]) <;> (omega)) (by (try simp only [em32, em16, and_true, true_and, or_true, true_or, implies_true, upn, reduceIte, Nat.reduceEqDiff, ne_eq, not_false_eq_true, upc]) <;> (omega))) os_J9_max_7cf53 ml_X5_81 dX5_write_45 rfl ⟨by decide, by decide⟩ rfl (Nat.le_of_ble_eq_true rfl) (fun r45 m45 p45 => ?_)
    obtain ⟨rfl, p45⟩ := p45
    try simp only [em32, em16, e5, e27, e43, and_true, true_and, or_true, true_or, implies_true, upn, reduceIte, Nat.reduceEqDiff, ne_eq, not_false_eq_true, upc] at p45
    refine Z_iast hk hA dX5_write_48 ar_16.1 ar_16.2.1 ar_16.2.2 (by omega) (by omega) (by omega) (by omega) ?_
    refine Z_nm (fun m48 em48 => ?_)
    exact Z_vret hk hA hQ dX5_write_49 ⟨rfl, rfl, rfl, (by exact ⟨(by (try simp only [em48, em32, em16, and_true, true_and, or_true, true_or, implies_true, upn, reduceIte, Nat.reduceEqDiff, ne_eq, not_false_eq_true, upc]) <;> (trivial)), (by intro c k0 k1 k2; simp only [em48, em32, em16, upc, upn, k0, k1, k2, reduceIte, Nat.reduceEqDiff, ne_eq, not_false_eq_true])⟩)⟩
set_option maxRecDepth 10000 in
theorem c_X5_scaled (l : Launch) (δ : Dp) (ad : Nat → Nat) (M : Mem) (hA : okA δ ad) (t : Int) (s : Int) (p : Int) (q0 : 0 ≤ t ∧ t ≤ 29 ∧ 0 ≤ s ∧ s ≤ 9 ∧ 0 ≤ p ∧ p ≤ 5) : Mi l δ yX5_scaled cX5_scaled 6 (some (.int)) 1 22 ad rs [.ref (ad 13), iv t, iv s, iv p] M (fun r M' => M = M' ∧ (-2147483648 ≤ r ∧ r ≤ 2147483647)) := by
  refine Mg.of (rm := rmN 1 22) (by decide) (Nat.le_of_ble_eq_true rfl) fun κ _ hk _ => ?_
  generalize hQ : Qg κ δ 121 (rmN 1 22).cells (rmN 1 22).slots _ = Q
  show Zj κ δ ad rs Q 6 (121, 0, 0) 0 [some (.ref (ad 13)), some (iv t), some (iv s), some (iv p), none, none] [] M
  refine Z_aload0 hk dX5_scaled_0 ?_
  refine Z_getR hk fl_5_9 dX5_scaled_1 ob_13.1 ob_13.2.1 ob_13.2.2.1 ob_13.2.2.2 ft_5_1 rs_13_1 ?_
  refine Z_iload1 hk dX5_scaled_4 ?_
  refine Z_iload2 hk dX5_scaled_5 ?_
  refine Z_iload3 hk dX5_scaled_6 ?_
  refine Z_Si hk (c_X5_cell κ.2.1 δ ad _ hA t s p (by (omega))) os_X5_cell ml_X5_56 dX5_scaled_7 rfl ⟨by decide, by decide⟩ rfl (Nat.le_of_ble_eq_true rfl) (fun r7 m7 p7 => ?_)
  obtain ⟨rfl, p7⟩ := p7
  refine Z_iald hk dX5_scaled_10 ar_14.1 ar_14.2.1 ar_14.2.2 (by omega) (by omega) (fun v10 e10 a10 b10 => ?_)
  refine Z_istore4 hk rfl (by decide) dX5_scaled_11 ?_
  refine Z_iload4 hk dX5_scaled_13 ?_
  refine Z_iconst hk dX5_scaled_15 ?_
  refine Z_icmp_ne hk (tgt := 21) dX5_scaled_16 (by decide) (by omega) (by omega) (by decide) (by decide) (fun h16 => ?_) (fun h16 => ?_)
  · refine Z_aload0 hk dX5_scaled_21 ?_
    refine Z_getZ hk fl_5_34 dX5_scaled_22 ob_13.1 ob_13.2.1 ob_13.2.2.1 ob_13.2.2.2 ft_5_4 (fun v22 e22 a22 b22 => ?_)
    try simp only [e10, and_true, true_and, or_true, true_or, implies_true, upn, reduceIte, Nat.reduceEqDiff, ne_eq, not_false_eq_true, upc] at e22
    refine Z_if_ne hk (tgt := 34) dX5_scaled_25 (by decide) (by omega) (by omega) (fun h25 => ?_) (fun h25 => ?_)
    · refine Z_aload0 hk dX5_scaled_34 ?_
      refine Z_getR hk fl_5_18 dX5_scaled_35 ob_13.1 ob_13.2.1 ob_13.2.2.1 ob_13.2.2.2 ft_5_3 rs_13_3 ?_
      refine Z_iload1 hk dX5_scaled_38 ?_
      refine Z_iald hk dX5_scaled_39 ar_16.1 ar_16.2.1 ar_16.2.2 (by omega) (by omega) (fun v39 e39 a39 b39 => ?_)
      try simp only [e10, e22, and_true, true_and, or_true, true_or, implies_true, upn, reduceIte, Nat.reduceEqDiff, ne_eq, not_false_eq_true, upc] at e39
      refine Z_aload0 hk dX5_scaled_40 ?_
      refine Z_getR hk fl_5_15 dX5_scaled_41 ob_13.1 ob_13.2.1 ob_13.2.2.1 ob_13.2.2.2 ft_5_2 rs_13_2 ?_
      refine Z_iload1 hk dX5_scaled_44 ?_
      refine Z_iald hk dX5_scaled_45 ar_15.1 ar_15.2.1 ar_15.2.2 (by omega) (by omega) (fun v45 e45 a45 b45 => ?_)
      try simp only [e10, e22, e39, and_true, true_and, or_true, true_or, implies_true, upn, reduceIte, Nat.reduceEqDiff, ne_eq, not_false_eq_true, upc] at e45
      refine Z_isub hk dX5_scaled_46 ?_
      refine Z_wI (fun w46 a46w b46w g46w => ?_)
      refine Z_istore5 hk rfl (by decide) dX5_scaled_47 ?_
      refine Z_iload5 hk dX5_scaled_49 ?_
      refine Z_if_gt hk (tgt := 60) dX5_scaled_51 (by decide) (by omega) (by omega) (fun h51 => ?_) (fun h51 => ?_)
      · refine Z_sipush hk dX5_scaled_60 (by decide) ?_
        refine Z_iload4 hk dX5_scaled_63 ?_
        refine Z_aload0 hk dX5_scaled_65 ?_
        refine Z_getR hk fl_5_15 dX5_scaled_66 ob_13.1 ob_13.2.1 ob_13.2.2.1 ob_13.2.2.2 ft_5_2 rs_13_2 ?_
        refine Z_iload1 hk dX5_scaled_69 ?_
        refine Z_iald hk dX5_scaled_70 ar_15.1 ar_15.2.1 ar_15.2.2 (by omega) (by omega) (fun v70 e70 a70 b70 => ?_)
        try simp only [e10, e22, e39, e45, and_true, true_and, or_true, true_or, implies_true, upn, reduceIte, Nat.reduceEqDiff, ne_eq, not_false_eq_true, upc] at e70
        refine Z_isub hk dX5_scaled_71 ?_
        refine Z_wI (fun w71 a71w b71w g71w => ?_)
        refine Z_imul hk dX5_scaled_72 ?_
        refine Z_wI (fun w72 a72w b72w g72w => ?_)
        refine Z_iload5 hk dX5_scaled_73 ?_
        refine Z_idiv hk dX5_scaled_75 (by omega) (by omega) (by omega) (by omega) (by omega) ?_
        refine Z_wI (fun w75 a75w b75w g75w => ?_)
        exact Z_iret hk hA hQ dX5_scaled_76 ⟨rfl, rfl, _, rfl, (by exact ⟨rfl, (by omega)⟩)⟩
      · refine Z_sipush hk dX5_scaled_54 (by decide) ?_
        refine Z_goto hk (tgt := 76) dX5_scaled_57 (by decide) ?_
        exact Z_iret hk hA hQ dX5_scaled_76 ⟨rfl, rfl, _, rfl, (by exact ⟨rfl, (by omega)⟩)⟩
    · refine Z_bipush hk dX5_scaled_28 (by decide) ?_
      refine Z_iload4 hk dX5_scaled_30 ?_
      refine Z_imul hk dX5_scaled_32 ?_
      refine Z_wI (fun w32 a32w b32w g32w => ?_)
      exact Z_iret hk hA hQ dX5_scaled_33 ⟨rfl, rfl, _, rfl, (by exact ⟨rfl, (by omega)⟩)⟩
  · refine Z_iconst hk dX5_scaled_19 ?_
    exact Z_iret hk hA hQ dX5_scaled_20 ⟨rfl, rfl, _, rfl, (by exact ⟨rfl, (by omega)⟩)⟩
set_option maxRecDepth 10000 in
theorem c_X5_countIn (l : Launch) (δ : Dp) (ad : Nat → Nat) (M : Mem) (hA : okA δ ad) (s : Int) (p : Int) (q0 : 0 ≤ s ∧ s ≤ 9 ∧ 0 ≤ p ∧ p ≤ 5) : Mi l δ yX5_countIn cX5_countIn 5 (some (.int)) 2 47 ad rs [.ref (ad 13), iv s, iv p] M (fun r M' => M = M' ∧ (0 ≤ r ∧ r ≤ 30)) := by
  refine Mg.of (rm := rmN 2 47) (by decide) (Nat.le_of_ble_eq_true rfl) fun κ _ hk _ => ?_
  generalize hQ : Qg κ δ 121 (rmN 2 47).cells (rmN 2 47).slots _ = Q
  show Zj κ δ ad rs Q 5 (121, 0, 0) 0 [some (.ref (ad 13)), some (iv s), some (iv p), none, none] [] M
  refine Z_iconst hk dX5_countIn_0 ?_
  refine Z_istore3 hk rfl (by decide) dX5_countIn_1 ?_
  refine Z_iconst hk dX5_countIn_2 ?_
  have J5 : ∀ (n : Nat) (x3_5 : Int) (x4_5 : Int), (0 ≤ x4_5 ∧ x4_5 ≤ 30 ∧ 0 ≤ x3_5 ∧ x3_5 ≤ x4_5) → (30 - x4_5) < (n : Int) → Zj κ δ ad rs Q 5 (121, 0, 0) 5 [some (.ref (ad 13)), some (iv s), some (iv p), some (iv x3_5), some (iv x4_5)] [] M := by
    intro n
    induction n with
    | zero => intro x3_5 x4_5 h5 hm5; exfalso; omega
    | succ n ih5 =>
      intro x3_5 x4_5 h5 hm5
      refine Z_iload4 hk dX5_countIn_5 ?_
      refine Z_bipush hk dX5_countIn_7 (by decide) ?_
      refine Z_icmp_ge hk (tgt := 33) dX5_countIn_9 (by decide) (by omega) (by omega) (by decide) (by decide) (fun h9 => ?_) (fun h9 => ?_)
      · refine Z_iload3 hk dX5_countIn_33 ?_
        exact Z_iret hk hA hQ dX5_countIn_34 ⟨rfl, rfl, _, rfl, (by exact ⟨rfl, (by omega)⟩)⟩
      · refine Z_aload0 hk dX5_countIn_12 ?_
        refine Z_iload4 hk dX5_countIn_13 ?_
        refine Z_iload1 hk dX5_countIn_15 ?_
        refine Z_iload2 hk dX5_countIn_16 ?_
        refine Z_Vi hk (c_X5_scaled κ.2.1 δ ad _ hA x4_5 s p (by (omega))) ov_X5_scaled ml_X5_93 dX5_countIn_17 rfl ⟨by decide, by decide⟩ ob_13.1 (by decide) (by decide) rfl (Nat.le_of_ble_eq_true rfl) (fun r17 m17 p17 => ?_)
        obtain ⟨rfl, p17⟩ := p17
        refine Z_iconst hk dX5_countIn_20 ?_
        have J27 : ∀ (x3_27 : Int), (0 ≤ x3_27 ∧ x3_27 ≤ x4_5 + 1) → Zj κ δ ad rs Q 5 (121, 0, 0) 27 [some (.ref (ad 13)), some (iv s), some (iv p), some (iv x3_27), some (iv x4_5)] [] M := by
          intro x3_27 h27
          refine Z_iinc4 hk rfl (by decide) dX5_countIn_27 ?_
          refine Z_goto hk (tgt := 5) dX5_countIn_30 (by decide) ?_
          exact ih5 _ _ (by omega) (by (omega))
        refine Z_icmp_eq hk (tgt := 27) dX5_countIn_21 (by decide) (by omega) (by omega) (by decide) (by decide) (fun h21 => ?_) (fun h21 => ?_)
        · exact J27 _ (by omega)
        · refine Z_iinc3 hk rfl (by decide) dX5_countIn_24 ?_
          exact J27 _ (by omega)
  refine Z_istore4 hk rfl (by decide) dX5_countIn_3 ?_
  exact J5 (((30 - 0) : Int).toNat + 1) _ _ (by omega) (by omega)
set_option maxRecDepth 10000 in
theorem c_X5_sumIn (l : Launch) (δ : Dp) (ad : Nat → Nat) (M : Mem) (hA : okA δ ad) (s : Int) (p : Int) (q0 : 0 ≤ s ∧ s ≤ 9 ∧ 0 ≤ p ∧ p ≤ 5) : Mi l δ yX5_sumIn cX5_sumIn 6 (some (.int)) 2 47 ad rs [.ref (ad 13), iv s, iv p] M (fun r M' => M = M' ∧ (-2147483648 ≤ r ∧ r ≤ 2147483647)) := by
  refine Mg.of (rm := rmN 2 47) (by decide) (Nat.le_of_ble_eq_true rfl) fun κ _ hk _ => ?_
  generalize hQ : Qg κ δ 121 (rmN 2 47).cells (rmN 2 47).slots _ = Q
  show Zj κ δ ad rs Q 6 (121, 0, 0) 0 [some (.ref (ad 13)), some (iv s), some (iv p), none, none, none] [] M
  refine Z_iconst hk dX5_sumIn_0 ?_
  refine Z_istore3 hk rfl (by decide) dX5_sumIn_1 ?_
  refine Z_iconst hk dX5_sumIn_2 ?_
  have J5 : ∀ (n : Nat) (x3_5 : Int) (x4_5 : Int), (0 ≤ x4_5 ∧ x4_5 ≤ 30 ∧ -2147483648 ≤ x3_5 ∧ x3_5 ≤ 2147483647) → (30 - x4_5) < (n : Int) → Zj κ δ ad rs Q 6 (121, 0, 0) 5 [some (.ref (ad 13)), some (iv s), some (iv p), some (iv x3_5), some (iv x4_5), none] [] M := by
    intro n
    induction n with
    | zero => intro x3_5 x4_5 h5 hm5; exfalso; omega
    | succ n ih5 =>
      intro x3_5 x4_5 h5 hm5
      refine Z_iload4 hk dX5_sumIn_5 ?_
      refine Z_bipush hk dX5_sumIn_7 (by decide) ?_
      refine Z_icmp_ge hk (tgt := 43) dX5_sumIn_9 (by decide) (by omega) (by omega) (by decide) (by decide) (fun h9 => ?_) (fun h9 => ?_)
      · refine Z_iload3 hk dX5_sumIn_43 ?_
        exact Z_iret hk hA hQ dX5_sumIn_44 ⟨rfl, rfl, _, rfl, (by exact ⟨rfl, (by omega)⟩)⟩
      · refine Z_aload0 hk dX5_sumIn_12 ?_
        refine Z_iload4 hk dX5_sumIn_13 ?_
        refine Z_iload1 hk dX5_sumIn_15 ?_
        refine Z_iload2 hk dX5_sumIn_16 ?_
        refine Z_Vi hk (c_X5_scaled κ.2.1 δ ad _ hA x4_5 s p (by (omega))) ov_X5_scaled ml_X5_93 dX5_sumIn_17 rfl ⟨by decide, by decide⟩ ob_13.1 (by decide) (by decide) rfl (Nat.le_of_ble_eq_true rfl) (fun r17 m17 p17 => ?_)
        obtain ⟨rfl, p17⟩ := p17
        refine Z_istore5 hk rfl (by decide) dX5_sumIn_20 ?_
        refine Z_iload3 hk dX5_sumIn_22 ?_
        refine Z_iload5 hk dX5_sumIn_23 ?_
        refine Z_iconst hk dX5_sumIn_25 ?_
        have J35 : ∀ (y1_35 : Int), (-2147483648 ≤ y1_35 ∧ y1_35 ≤ 2147483647) → Zj κ δ ad rs Q 6 (121, 0, 0) 35 [some (.ref (ad 13)), some (iv s), some (iv p), some (iv x3_5), some (iv x4_5), some (iv r17)] [iv y1_35, iv x3_5] M := by
          intro y1_35 h35
          refine Z_iadd hk dX5_sumIn_35 ?_
          refine Z_wI (fun w35 a35w b35w g35w => ?_)
          refine Z_istore3 hk rfl (by decide) dX5_sumIn_36 ?_
          refine Z_iinc4 hk rfl (by decide) dX5_sumIn_37 ?_
          refine Z_goto hk (tgt := 5) dX5_sumIn_40 (by decide) ?_
          refine Z_drop5 ?_
          exact ih5 _ _ (by omega) (by (omega))
        refine Z_icmp_ne hk (tgt := 33) dX5_sumIn_26 (by decide) (by omega) (by omega) (by decide) (by decide) (fun h26 => ?_) (fun h26 => ?_)
        · refine Z_iload5 hk dX5_sumIn_33 ?_
          exact J35 _ (by omega)
        · refine Z_iconst hk dX5_sumIn_29 ?_
          refine Z_goto hk (tgt := 35) dX5_sumIn_30 (by decide) ?_
          exact J35 _ (by omega)
  refine Z_istore4 hk rfl (by decide) dX5_sumIn_3 ?_
  exact J5 (((30 - 0) : Int).toNat + 1) _ _ (by omega) (by omega)
set_option maxRecDepth 10000 in
theorem c_X5_findDrifts (l : Launch) (δ : Dp) (ad : Nat → Nat) (M : Mem) (hA : okA δ ad) (p : Int) (q0 : -1 ≤ p ∧ p ≤ 5) : Mv l δ yX5_findDrifts cX5_findDrifts 7 none 3 72 ad rs [.ref (ad 13), iv p] M (fun M' => (True) ∧ (∀ c : Nat, c ≠ 17 → M' c = M c)) := by
  refine Mg.of (rm := rmN 3 72) (by decide) (Nat.le_of_ble_eq_true rfl) fun κ _ hk _ => ?_
  generalize hQ : Qg κ δ 121 (rmN 3 72).cells (rmN 3 72).slots _ = Q
  show Zj κ δ ad rs Q 7 (121, 0, 0) 0 [some (.ref (ad 13)), some (iv p), none, none, none, none, none] [] M
  refine Z_aload0 hk dX5_findDrifts_0 ?_
  refine Z_getR hk fl_5_21 dX5_findDrifts_1 ob_13.1 ob_13.2.1 ob_13.2.2.1 ob_13.2.2.2 ft_5_5 rs_13_5 ?_
  refine Z_iconst hk dX5_findDrifts_4 ?_
  refine Z_Sv hk (c_J7_fill_53178 κ.2.1 δ ad _ hA 17 10 ar_17 0 (by (omega))) os_J7_fill_53178 ml_X5_35 dX5_findDrifts_5 rfl ⟨by decide, by decide⟩ rfl (Nat.le_of_ble_eq_true rfl) (fun m5 p5 => ?_)
  obtain ⟨p5, f5_0⟩ := p5
  try simp only [f5_0, and_true, true_and, or_true, true_or, implies_true, upn, reduceIte, Nat.reduceEqDiff, ne_eq, not_false_eq_true, upc] at p5
  refine Z_iconst hk dX5_findDrifts_8 ?_
  refine Z_istore2 hk rfl (by decide) dX5_findDrifts_9 ?_
  refine Z_iconst hk dX5_findDrifts_10 ?_
  refine Z_istore3 hk rfl (by decide) dX5_findDrifts_11 ?_
  refine Z_iconst hk dX5_findDrifts_12 ?_
  have J15 : ∀ (n : Nat) (x2_15 : Int) (x3_15 : Int) (x4_15 : Int) (m15 : Mem), ((0 ≤ x4_15 ∧ x4_15 ≤ 10 ∧ -2147483648 ≤ x3_15 ∧ x3_15 ≤ 2147483647 ∧ 0 ≤ x2_15 ∧ x2_15 ≤ 1) ∧ (∀ c : Nat, c ≠ 17 → m15 c = m5 c)) → (10 - x4_15) < (n : Int) → Zj κ δ ad rs Q 7 (121, 0, 0) 15 [some (.ref (ad 13)), some (iv p), some (iv x2_15), some (iv x3_15), some (iv x4_15), none, none] [] m15 := by
    intro n
    induction n with
    | zero => intro x2_15 x3_15 x4_15 m15 h15 hm15; exfalso; obtain ⟨h15, -⟩ := h15; omega
    | succ n ih15 =>
      intro x2_15 x3_15 x4_15 m15 h15 hm15
      obtain ⟨h15, f15_0⟩ := h15
      try simp only [f15_0, f5_0, and_true, true_and, or_true, true_or, implies_true, upn, reduceIte, Nat.reduceEqDiff, ne_eq, not_false_eq_true, upc] at h15 hm15
      refine Z_iload4 hk dX5_findDrifts_15 ?_
      refine Z_bipush hk dX5_findDrifts_17 (by decide) ?_
      refine Z_icmp_ge hk (tgt := 85) dX5_findDrifts_19 (by decide) (by omega) (by omega) (by decide) (by decide) (fun h19 => ?_) (fun h19 => ?_)
      · exact Z_vret hk hA hQ dX5_findDrifts_85 ⟨rfl, rfl, rfl, (by exact ⟨(by (try simp only [f15_0, f5_0, and_true, true_and, or_true, true_or, implies_true, upn, reduceIte, Nat.reduceEqDiff, ne_eq, not_false_eq_true, upc]) <;> (trivial)), (by intro c k0; simp only [f15_0, f5_0, upc, upn, k0, reduceIte, Nat.reduceEqDiff, ne_eq, not_false_eq_true])⟩)⟩
      · refine Z_iload1 hk dX5_findDrifts_22 ?_
        refine Z_iconst hk dX5_findDrifts_23 ?_
        refine Z_icmp_eq hk (tgt := 85) dX5_findDrifts_24 (by decide) (by omega) (by omega) (by decide) (by decide) (fun h24 => ?_) (fun h24 => ?_)
        · exact Z_vret hk hA hQ dX5_findDrifts_85 ⟨rfl, rfl, rfl, (by exact ⟨(by (try simp only [f15_0, f5_0, and_true, true_and, or_true, true_or, implies_true, upn, reduceIte, Nat.reduceEqDiff, ne_eq, not_false_eq_true, upc]) <;> (trivial)), (by intro c k0; simp only [f15_0, f5_0, upc, upn, k0, reduceIte, Nat.reduceEqDiff, ne_eq, not_false_eq_true])⟩)⟩
        · refine Z_aload0 hk dX5_findDrifts_27 ?_
          refine Z_iload4 hk dX5_findDrifts_28 ?_
          refine Z_iload1 hk dX5_findDrifts_30 ?_
          refine Z_Vi hk (c_X5_countIn κ.2.1 δ ad _ hA x4_15 p (by (try simp only [f15_0, f5_0, and_true, true_and, or_true, true_or, implies_true, upn, reduceIte, Nat.reduceEqDiff, ne_eq, not_false_eq_true, upc]) <;> (omega))) ov_X5_countIn ml_X5_84 dX5_findDrifts_31 rfl ⟨by decide, by decide⟩ ob_13.1 (by decide) (by decide) rfl (Nat.le_of_ble_eq_true rfl) (fun r31 m31 p31 => ?_)
          obtain ⟨rfl, p31⟩ := p31
          try simp only [f15_0, f5_0, and_true, true_and, or_true, true_or, implies_true, upn, reduceIte, Nat.reduceEqDiff, ne_eq, not_false_eq_true, upc] at p31
          refine Z_istore5 hk rfl (by decide) dX5_findDrifts_34 ?_
          refine Z_iload5 hk dX5_findDrifts_36 ?_
          have J79 : ∀ (x2_79 : Int) (x3_79 : Int) (m79 : Mem), ((-2147483648 ≤ x3_79 ∧ x3_79 ≤ 2147483647 ∧ 0 ≤ x2_79 ∧ x2_79 ≤ 1) ∧ (∀ c : Nat, c ≠ 17 → m79 c = m15 c)) → Zj κ δ ad rs Q 7 (121, 0, 0) 79 [some (.ref (ad 13)), some (iv p), some (iv x2_79), some (iv x3_79), some (iv x4_15), some (iv r31), none] [] m79 := by
            intro x2_79 x3_79 m79 h79
            obtain ⟨h79, f79_0⟩ := h79
            try simp only [f79_0, f15_0, f5_0, and_true, true_and, or_true, true_or, implies_true, upn, reduceIte, Nat.reduceEqDiff, ne_eq, not_false_eq_true, upc] at h79
            refine Z_iinc4 hk rfl (by decide) dX5_findDrifts_79 ?_
            refine Z_goto hk (tgt := 15) dX5_findDrifts_82 (by decide) ?_
            refine Z_drop5 ?_
            exact ih15 _ _ _ _ (by exact ⟨(by (try simp only [f79_0, f15_0, f5_0, and_true, true_and, or_true, true_or, implies_true, upn, reduceIte, Nat.reduceEqDiff, ne_eq, not_false_eq_true, upc]) <;> (omega)), (by intro c k0; simp only [f79_0, f15_0, f5_0, upc, upn, k0, reduceIte, Nat.reduceEqDiff, ne_eq, not_false_eq_true])⟩) (by (try simp only [f79_0, f15_0, f5_0, and_true, true_and, or_true, true_or, implies_true, upn, reduceIte, Nat.reduceEqDiff, ne_eq, not_false_eq_true, upc]) <;> (omega))
          refine Z_if_le hk (tgt := 79) dX5_findDrifts_38 (by decide) (by omega) (by omega) (fun h38 => ?_) (fun h38 => ?_)
          · exact J79 _ _ _ (by exact ⟨(by (try simp only [f15_0, f5_0, and_true, true_and, or_true, true_or, implies_true, upn, reduceIte, Nat.reduceEqDiff, ne_eq, not_false_eq_true, upc]) <;> (omega)), (by intro c k0; simp only [f15_0, f5_0, upc, upn, k0, reduceIte, Nat.reduceEqDiff, ne_eq, not_false_eq_true])⟩)
          · refine Z_aload0 hk dX5_findDrifts_41 ?_
            refine Z_iload4 hk dX5_findDrifts_42 ?_
            refine Z_iload1 hk dX5_findDrifts_44 ?_
            refine Z_Vi hk (c_X5_sumIn κ.2.1 δ ad _ hA x4_15 p (by (try simp only [f15_0, f5_0, and_true, true_and, or_true, true_or, implies_true, upn, reduceIte, Nat.reduceEqDiff, ne_eq, not_false_eq_true, upc]) <;> (omega))) ov_X5_sumIn ml_X5_87 dX5_findDrifts_45 rfl ⟨by decide, by decide⟩ ob_13.1 (by decide) (by decide) rfl (Nat.le_of_ble_eq_true rfl) (fun r45 m45 p45 => ?_)
            obtain ⟨rfl, p45⟩ := p45
            try simp only [f15_0, f5_0, and_true, true_and, or_true, true_or, implies_true, upn, reduceIte, Nat.reduceEqDiff, ne_eq, not_false_eq_true, upc] at p45
            refine Z_iload5 hk dX5_findDrifts_48 ?_
            refine Z_Si hk (c_J9_floorDiv_7cf53 κ.2.1 δ ad _ hA r45 r31 (by (try simp only [f15_0, f5_0, and_true, true_and, or_true, true_or, implies_true, upn, reduceIte, Nat.reduceEqDiff, ne_eq, not_false_eq_true, upc]) <;> (omega)) (by (try simp only [f15_0, f5_0, and_true, true_and, or_true, true_or, implies_true, upn, reduceIte, Nat.reduceEqDiff, ne_eq, not_false_eq_true, upc]) <;> (omega)) (by (try simp only [f15_0, f5_0, and_true, true_and, or_true, true_or, implies_true, upn, reduceIte, Nat.reduceEqDiff, ne_eq, not_false_eq_true, upc]) <;> (omega))) os_J9_floorDiv_7cf53 ml_X5_90 dX5_findDrifts_50 rfl ⟨by decide, by decide⟩ rfl (Nat.le_of_ble_eq_true rfl) (fun r50 m50 p50 => ?_)
            obtain ⟨rfl, p50⟩ := p50
            try simp only [f15_0, f5_0, and_true, true_and, or_true, true_or, implies_true, upn, reduceIte, Nat.reduceEqDiff, ne_eq, not_false_eq_true, upc] at p50
            refine Z_istore6 hk rfl (by decide) dX5_findDrifts_53 ?_
            refine Z_iload2 hk dX5_findDrifts_55 ?_
            have J65 : ∀ (y0_65 : Int), (-2147483648 ≤ y0_65 ∧ y0_65 ≤ 2147483647) → Zj κ δ ad rs Q 7 (121, 0, 0) 65 [some (.ref (ad 13)), some (iv p), some (iv x2_15), some (iv x3_15), some (iv x4_15), some (iv r31), some (iv r50)] [iv y0_65] m15 := by
              intro y0_65 h65
              try simp only [f15_0, f5_0, and_true, true_and, or_true, true_or, implies_true, upn, reduceIte, Nat.reduceEqDiff, ne_eq, not_false_eq_true, upc] at h65
              refine Z_istore3 hk rfl (by decide) dX5_findDrifts_65 ?_
              refine Z_iconst hk dX5_findDrifts_66 ?_
              refine Z_istore2 hk rfl (by decide) dX5_findDrifts_67 ?_
              refine Z_aload0 hk dX5_findDrifts_68 ?_
              refine Z_getR hk fl_5_21 dX5_findDrifts_69 ob_13.1 ob_13.2.1 ob_13.2.2.1 ob_13.2.2.2 ft_5_5 rs_13_5 ?_
              refine Z_iload4 hk dX5_findDrifts_72 ?_
              refine Z_iload6 hk dX5_findDrifts_74 ?_
              refine Z_iload3 hk dX5_findDrifts_76 ?_
              refine Z_isub hk dX5_findDrifts_77 ?_
              refine Z_wI (fun w77 a77w b77w g77w => ?_)
              refine Z_iast hk hA dX5_findDrifts_78 ar_17.1 ar_17.2.1 ar_17.2.2 (by omega) (by omega) (by omega) (by omega) ?_
              refine Z_nm (fun m78 em78 => ?_)
              refine Z_drop6 ?_
              exact J79 _ _ _ (by exact ⟨(by (try simp only [em78, f15_0, f5_0, and_true, true_and, or_true, true_or, implies_true, upn, reduceIte, Nat.reduceEqDiff, ne_eq, not_false_eq_true, upc]) <;> (omega)), (by intro c k0; simp only [em78, f15_0, f5_0, upc, upn, k0, reduceIte, Nat.reduceEqDiff, ne_eq, not_false_eq_true])⟩)
            refine Z_if_eq hk (tgt := 63) dX5_findDrifts_56 (by decide) (by omega) (by omega) (fun h56 => ?_) (fun h56 => ?_)
            · refine Z_iload6 hk dX5_findDrifts_63 ?_
              exact J65 _ (by (try simp only [f15_0, f5_0, and_true, true_and, or_true, true_or, implies_true, upn, reduceIte, Nat.reduceEqDiff, ne_eq, not_false_eq_true, upc]) <;> (omega))
            · refine Z_iload3 hk dX5_findDrifts_59 ?_
              refine Z_goto hk (tgt := 65) dX5_findDrifts_60 (by decide) ?_
              exact J65 _ (by (try simp only [f15_0, f5_0, and_true, true_and, or_true, true_or, implies_true, upn, reduceIte, Nat.reduceEqDiff, ne_eq, not_false_eq_true, upc]) <;> (omega))
  refine Z_istore4 hk rfl (by decide) dX5_findDrifts_13 ?_
  exact J15 (((10 - 0) : Int).toNat + 1) _ _ _ _ (by exact ⟨(by (try simp only [f5_0, and_true, true_and, or_true, true_or, implies_true, upn, reduceIte, Nat.reduceEqDiff, ne_eq, not_false_eq_true, upc]) <;> (omega)), (by intro c k0; simp only [f5_0, upc, upn, k0, reduceIte, Nat.reduceEqDiff, ne_eq, not_false_eq_true])⟩) (by omega)
set_option maxRecDepth 10000 in
theorem c_X5_meanOf (l : Launch) (δ : Dp) (ad : Nat → Nat) (M : Mem) (hA : okA δ ad) (p : Int) (q0 : 0 ≤ p ∧ p ≤ 5) : Mi l δ yX5_meanOf cX5_meanOf 6 (some (.int)) 3 72 ad rs [.ref (ad 13), iv p] M (fun r M' => M = M' ∧ (-2147483648 ≤ r ∧ r ≤ 2147483647)) := by
  refine Mg.of (rm := rmN 3 72) (by decide) (Nat.le_of_ble_eq_true rfl) fun κ _ hk _ => ?_
  generalize hQ : Qg κ δ 121 (rmN 3 72).cells (rmN 3 72).slots _ = Q
  show Zj κ δ ad rs Q 6 (121, 0, 0) 0 [some (.ref (ad 13)), some (iv p), none, none, none, none] [] M
  refine Z_iconst hk dX5_meanOf_0 ?_
  refine Z_istore2 hk rfl (by decide) dX5_meanOf_1 ?_
  refine Z_iconst hk dX5_meanOf_2 ?_
  refine Z_istore3 hk rfl (by decide) dX5_meanOf_3 ?_
  refine Z_iconst hk dX5_meanOf_4 ?_
  have J7 : ∀ (n : Nat) (x2_7 : Int) (x3_7 : Int) (x4_7 : Int), (0 ≤ x4_7 ∧ x4_7 ≤ 10 ∧ 0 ≤ x2_7 ∧ x2_7 ≤ 30 * x4_7 ∧ -2147483648 ≤ x3_7 ∧ x3_7 ≤ 2147483647) → (10 - x4_7) < (n : Int) → Zj κ δ ad rs Q 6 (121, 0, 0) 7 [some (.ref (ad 13)), some (iv p), some (iv x2_7), some (iv x3_7), some (iv x4_7), none] [] M := by
    intro n
    induction n with
    | zero => intro x2_7 x3_7 x4_7 h7 hm7; exfalso; omega
    | succ n ih7 =>
      intro x2_7 x3_7 x4_7 h7 hm7
      refine Z_iload4 hk dX5_meanOf_7 ?_
      refine Z_bipush hk dX5_meanOf_9 (by decide) ?_
      refine Z_icmp_ge hk (tgt := 55) dX5_meanOf_11 (by decide) (by omega) (by omega) (by decide) (by decide) (fun h11 => ?_) (fun h11 => ?_)
      · refine Z_iload2 hk dX5_meanOf_55 ?_
        refine Z_iconst hk dX5_meanOf_56 ?_
        refine Z_icmp_ge hk (tgt := 65) dX5_meanOf_57 (by decide) (by omega) (by omega) (by decide) (by decide) (fun h57 => ?_) (fun h57 => ?_)
        · refine Z_iload3 hk dX5_meanOf_65 ?_
          refine Z_iload2 hk dX5_meanOf_66 ?_
          refine Z_Si hk (c_J9_floorDiv_7cf53 κ.2.1 δ ad _ hA x3_7 x2_7 (by (omega)) (by (omega)) (by (omega))) os_J9_floorDiv_7cf53 ml_X5_90 dX5_meanOf_67 rfl ⟨by decide, by decide⟩ rfl (Nat.le_of_ble_eq_true rfl) (fun r67 m67 p67 => ?_)
          obtain ⟨rfl, p67⟩ := p67
          exact Z_iret hk hA hQ dX5_meanOf_70 ⟨rfl, rfl, _, rfl, (by exact ⟨rfl, (by omega)⟩)⟩
        · refine Z_ldc hk (n := -1000000) (mem_g (by decide +kernel)) dX5_meanOf_60 ?_
          refine Z_goto hk (tgt := 70) dX5_meanOf_62 (by decide) ?_
          exact Z_iret hk hA hQ dX5_meanOf_70 ⟨rfl, rfl, _, rfl, (by exact ⟨rfl, (by omega)⟩)⟩
      · refine Z_aload0 hk dX5_meanOf_14 ?_
        refine Z_iload4 hk dX5_meanOf_15 ?_
        refine Z_iload1 hk dX5_meanOf_17 ?_
        refine Z_Vi hk (c_X5_countIn κ.2.1 δ ad _ hA x4_7 p (by (omega))) ov_X5_countIn ml_X5_84 dX5_meanOf_18 rfl ⟨by decide, by decide⟩ ob_13.1 (by decide) (by decide) rfl (Nat.le_of_ble_eq_true rfl) (fun r18 m18 p18 => ?_)
        obtain ⟨rfl, p18⟩ := p18
        refine Z_istore5 hk rfl (by decide) dX5_meanOf_21 ?_
        refine Z_iload2 hk dX5_meanOf_23 ?_
        refine Z_iload5 hk dX5_meanOf_24 ?_
        refine Z_iadd hk dX5_meanOf_26 ?_
        refine Z_istore2 hk rfl (by decide) dX5_meanOf_27 ?_
        refine Z_iload3 hk dX5_meanOf_28 ?_
        refine Z_aload0 hk dX5_meanOf_29 ?_
        refine Z_iload4 hk dX5_meanOf_30 ?_
        refine Z_iload1 hk dX5_meanOf_32 ?_
        refine Z_Vi hk (c_X5_sumIn κ.2.1 δ ad _ hA x4_7 p (by (omega))) ov_X5_sumIn ml_X5_87 dX5_meanOf_33 rfl ⟨by decide, by decide⟩ ob_13.1 (by decide) (by decide) rfl (Nat.le_of_ble_eq_true rfl) (fun r33 m33 p33 => ?_)
        obtain ⟨rfl, p33⟩ := p33
        refine Z_iload5 hk dX5_meanOf_36 ?_
        refine Z_aload0 hk dX5_meanOf_38 ?_
        refine Z_getR hk fl_5_21 dX5_meanOf_39 ob_13.1 ob_13.2.1 ob_13.2.2.1 ob_13.2.2.2 ft_5_5 rs_13_5 ?_
        refine Z_iload4 hk dX5_meanOf_42 ?_
        refine Z_iald hk dX5_meanOf_44 ar_17.1 ar_17.2.1 ar_17.2.2 (by omega) (by omega) (fun v44 e44 a44 b44 => ?_)
        refine Z_imul hk dX5_meanOf_45 ?_
        refine Z_wI (fun w45 a45w b45w g45w => ?_)
        refine Z_isub hk dX5_meanOf_46 ?_
        refine Z_wI (fun w46 a46w b46w g46w => ?_)
        refine Z_iadd hk dX5_meanOf_47 ?_
        refine Z_wI (fun w47 a47w b47w g47w => ?_)
        refine Z_istore3 hk rfl (by decide) dX5_meanOf_48 ?_
        refine Z_iinc4 hk rfl (by decide) dX5_meanOf_49 ?_
        refine Z_goto hk (tgt := 7) dX5_meanOf_52 (by decide) ?_
        refine Z_drop5 ?_
        exact ih7 _ _ _ (by omega) (by (omega))
  refine Z_istore4 hk rfl (by decide) dX5_meanOf_5 ?_
  exact J7 (((10 - 0) : Int).toNat + 1) _ _ _ (by omega) (by omega)
set_option maxRecDepth 10000 in
theorem c_X5_fill (l : Launch) (δ : Dp) (ad : Nat → Nat) (M : Mem) (hA : okA δ ad) (kn : Int) (q0 : 0 ≤ kn ∧ kn ≤ M 1 0) (q1 : 0 ≤ M 1 0 ∧ M 1 0 ≤ 250) (q2 : AD (M 1 0) (M 2) (M 3) (M 4) (M 5) (M 6)) (q3 : 0 ≤ M 38 0 ∧ M 38 0 ≤ 6 ∧ 0 ≤ M 38 1 ∧ M 38 1 ≤ 4 ∧ 0 ≤ M 38 2 ∧ M 38 2 ≤ 8 ∧ -1 ≤ M 38 5 ∧ M 38 5 ≤ 5 ∧ 0 ≤ M 38 6 ∧ M 38 6 ≤ 700) : Mv l δ yX5_fill cX5_fill 4 none 4 98 ad rs [.ref (ad 13), .ref (ad 38), iv kn] M (fun M' => (True) ∧ (∀ c : Nat, c ≠ 13 → c ≠ 14 → c ≠ 15 → c ≠ 16 → c ≠ 17 → M' c = M c) ∧ (∀ i : Nat, i ≠ 4 → M' 13 i = M 13 i)) := by
  refine Mg.of (rm := rmN 4 98) (by decide) (Nat.le_of_ble_eq_true rfl) fun κ _ hk _ => ?_
  generalize hQ : Qg κ δ 121 (rmN 4 98).cells (rmN 4 98).slots _ = Q
  show Zj κ δ ad rs Q 4 (121, 0, 0) 0 [some (.ref (ad 13)), some (.ref (ad 38)), some (iv kn), none] [] M
  refine Z_aload0 hk dX5_fill_0 ?_
  refine Z_aload1 hk dX5_fill_1 ?_
  refine Z_getZ hk fl_5_28 dX5_fill_2 ob_38.1 ob_38.2.1 ob_38.2.2.1 ob_38.2.2.2 ft_3_4 (fun v2 e2 a2 b2 => ?_)
  refine Z_putZ hk hA fl_5_34 dX5_fill_5 ob_13.1 ob_13.2.1 ob_13.2.2.1 ob_13.2.2.2 ft_5_4 (by omega) (by omega) ?_
  refine Z_nm (fun m5 em5 => ?_)
  refine Z_aload0 hk dX5_fill_8 ?_
  refine Z_getR hk fl_5_9 dX5_fill_9 ob_13.1 ob_13.2.1 ob_13.2.2.1 ob_13.2.2.2 ft_5_1 rs_13_1 ?_
  refine Z_iconst hk dX5_fill_12 ?_
  refine Z_Sv hk (c_J7_fill_53178 κ.2.1 δ ad _ hA 14 1800 ar_14 (-1) (by (try simp only [em5, and_true, true_and, or_true, true_or, implies_true, upn, reduceIte, Nat.reduceEqDiff, ne_eq, not_false_eq_true, upc]) <;> (omega))) os_J7_fill_53178 ml_X5_35 dX5_fill_13 rfl ⟨by decide, by decide⟩ rfl (Nat.le_of_ble_eq_true rfl) (fun m13 p13 => ?_)
  obtain ⟨p13, f13_0⟩ := p13
  try simp only [f13_0, em5, e2, and_true, true_and, or_true, true_or, implies_true, upn, reduceIte, Nat.reduceEqDiff, ne_eq, not_false_eq_true, upc] at p13
  refine Z_aload0 hk dX5_fill_16 ?_
  refine Z_getR hk fl_5_15 dX5_fill_17 ob_13.1 ob_13.2.1 ob_13.2.2.1 ob_13.2.2.2 ft_5_2 rs_13_2 ?_
  refine Z_bipush hk dX5_fill_20 (by decide) ?_
  refine Z_Sv hk (c_J7_fill_53178 κ.2.1 δ ad _ hA 15 30 ar_15 100 (by (try simp only [f13_0, em5, and_true, true_and, or_true, true_or, implies_true, upn, reduceIte, Nat.reduceEqDiff, ne_eq, not_false_eq_true, upc]) <;> (omega))) os_J7_fill_53178 ml_X5_35 dX5_fill_22 rfl ⟨by decide, by decide⟩ rfl (Nat.le_of_ble_eq_true rfl) (fun m22 p22 => ?_)
  obtain ⟨p22, f22_0⟩ := p22
  try simp only [f22_0, f13_0, em5, e2, and_true, true_and, or_true, true_or, implies_true, upn, reduceIte, Nat.reduceEqDiff, ne_eq, not_false_eq_true, upc] at p22
  refine Z_aload0 hk dX5_fill_25 ?_
  refine Z_getR hk fl_5_18 dX5_fill_26 ob_13.1 ob_13.2.1 ob_13.2.2.1 ob_13.2.2.2 ft_5_3 rs_13_3 ?_
  refine Z_iconst hk dX5_fill_29 ?_
  refine Z_Sv hk (c_J7_fill_53178 κ.2.1 δ ad _ hA 16 30 ar_16 0 (by (try simp only [f22_0, f13_0, em5, and_true, true_and, or_true, true_or, implies_true, upn, reduceIte, Nat.reduceEqDiff, ne_eq, not_false_eq_true, upc]) <;> (omega))) os_J7_fill_53178 ml_X5_35 dX5_fill_30 rfl ⟨by decide, by decide⟩ rfl (Nat.le_of_ble_eq_true rfl) (fun m30 p30 => ?_)
  obtain ⟨p30, f30_0⟩ := p30
  try simp only [f30_0, f22_0, f13_0, em5, e2, and_true, true_and, or_true, true_or, implies_true, upn, reduceIte, Nat.reduceEqDiff, ne_eq, not_false_eq_true, upc] at p30
  refine Z_iconst hk dX5_fill_33 ?_
  have J35 : ∀ (n : Nat) (x3_35 : Int) (m35 : Mem), ((1 ≤ x3_35 ∧ x3_35 ≤ kn + 1) ∧ (∀ c : Nat, c ≠ 14 → c ≠ 15 → c ≠ 16 → m35 c = m30 c)) → (kn + 1 - x3_35) < (n : Int) → Zj κ δ ad rs Q 4 (121, 0, 0) 35 [some (.ref (ad 13)), some (.ref (ad 38)), some (iv kn), some (iv x3_35)] [] m35 := by
    intro n
    induction n with
    | zero => intro x3_35 m35 h35 hm35; exfalso; obtain ⟨h35, -⟩ := h35; omega
    | succ n ih35 =>
      intro x3_35 m35 h35 hm35
      obtain ⟨h35, f35_0⟩ := h35
      try simp only [f35_0, f30_0, f22_0, f13_0, em5, and_true, true_and, or_true, true_or, implies_true, upn, reduceIte, Nat.reduceEqDiff, ne_eq, not_false_eq_true, upc] at h35 hm35
      refine Z_iload3 hk dX5_fill_35 ?_
      refine Z_iload2 hk dX5_fill_36 ?_
      refine Z_icmp_gt hk (tgt := 111) dX5_fill_37 (by decide) (by omega) (by omega) (by omega) (by omega) (fun h37 => ?_) (fun h37 => ?_)
      · refine Z_aload0 hk dX5_fill_111 ?_
        refine Z_aload1 hk dX5_fill_112 ?_
        refine Z_getI hk fl_5_67 dX5_fill_113 ob_38.1 ob_38.2.1 ob_38.2.2.1 ob_38.2.2.2 ft_3_5 (fun v113 e113 a113 b113 => ?_)
        try simp only [f35_0, f30_0, f22_0, f13_0, em5, e2, and_true, true_and, or_true, true_or, implies_true, upn, reduceIte, Nat.reduceEqDiff, ne_eq, not_false_eq_true, upc] at e113
        refine Z_Vv hk (c_X5_findDrifts κ.2.1 δ ad _ hA v113 (by (try simp only [f35_0, f30_0, f22_0, f13_0, em5, and_true, true_and, or_true, true_or, implies_true, upn, reduceIte, Nat.reduceEqDiff, ne_eq, not_false_eq_true, upc]) <;> (omega))) ov_X5_findDrifts ml_X5_71 dX5_fill_116 rfl ⟨by decide, by decide⟩ ob_13.1 (by decide) (by decide) rfl (Nat.le_of_ble_eq_true rfl) (fun m116 p116 => ?_)
        obtain ⟨p116, f116_0⟩ := p116
        try simp only [f116_0, f35_0, f30_0, f22_0, f13_0, em5, e2, e113, and_true, true_and, or_true, true_or, implies_true, upn, reduceIte, Nat.reduceEqDiff, ne_eq, not_false_eq_true, upc] at p116
        exact Z_vret hk hA hQ dX5_fill_119 ⟨rfl, rfl, rfl, (by exact ⟨(by (try simp only [f116_0, f35_0, f30_0, f22_0, f13_0, em5, and_true, true_and, or_true, true_or, implies_true, upn, reduceIte, Nat.reduceEqDiff, ne_eq, not_false_eq_true, upc]) <;> (trivial)), (by intro c k0 k1 k2 k3 k4; simp only [f116_0, f35_0, f30_0, f22_0, f13_0, em5, upc, upn, k0, k1, k2, k3, k4, reduceIte, Nat.reduceEqDiff, ne_eq, not_false_eq_true]), (by intro i k0; simp only [f116_0, f35_0, f30_0, f22_0, f13_0, em5, upc, upn, k0, reduceIte, Nat.reduceEqDiff, ne_eq, not_false_eq_true])⟩)⟩
      · refine Z_aload0 hk dX5_fill_40 ?_
        refine Z_getR hk fl_5_24 dX5_fill_41 ob_13.1 ob_13.2.1 ob_13.2.2.1 ob_13.2.2.2 ft_5_0 rs_13_0 ?_
        refine Z_iload3 hk dX5_fill_44 ?_
        refine Z_iconst hk dX5_fill_45 ?_
        refine Z_iload2 hk dX5_fill_46 ?_
        refine Z_Vi hk (c_X2_isKnown κ.2.1 δ ad _ hA x3_35 2 kn (by (try simp only [f35_0, f30_0, f22_0, f13_0, em5, and_true, true_and, or_true, true_or, implies_true, upn, reduceIte, Nat.reduceEqDiff, ne_eq, not_false_eq_true, upc]) <;> (omega)) (by (try simp only [f35_0, f30_0, f22_0, f13_0, em5, and_true, true_and, or_true, true_or, implies_true, upn, reduceIte, Nat.reduceEqDiff, ne_eq, not_false_eq_true, upc]) <;> (omega)) (by (try simp only [f35_0, f30_0, f22_0, f13_0, em5, and_true, true_and, or_true, true_or, implies_true, upn, reduceIte, Nat.reduceEqDiff, ne_eq, not_false_eq_true, upc]) <;> (omega))) ov_X2_isKnown ml_X5_43 dX5_fill_47 rfl ⟨by decide, by decide⟩ ob_1.1 (by decide) (by decide) rfl (Nat.le_of_ble_eq_true rfl) (fun r47 m47 p47 => ?_)
        obtain ⟨rfl, p47⟩ := p47
        try simp only [f35_0, f30_0, f22_0, f13_0, em5, e2, and_true, true_and, or_true, true_or, implies_true, upn, reduceIte, Nat.reduceEqDiff, ne_eq, not_false_eq_true, upc] at p47
        have J105 : ∀ (m105 : Mem), ((True) ∧ (∀ c : Nat, c ≠ 14 → c ≠ 15 → c ≠ 16 → m105 c = m35 c)) → Zj κ δ ad rs Q 4 (121, 0, 0) 105 [some (.ref (ad 13)), some (.ref (ad 38)), some (iv kn), some (iv x3_35)] [] m105 := by
          intro m105 h105
          obtain ⟨h105, f105_0⟩ := h105
          try simp only [f105_0, f35_0, f30_0, f22_0, f13_0, em5, and_true, true_and, or_true, true_or, implies_true, upn, reduceIte, Nat.reduceEqDiff, ne_eq, not_false_eq_true, upc] at h105
          refine Z_iinc3 hk rfl (by decide) dX5_fill_105 ?_
          refine Z_goto hk (tgt := 35) dX5_fill_108 (by decide) ?_
          exact ih35 _ _ (by exact ⟨(by (try simp only [f105_0, f35_0, f30_0, f22_0, f13_0, em5, and_true, true_and, or_true, true_or, implies_true, upn, reduceIte, Nat.reduceEqDiff, ne_eq, not_false_eq_true, upc]) <;> (omega)), (by intro c k0 k1 k2; simp only [f105_0, f35_0, f30_0, f22_0, f13_0, em5, upc, upn, k0, k1, k2, reduceIte, Nat.reduceEqDiff, ne_eq, not_false_eq_true])⟩) (by (try simp only [f105_0, f35_0, f30_0, f22_0, f13_0, em5, and_true, true_and, or_true, true_or, implies_true, upn, reduceIte, Nat.reduceEqDiff, ne_eq, not_false_eq_true, upc]) <;> (omega))
        refine Z_if_eq hk (tgt := 105) dX5_fill_50 (by decide) (by omega) (by omega) (fun h50 => ?_) (fun h50 => ?_)
        · exact J105 _ (by exact ⟨(by (try simp only [f35_0, f30_0, f22_0, f13_0, em5, and_true, true_and, or_true, true_or, implies_true, upn, reduceIte, Nat.reduceEqDiff, ne_eq, not_false_eq_true, upc]) <;> (trivial)), (by intro c k0 k1 k2; simp only [f35_0, f30_0, f22_0, f13_0, em5, upc, upn, k0, k1, k2, reduceIte, Nat.reduceEqDiff, ne_eq, not_false_eq_true])⟩)
        · obtain ⟨-, g53, -⟩ := q2 x3_35.toNat (by omega) (by omega)
          have g53 := g53 (by omega)
          refine Z_aload0 hk dX5_fill_53 ?_
          refine Z_aload0 hk dX5_fill_54 ?_
          refine Z_getR hk fl_5_24 dX5_fill_55 ob_13.1 ob_13.2.1 ob_13.2.2.1 ob_13.2.2.2 ft_5_0 rs_13_0 ?_
          refine Z_getR hk fl_5_47 dX5_fill_58 ob_1.1 ob_1.2.1 ob_1.2.2.1 ob_1.2.2.2 ft_2_2 rs_1_2 ?_
          refine Z_iload3 hk dX5_fill_61 ?_
          refine Z_iald hk dX5_fill_62 ar_3.1 ar_3.2.1 ar_3.2.2 (by omega) (by omega) (fun v62 e62 a62 b62 => ?_)
          try simp only [f35_0, f30_0, f22_0, f13_0, em5, e2, and_true, true_and, or_true, true_or, implies_true, upn, reduceIte, Nat.reduceEqDiff, ne_eq, not_false_eq_true, upc] at e62
          refine Z_aload0 hk dX5_fill_63 ?_
          refine Z_getR hk fl_5_24 dX5_fill_64 ob_13.1 ob_13.2.1 ob_13.2.2.1 ob_13.2.2.2 ft_5_0 rs_13_0 ?_
          refine Z_getR hk fl_5_50 dX5_fill_67 ob_1.1 ob_1.2.1 ob_1.2.2.1 ob_1.2.2.2 ft_2_3 rs_1_3 ?_
          refine Z_iload3 hk dX5_fill_70 ?_
          refine Z_iald hk dX5_fill_71 ar_4.1 ar_4.2.1 ar_4.2.2 (by omega) (by omega) (fun v71 e71 a71 b71 => ?_)
          try simp only [f35_0, f30_0, f22_0, f13_0, em5, e2, e62, and_true, true_and, or_true, true_or, implies_true, upn, reduceIte, Nat.reduceEqDiff, ne_eq, not_false_eq_true, upc] at e71
          refine Z_aload0 hk dX5_fill_72 ?_
          refine Z_getR hk fl_5_24 dX5_fill_73 ob_13.1 ob_13.2.1 ob_13.2.2.1 ob_13.2.2.2 ft_5_0 rs_13_0 ?_
          refine Z_getR hk fl_5_53 dX5_fill_76 ob_1.1 ob_1.2.1 ob_1.2.2.1 ob_1.2.2.2 ft_2_4 rs_1_4 ?_
          refine Z_iload3 hk dX5_fill_79 ?_
          refine Z_iald hk dX5_fill_80 ar_5.1 ar_5.2.1 ar_5.2.2 (by omega) (by omega) (fun v80 e80 a80 b80 => ?_)
          try simp only [f35_0, f30_0, f22_0, f13_0, em5, e2, e62, e71, and_true, true_and, or_true, true_or, implies_true, upn, reduceIte, Nat.reduceEqDiff, ne_eq, not_false_eq_true, upc] at e80
          refine Z_Si hk (c_X5_cell κ.2.1 δ ad _ hA v62 v71 v80 (by (try simp only [f35_0, f30_0, f22_0, f13_0, em5, and_true, true_and, or_true, true_or, implies_true, upn, reduceIte, Nat.reduceEqDiff, ne_eq, not_false_eq_true, upc]) <;> (omega))) os_X5_cell ml_X5_56 dX5_fill_81 rfl ⟨by decide, by decide⟩ rfl (Nat.le_of_ble_eq_true rfl) (fun r81 m81 p81 => ?_)
          obtain ⟨rfl, p81⟩ := p81
          try simp only [f35_0, f30_0, f22_0, f13_0, em5, e2, e62, e71, e80, and_true, true_and, or_true, true_or, implies_true, upn, reduceIte, Nat.reduceEqDiff, ne_eq, not_false_eq_true, upc] at p81
          refine Z_aload0 hk dX5_fill_84 ?_
          refine Z_getR hk fl_5_24 dX5_fill_85 ob_13.1 ob_13.2.1 ob_13.2.2.1 ob_13.2.2.2 ft_5_0 rs_13_0 ?_
          refine Z_getR hk fl_5_47 dX5_fill_88 ob_1.1 ob_1.2.1 ob_1.2.2.1 ob_1.2.2.2 ft_2_2 rs_1_2 ?_
          refine Z_iload3 hk dX5_fill_91 ?_
          refine Z_iald hk dX5_fill_92 ar_3.1 ar_3.2.1 ar_3.2.2 (by omega) (by omega) (fun v92 e92 a92 b92 => ?_)
          try simp only [f35_0, f30_0, f22_0, f13_0, em5, e2, e62, e71, e80, and_true, true_and, or_true, true_or, implies_true, upn, reduceIte, Nat.reduceEqDiff, ne_eq, not_false_eq_true, upc] at e92
          refine Z_aload0 hk dX5_fill_93 ?_
          refine Z_getR hk fl_5_24 dX5_fill_94 ob_13.1 ob_13.2.1 ob_13.2.2.1 ob_13.2.2.2 ft_5_0 rs_13_0 ?_
          refine Z_getR hk fl_5_60 dX5_fill_97 ob_1.1 ob_1.2.1 ob_1.2.2.1 ob_1.2.2.2 ft_2_5 rs_1_5 ?_
          refine Z_iload3 hk dX5_fill_100 ?_
          refine Z_iald hk dX5_fill_101 ar_6.1 ar_6.2.1 ar_6.2.2 (by omega) (by omega) (fun v101 e101 a101 b101 => ?_)
          try simp only [f35_0, f30_0, f22_0, f13_0, em5, e2, e62, e71, e80, e92, and_true, true_and, or_true, true_or, implies_true, upn, reduceIte, Nat.reduceEqDiff, ne_eq, not_false_eq_true, upc] at e101
          refine Z_Vv hk (c_X5_write κ.2.1 δ ad _ hA r81 v92 v101 (by (try simp only [f35_0, f30_0, f22_0, f13_0, em5, and_true, true_and, or_true, true_or, implies_true, upn, reduceIte, Nat.reduceEqDiff, ne_eq, not_false_eq_true, upc]) <;> (omega)) (by (try simp only [f35_0, f30_0, f22_0, f13_0, em5, and_true, true_and, or_true, true_or, implies_true, upn, reduceIte, Nat.reduceEqDiff, ne_eq, not_false_eq_true, upc]) <;> (omega))) ov_X5_write ml_X5_63 dX5_fill_102 rfl ⟨by decide, by decide⟩ ob_13.1 (by decide) (by decide) rfl (Nat.le_of_ble_eq_true rfl) (fun m102 p102 => ?_)
          obtain ⟨p102, f102_0⟩ := p102
          try simp only [f102_0, f35_0, f30_0, f22_0, f13_0, em5, e2, e62, e71, e80, e92, e101, and_true, true_and, or_true, true_or, implies_true, upn, reduceIte, Nat.reduceEqDiff, ne_eq, not_false_eq_true, upc] at p102
          exact J105 _ (by exact ⟨(by (try simp only [f102_0, f35_0, f30_0, f22_0, f13_0, em5, and_true, true_and, or_true, true_or, implies_true, upn, reduceIte, Nat.reduceEqDiff, ne_eq, not_false_eq_true, upc]) <;> (trivial)), (by intro c k0 k1 k2; simp only [f102_0, f35_0, f30_0, f22_0, f13_0, em5, upc, upn, k0, k1, k2, reduceIte, Nat.reduceEqDiff, ne_eq, not_false_eq_true])⟩)
  refine Z_istore3 hk rfl (by decide) dX5_fill_34 ?_
  exact J35 (((kn + 1 - 1) : Int).toNat + 1) _ _ (by exact ⟨(by (try simp only [f30_0, f22_0, f13_0, em5, and_true, true_and, or_true, true_or, implies_true, upn, reduceIte, Nat.reduceEqDiff, ne_eq, not_false_eq_true, upc]) <;> (omega)), (by intro c k0 k1 k2; simp only [f30_0, f22_0, f13_0, em5, upc, upn, k0, k1, k2, reduceIte, Nat.reduceEqDiff, ne_eq, not_false_eq_true])⟩) (by omega)
set_option maxRecDepth 10000 in
theorem c_X1_pop (l : Launch) (δ : Dp) (ad : Nat → Nat) (M : Mem) (hA : okA δ ad) (q0 : 0 ≤ (M 18 3) ∧ (M 18 3) ≤ 64) : Mi l δ yX1_pop cX1_pop 1 (some (.int)) 0 0 ad rs [.ref (ad 18)] M (fun r M' => (0 ≤ (M' 18 3) ∧ (M' 18 3) ≤ 64 ∧ -2147483648 ≤ r ∧ r ≤ 2147483647) ∧ (∀ c : Nat, c ≠ 18 → M' c = M c) ∧ (∀ i : Nat, i ≠ 3 → M' 18 i = M 18 i)) := by
  refine Mg.of (rm := rmN 0 0) (by decide) (Nat.le_of_ble_eq_true rfl) fun κ _ hk _ => ?_
  generalize hQ : Qg κ δ 121 (rmN 0 0).cells (rmN 0 0).slots _ = Q
  show Zj κ δ ad rs Q 1 (121, 0, 0) 0 [some (.ref (ad 18))] [] M
  refine Z_aload0 hk dX1_pop_0 ?_
  refine Z_getI hk fl_1_29 dX1_pop_1 ob_18.1 ob_18.2.1 ob_18.2.2.1 ob_18.2.2.2 ft_1_3 (fun v1 e1 a1 b1 => ?_)
  refine Z_iconst hk dX1_pop_4 ?_
  refine Z_icmp_ge hk (tgt := 10) dX1_pop_5 (by decide) (by omega) (by omega) (by decide) (by decide) (fun h5 => ?_) (fun h5 => ?_)
  · refine Z_aload0 hk dX1_pop_10 ?_
    refine Z_dup1 hk rfl dX1_pop_11 ?_
    refine Z_getI hk fl_1_29 dX1_pop_12 ob_18.1 ob_18.2.1 ob_18.2.2.1 ob_18.2.2.2 ft_1_3 (fun v12 e12 a12 b12 => ?_)
    try simp only [e1, and_true, true_and, or_true, true_or, implies_true, upn, reduceIte, Nat.reduceEqDiff, ne_eq, not_false_eq_true, upc] at e12
    refine Z_iconst hk dX1_pop_15 ?_
    refine Z_isub hk dX1_pop_16 ?_
    refine Z_putI hk hA fl_1_29 dX1_pop_17 ob_18.1 ob_18.2.1 ob_18.2.2.1 ob_18.2.2.2 ft_1_3 (by omega) (by omega) ?_
    refine Z_nm (fun m17 em17 => ?_)
    refine Z_aload0 hk dX1_pop_20 ?_
    refine Z_getR hk fl_1_11 dX1_pop_21 ob_18.1 ob_18.2.1 ob_18.2.2.1 ob_18.2.2.2 ft_1_2 rs_18_2 ?_
    refine Z_aload0 hk dX1_pop_24 ?_
    refine Z_getI hk fl_1_29 dX1_pop_25 ob_18.1 ob_18.2.1 ob_18.2.2.1 ob_18.2.2.2 ft_1_3 (fun v25 e25 a25 b25 => ?_)
    try simp only [em17, e1, e12, and_true, true_and, or_true, true_or, implies_true, upn, reduceIte, Nat.reduceEqDiff, ne_eq, not_false_eq_true, upc] at e25
    refine Z_iald hk dX1_pop_28 ar_19.1 ar_19.2.1 ar_19.2.2 (by omega) (by omega) (fun v28 e28 a28 b28 => ?_)
    try simp only [em17, e1, e12, e25, and_true, true_and, or_true, true_or, implies_true, upn, reduceIte, Nat.reduceEqDiff, ne_eq, not_false_eq_true, upc] at e28
    exact Z_iret hk hA hQ dX1_pop_29 ⟨rfl, rfl, _, rfl, (by exact ⟨(by (try simp only [em17, and_true, true_and, or_true, true_or, implies_true, upn, reduceIte, Nat.reduceEqDiff, ne_eq, not_false_eq_true, upc]) <;> (omega)), (by intro c k0; simp only [em17, upc, upn, k0, reduceIte, Nat.reduceEqDiff, ne_eq, not_false_eq_true]), (by intro i k0; simp only [em17, upc, upn, k0, reduceIte, Nat.reduceEqDiff, ne_eq, not_false_eq_true])⟩)⟩
  · refine Z_iconst hk dX1_pop_8 ?_
    exact Z_iret hk hA hQ dX1_pop_9 ⟨rfl, rfl, _, rfl, (by exact ⟨(by (omega)), (by intro c k0; rfl), (by intro i k0; rfl)⟩)⟩
set_option maxRecDepth 10000 in
theorem c_X1_push (l : Launch) (δ : Dp) (ad : Nat → Nat) (M : Mem) (hA : okA δ ad) (v : Int) (q0 : 0 ≤ (M 18 3) ∧ (M 18 3) ≤ 64) (i_v : -2147483648 ≤ v ∧ v ≤ 2147483647) : Mv l δ yX1_push cX1_push 2 none 0 0 ad rs [.ref (ad 18), iv v] M (fun M' => (0 ≤ (M' 18 3) ∧ (M' 18 3) ≤ 64) ∧ (∀ c : Nat, c ≠ 18 → c ≠ 19 → M' c = M c) ∧ (∀ i : Nat, i ≠ 3 → M' 18 i = M 18 i)) := by
  refine Mg.of (rm := rmN 0 0) (by decide) (Nat.le_of_ble_eq_true rfl) fun κ _ hk _ => ?_
  generalize hQ : Qg κ δ 121 (rmN 0 0).cells (rmN 0 0).slots _ = Q
  show Zj κ δ ad rs Q 2 (121, 0, 0) 0 [some (.ref (ad 18)), some (iv v)] [] M
  refine Z_aload0 hk dX1_push_0 ?_
  refine Z_getI hk fl_1_29 dX1_push_1 ob_18.1 ob_18.2.1 ob_18.2.2.1 ob_18.2.2.2 ft_1_3 (fun v1 e1 a1 b1 => ?_)
  refine Z_bipush hk dX1_push_4 (by decide) ?_
  refine Z_icmp_ge hk (tgt := 29) dX1_push_6 (by decide) (by omega) (by omega) (by decide) (by decide) (fun h6 => ?_) (fun h6 => ?_)
  · exact Z_vret hk hA hQ dX1_push_29 ⟨rfl, rfl, rfl, (by exact ⟨(by (omega)), (by intro c k0 k1; rfl), (by intro i k0; rfl)⟩)⟩
  · refine Z_aload0 hk dX1_push_9 ?_
    refine Z_getR hk fl_1_11 dX1_push_10 ob_18.1 ob_18.2.1 ob_18.2.2.1 ob_18.2.2.2 ft_1_2 rs_18_2 ?_
    refine Z_aload0 hk dX1_push_13 ?_
    refine Z_getI hk fl_1_29 dX1_push_14 ob_18.1 ob_18.2.1 ob_18.2.2.1 ob_18.2.2.2 ft_1_3 (fun v14 e14 a14 b14 => ?_)
    try simp only [e1, and_true, true_and, or_true, true_or, implies_true, upn, reduceIte, Nat.reduceEqDiff, ne_eq, not_false_eq_true, upc] at e14
    refine Z_iload1 hk dX1_push_17 ?_
    refine Z_iast hk hA dX1_push_18 ar_19.1 ar_19.2.1 ar_19.2.2 (by omega) (by omega) (by omega) (by omega) ?_
    refine Z_nm (fun m18 em18 => ?_)
    refine Z_aload0 hk dX1_push_19 ?_
    refine Z_dup1 hk rfl dX1_push_20 ?_
    refine Z_getI hk fl_1_29 dX1_push_21 ob_18.1 ob_18.2.1 ob_18.2.2.1 ob_18.2.2.2 ft_1_3 (fun v21 e21 a21 b21 => ?_)
    try simp only [em18, e1, e14, and_true, true_and, or_true, true_or, implies_true, upn, reduceIte, Nat.reduceEqDiff, ne_eq, not_false_eq_true, upc] at e21
    refine Z_iconst hk dX1_push_24 ?_
    refine Z_iadd hk dX1_push_25 ?_
    refine Z_putI hk hA fl_1_29 dX1_push_26 ob_18.1 ob_18.2.1 ob_18.2.2.1 ob_18.2.2.2 ft_1_3 (by omega) (by omega) ?_
    refine Z_nm (fun m26 em26 => ?_)
    exact Z_vret hk hA hQ dX1_push_29 ⟨rfl, rfl, rfl, (by exact ⟨(by (try simp only [em26, em18, and_true, true_and, or_true, true_or, implies_true, upn, reduceIte, Nat.reduceEqDiff, ne_eq, not_false_eq_true, upc]) <;> (omega)), (by intro c k0 k1; simp only [em26, em18, upc, upn, k0, k1, reduceIte, Nat.reduceEqDiff, ne_eq, not_false_eq_true]), (by intro i k0; simp only [em26, em18, upc, upn, k0, reduceIte, Nat.reduceEqDiff, ne_eq, not_false_eq_true])⟩)⟩
set_option maxRecDepth 10000 in
theorem c_X1_isPart (l : Launch) (δ : Dp) (ad : Nat → Nat) (M : Mem) (hA : okA δ ad) (k : Int) (i_k : -2147483648 ≤ k ∧ k ≤ 2147483647) : Mi l δ yX1_isPart cX1_isPart 1 (some (.boolean)) 0 0 ad rs [iv k] M (fun r M' => M = M' ∧ (0 ≤ r ∧ r ≤ 1 ∧ (r = 1 ↔ k = 32 ∨ k = 31 ∨ (21 ≤ k ∧ k ≤ 28)))) := by
  refine Mg.of (rm := rmN 0 0) (by decide) (Nat.le_of_ble_eq_true rfl) fun κ _ hk _ => ?_
  generalize hQ : Qg κ δ 121 (rmN 0 0).cells (rmN 0 0).slots _ = Q
  show Zj κ δ ad rs Q 1 (121, 0, 0) 0 [some (iv k)] [] M
  refine Z_iload0 hk dX1_isPart_0 ?_
  refine Z_bipush hk dX1_isPart_1 (by decide) ?_
  refine Z_icmp_eq hk (tgt := 24) dX1_isPart_3 (by decide) (by omega) (by omega) (by decide) (by decide) (fun h3 => ?_) (fun h3 => ?_)
  · refine Z_iconst hk dX1_isPart_24 ?_
    refine Z_goto hk (tgt := 29) dX1_isPart_25 (by decide) ?_
    exact Z_zret hk hA hQ dX1_isPart_29 (by decide) (by decide) ⟨rfl, rfl, _, rfl, (by exact ⟨rfl, (by omega)⟩)⟩
  · refine Z_iload0 hk dX1_isPart_6 ?_
    refine Z_bipush hk dX1_isPart_7 (by decide) ?_
    refine Z_icmp_eq hk (tgt := 24) dX1_isPart_9 (by decide) (by omega) (by omega) (by decide) (by decide) (fun h9 => ?_) (fun h9 => ?_)
    · refine Z_iconst hk dX1_isPart_24 ?_
      refine Z_goto hk (tgt := 29) dX1_isPart_25 (by decide) ?_
      exact Z_zret hk hA hQ dX1_isPart_29 (by decide) (by decide) ⟨rfl, rfl, _, rfl, (by exact ⟨rfl, (by omega)⟩)⟩
    · refine Z_iload0 hk dX1_isPart_12 ?_
      refine Z_bipush hk dX1_isPart_13 (by decide) ?_
      refine Z_icmp_lt hk (tgt := 28) dX1_isPart_15 (by decide) (by omega) (by omega) (by decide) (by decide) (fun h15 => ?_) (fun h15 => ?_)
      · refine Z_iconst hk dX1_isPart_28 ?_
        exact Z_zret hk hA hQ dX1_isPart_29 (by decide) (by decide) ⟨rfl, rfl, _, rfl, (by exact ⟨rfl, (by omega)⟩)⟩
      · refine Z_iload0 hk dX1_isPart_18 ?_
        refine Z_bipush hk dX1_isPart_19 (by decide) ?_
        refine Z_icmp_gt hk (tgt := 28) dX1_isPart_21 (by decide) (by omega) (by omega) (by decide) (by decide) (fun h21 => ?_) (fun h21 => ?_)
        · refine Z_iconst hk dX1_isPart_28 ?_
          exact Z_zret hk hA hQ dX1_isPart_29 (by decide) (by decide) ⟨rfl, rfl, _, rfl, (by exact ⟨rfl, (by omega)⟩)⟩
        · refine Z_iconst hk dX1_isPart_24 ?_
          refine Z_goto hk (tgt := 29) dX1_isPart_25 (by decide) ?_
          exact Z_zret hk hA hQ dX1_isPart_29 (by decide) (by decide) ⟨rfl, rfl, _, rfl, (by exact ⟨rfl, (by omega)⟩)⟩
set_option maxRecDepth 10000 in
theorem c_X1_bounded (l : Launch) (δ : Dp) (ad : Nat → Nat) (M : Mem) (hA : okA δ ad) (v : Int) (i_v : -9223372036854775808 ≤ v ∧ v ≤ 9223372036854775807) : Mi l δ yX1_bounded cX1_bounded 2 (some (.int)) 1 23 ad rs [jv v] M (fun r M' => M = M' ∧ (-2147483648 ≤ r ∧ r ≤ 2147483647)) := by
  refine Mg.of (rm := rmN 1 23) (by decide) (Nat.le_of_ble_eq_true rfl) fun κ _ hk _ => ?_
  generalize hQ : Qg κ δ 121 (rmN 1 23).cells (rmN 1 23).slots _ = Q
  show Zj κ δ ad rs Q 2 (121, 0, 0) 0 [some (jv v), none] [] M
  refine Z_ldc2_w hk (n := -1000000000) (mem_g (by decide +kernel)) dX1_bounded_0 ?_
  refine Z_ldc2_w hk (n := 1000000000) (mem_g (by decide +kernel)) dX1_bounded_3 ?_
  refine Z_lload0 hk dX1_bounded_6 ?_
  refine Z_Sj hk (c_J9_min_f86c9 κ.2.1 δ ad _ hA (1000000000) v (by (omega)) (by (omega))) os_J9_min_f86c9 ml_X1_93 dX1_bounded_7 rfl ⟨by decide, by decide⟩ rfl (Nat.le_of_ble_eq_true rfl) (fun r7 m7 p7 => ?_)
  obtain ⟨rfl, p7⟩ := p7
  refine Z_Sj hk (c_J9_max_f86c9 κ.2.1 δ ad _ hA (-1000000000) r7 (by (omega)) (by (omega))) os_J9_max_f86c9 ml_X1_96 dX1_bounded_10 rfl ⟨by decide, by decide⟩ rfl (Nat.le_of_ble_eq_true rfl) (fun r10 m10 p10 => ?_)
  obtain ⟨rfl, p10⟩ := p10
  refine Z_l2i hk dX1_bounded_13 ?_
  refine Z_wI (fun w13 a13w b13w g13w => ?_)
  exact Z_iret hk hA hQ dX1_bounded_14 ⟨rfl, rfl, _, rfl, (by exact ⟨rfl, (by omega)⟩)⟩
set_option maxRecDepth 10000 in
theorem c_X1_joined (l : Launch) (δ : Dp) (ad : Nat → Nat) (M : Mem) (hA : okA δ ad) (k : Int) (a : Int) (b : Int) (i_k : -2147483648 ≤ k ∧ k ≤ 2147483647) (i_a : -2147483648 ≤ a ∧ a ≤ 2147483647) (i_b : -2147483648 ≤ b ∧ b ≤ 2147483647) : Mi l δ yX1_joined cX1_joined 3 (some (.int)) 2 44 ad rs [iv k, iv a, iv b] M (fun r M' => M = M' ∧ (-2147483648 ≤ r ∧ r ≤ 2147483647)) := by
  refine Mg.of (rm := rmN 2 44) (by decide) (Nat.le_of_ble_eq_true rfl) fun κ _ hk _ => ?_
  generalize hQ : Qg κ δ 121 (rmN 2 44).cells (rmN 2 44).slots _ = Q
  show Zj κ δ ad rs Q 3 (121, 0, 0) 0 [some (iv k), some (iv a), some (iv b)] [] M
  refine Z_iload0 hk dX1_joined_0 ?_
  rcases (show (k ≠ 17 ∧ k ≠ 18 ∧ k ≠ 29 ∧ k ≠ 42 ∧ k ≠ 43 ∧ k ≠ 45 ∧ k ≠ 47 ∧ k ≠ 60 ∧ k ≠ 61 ∧ k ≠ 62) ∨ k = 17 ∨ k = 18 ∨ k = 29 ∨ k = 42 ∨ k = 43 ∨ k = 45 ∨ k = 47 ∨ k = 60 ∨ k = 61 ∨ k = 62 from by omega) with h1 | h1 | h1 | h1 | h1 | h1 | h1 | h1 | h1 | h1 | h1
  · refine Z_lookup hk dX1_joined_1 (by decide) (by omega) (by omega) (off := 179) (by simp [Op.lookupswitch.offset_cons]; (repeat rw [if_neg (by omega)]); rfl) (tgt := 180) (by decide) ?_
    refine Z_iload1 hk dX1_joined_180 ?_
    refine Z_iload2 hk dX1_joined_181 ?_
    refine Z_Si hk (c_J9_max_7cf53 κ.2.1 δ ad _ hA a b (by (omega)) (by (omega))) os_J9_max_7cf53 ml_X1_86 dX1_joined_182 rfl ⟨by decide, by decide⟩ rfl (Nat.le_of_ble_eq_true rfl) (fun r182 m182 p182 => ?_)
    obtain ⟨rfl, p182⟩ := p182
    exact Z_iret hk hA hQ dX1_joined_185 ⟨rfl, rfl, _, rfl, (by exact ⟨rfl, (by omega)⟩)⟩
  · refine Z_lookup hk dX1_joined_1 (by decide) (by omega) (by omega) (off := 91) (by simp [Op.lookupswitch.offset_cons, h1]) (tgt := 92) (by decide) ?_
    refine Z_iload1 hk dX1_joined_92 ?_
    refine Z_iload2 hk dX1_joined_93 ?_
    refine Z_ior hk dX1_joined_94 (fun v94 e94 a94 b94 => ?_)
    exact Z_iret hk hA hQ dX1_joined_95 ⟨rfl, rfl, _, rfl, (by exact ⟨rfl, (by omega)⟩)⟩
  · refine Z_lookup hk dX1_joined_1 (by decide) (by omega) (by omega) (off := 95) (by simp [Op.lookupswitch.offset_cons, h1]) (tgt := 96) (by decide) ?_
    refine Z_iload1 hk dX1_joined_96 ?_
    refine Z_iload2 hk dX1_joined_97 ?_
    refine Z_iand hk dX1_joined_98 (fun v98 e98 a98 b98 => ?_)
    exact Z_iret hk hA hQ dX1_joined_99 ⟨rfl, rfl, _, rfl, (by exact ⟨rfl, (by omega)⟩)⟩
  · refine Z_lookup hk dX1_joined_1 (by decide) (by omega) (by omega) (off := 173) (by simp [Op.lookupswitch.offset_cons, h1]) (tgt := 174) (by decide) ?_
    refine Z_iload1 hk dX1_joined_174 ?_
    refine Z_iload2 hk dX1_joined_175 ?_
    refine Z_Si hk (c_J9_min_7cf53 κ.2.1 δ ad _ hA a b (by (omega)) (by (omega))) os_J9_min_7cf53 ml_X1_83 dX1_joined_176 rfl ⟨by decide, by decide⟩ rfl (Nat.le_of_ble_eq_true rfl) (fun r176 m176 p176 => ?_)
    obtain ⟨rfl, p176⟩ := p176
    exact Z_iret hk hA hQ dX1_joined_179 ⟨rfl, rfl, _, rfl, (by exact ⟨rfl, (by omega)⟩)⟩
  · refine Z_lookup hk dX1_joined_1 (by decide) (by omega) (by omega) (off := 150) (by simp [Op.lookupswitch.offset_cons, h1]) (tgt := 151) (by decide) ?_
    refine Z_iload1 hk dX1_joined_151 ?_
    refine Z_i2l hk dX1_joined_152 (by omega) (by omega) ?_
    refine Z_iload2 hk dX1_joined_153 ?_
    refine Z_i2l hk dX1_joined_154 (by omega) (by omega) ?_
    refine Z_lmul hk dX1_joined_155 ?_
    refine Z_wJ (fun w155 a155w b155w g155w => ?_)
    refine Z_Si hk (c_X1_bounded κ.2.1 δ ad _ hA w155 (by (omega))) os_X1_bounded ml_X1_73 dX1_joined_156 rfl ⟨by decide, by decide⟩ rfl (Nat.le_of_ble_eq_true rfl) (fun r156 m156 p156 => ?_)
    obtain ⟨rfl, p156⟩ := p156
    exact Z_iret hk hA hQ dX1_joined_159 ⟨rfl, rfl, _, rfl, (by exact ⟨rfl, (by omega)⟩)⟩
  · refine Z_lookup hk dX1_joined_1 (by decide) (by omega) (by omega) (off := 132) (by simp [Op.lookupswitch.offset_cons, h1]) (tgt := 133) (by decide) ?_
    refine Z_iload1 hk dX1_joined_133 ?_
    refine Z_i2l hk dX1_joined_134 (by omega) (by omega) ?_
    refine Z_iload2 hk dX1_joined_135 ?_
    refine Z_i2l hk dX1_joined_136 (by omega) (by omega) ?_
    refine Z_ladd hk dX1_joined_137 ?_
    refine Z_wJ (fun w137 a137w b137w g137w => ?_)
    refine Z_Si hk (c_X1_bounded κ.2.1 δ ad _ hA w137 (by (omega))) os_X1_bounded ml_X1_73 dX1_joined_138 rfl ⟨by decide, by decide⟩ rfl (Nat.le_of_ble_eq_true rfl) (fun r138 m138 p138 => ?_)
    obtain ⟨rfl, p138⟩ := p138
    exact Z_iret hk hA hQ dX1_joined_141 ⟨rfl, rfl, _, rfl, (by exact ⟨rfl, (by omega)⟩)⟩
  · refine Z_lookup hk dX1_joined_1 (by decide) (by omega) (by omega) (off := 141) (by simp [Op.lookupswitch.offset_cons, h1]) (tgt := 142) (by decide) ?_
    refine Z_iload1 hk dX1_joined_142 ?_
    refine Z_i2l hk dX1_joined_143 (by omega) (by omega) ?_
    refine Z_iload2 hk dX1_joined_144 ?_
    refine Z_i2l hk dX1_joined_145 (by omega) (by omega) ?_
    refine Z_lsub hk dX1_joined_146 ?_
    refine Z_wJ (fun w146 a146w b146w g146w => ?_)
    refine Z_Si hk (c_X1_bounded κ.2.1 δ ad _ hA w146 (by (omega))) os_X1_bounded ml_X1_73 dX1_joined_147 rfl ⟨by decide, by decide⟩ rfl (Nat.le_of_ble_eq_true rfl) (fun r147 m147 p147 => ?_)
    obtain ⟨rfl, p147⟩ := p147
    exact Z_iret hk hA hQ dX1_joined_150 ⟨rfl, rfl, _, rfl, (by exact ⟨rfl, (by omega)⟩)⟩
  · refine Z_lookup hk dX1_joined_1 (by decide) (by omega) (by omega) (off := 159) (by simp [Op.lookupswitch.offset_cons, h1]) (tgt := 160) (by decide) ?_
    refine Z_iload2 hk dX1_joined_160 ?_
    refine Z_if_ne hk (tgt := 168) dX1_joined_161 (by decide) (by omega) (by omega) (fun h161 => ?_) (fun h161 => ?_)
    · refine Z_iload1 hk dX1_joined_168 ?_
      refine Z_iload2 hk dX1_joined_169 ?_
      refine Z_Si hk (c_J9_floorDiv_7cf53 κ.2.1 δ ad _ hA a b (by (omega)) (by (omega)) (by (omega))) os_J9_floorDiv_7cf53 ml_X1_77 dX1_joined_170 rfl ⟨by decide, by decide⟩ rfl (Nat.le_of_ble_eq_true rfl) (fun r170 m170 p170 => ?_)
      obtain ⟨rfl, p170⟩ := p170
      exact Z_iret hk hA hQ dX1_joined_173 ⟨rfl, rfl, _, rfl, (by exact ⟨rfl, (by omega)⟩)⟩
    · refine Z_iconst hk dX1_joined_164 ?_
      refine Z_goto hk (tgt := 173) dX1_joined_165 (by decide) ?_
      exact Z_iret hk hA hQ dX1_joined_173 ⟨rfl, rfl, _, rfl, (by exact ⟨rfl, (by omega)⟩)⟩
  · refine Z_lookup hk dX1_joined_1 (by decide) (by omega) (by omega) (off := 99) (by simp [Op.lookupswitch.offset_cons, h1]) (tgt := 100) (by decide) ?_
    refine Z_iload1 hk dX1_joined_100 ?_
    refine Z_iload2 hk dX1_joined_101 ?_
    refine Z_icmp_ge hk (tgt := 109) dX1_joined_102 (by decide) (by omega) (by omega) (by omega) (by omega) (fun h102 => ?_) (fun h102 => ?_)
    · refine Z_iconst hk dX1_joined_109 ?_
      exact Z_iret hk hA hQ dX1_joined_110 ⟨rfl, rfl, _, rfl, (by exact ⟨rfl, (by omega)⟩)⟩
    · refine Z_iconst hk dX1_joined_105 ?_
      refine Z_goto hk (tgt := 110) dX1_joined_106 (by decide) ?_
      exact Z_iret hk hA hQ dX1_joined_110 ⟨rfl, rfl, _, rfl, (by exact ⟨rfl, (by omega)⟩)⟩
  · refine Z_lookup hk dX1_joined_1 (by decide) (by omega) (by omega) (off := 121) (by simp [Op.lookupswitch.offset_cons, h1]) (tgt := 122) (by decide) ?_
    refine Z_iload1 hk dX1_joined_122 ?_
    refine Z_iload2 hk dX1_joined_123 ?_
    refine Z_icmp_ne hk (tgt := 131) dX1_joined_124 (by decide) (by omega) (by omega) (by omega) (by omega) (fun h124 => ?_) (fun h124 => ?_)
    · refine Z_iconst hk dX1_joined_131 ?_
      exact Z_iret hk hA hQ dX1_joined_132 ⟨rfl, rfl, _, rfl, (by exact ⟨rfl, (by omega)⟩)⟩
    · refine Z_iconst hk dX1_joined_127 ?_
      refine Z_goto hk (tgt := 132) dX1_joined_128 (by decide) ?_
      exact Z_iret hk hA hQ dX1_joined_132 ⟨rfl, rfl, _, rfl, (by exact ⟨rfl, (by omega)⟩)⟩
  · refine Z_lookup hk dX1_joined_1 (by decide) (by omega) (by omega) (off := 110) (by simp [Op.lookupswitch.offset_cons, h1]) (tgt := 111) (by decide) ?_
    refine Z_iload1 hk dX1_joined_111 ?_
    refine Z_iload2 hk dX1_joined_112 ?_
    refine Z_icmp_le hk (tgt := 120) dX1_joined_113 (by decide) (by omega) (by omega) (by omega) (by omega) (fun h113 => ?_) (fun h113 => ?_)
    · refine Z_iconst hk dX1_joined_120 ?_
      exact Z_iret hk hA hQ dX1_joined_121 ⟨rfl, rfl, _, rfl, (by exact ⟨rfl, (by omega)⟩)⟩
    · refine Z_iconst hk dX1_joined_116 ?_
      refine Z_goto hk (tgt := 121) dX1_joined_117 (by decide) ?_
      exact Z_iret hk hA hQ dX1_joined_121 ⟨rfl, rfl, _, rfl, (by exact ⟨rfl, (by omega)⟩)⟩
