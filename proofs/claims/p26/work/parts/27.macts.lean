/-- what an act may hold -/
def RC (w t k c o : Int) : Prop := (w = 1 → 0 ≤ k ∧ k ≤ 29) ∧ (w = 2 → 0 ≤ k ∧ k ≤ 29 ∧ 0 ≤ t ∧ t ≤ 9 ∧ 0 ≤ o ∧ o ≤ 5 ∧ 0 ≤ c ∧ c ≤ 100) ∧ (w = 3 → 0 ≤ c ∧ c ≤ 89 ∧ 0 ≤ o ∧ o ≤ 89)
def AC (n : Int) (K T A C O : Nat → Int) : Prop := ∀ k : Nat, 1 ≤ k → (k : Int) ≤ n → RC (K k) (T k) (A k) (C k) (O k)
theorem AC.add {n w t k c o : Int} {K T A C O : Nat → Int} (h : AC n K T A C O) (hn : 0 ≤ n) (r : RC w t k c o) : AC (n + 1) (upr K (n + 1).toNat w) (upr T (n + 1).toNat t) (upr A (n + 1).toNat k) (upr C (n + 1).toNat c) (upr O (n + 1).toNat o) := by
  intro j h1 h2
  by_cases e : j = (n + 1).toNat
  · subst e
    rw [upr_eq, upr_eq, upr_eq, upr_eq, upr_eq]
    exact r
  · rw [upr_ne e, upr_ne e, upr_ne e, upr_ne e, upr_ne e]
    exact h j h1 (by omega)
theorem AC.nil {n : Int} {K T A C O : Nat → Int} (h : n ≤ 0) : AC n K T A C O := fun j h1 h2 => by omega
set_option maxRecDepth 10000 in
theorem c_X9_isTrial (l : Launch) (δ : Dp) (ad : Nat → Nat) (M : Mem) (hA : okA δ ad) (t : Int) (q0 : 0 ≤ (M 48 65) ∧ (M 48 65) ≤ 6 ∧ 0 ≤ (M 48 66) ∧ (M 48 66) ≤ 4 ∧ -1 ≤ (M 48 76) ∧ (M 48 76) ≤ 5 ∧ 0 ≤ (M 48 77) ∧ (M 48 77) ≤ 8 ∧ 0 ≤ (M 48 84) ∧ (M 48 84) ≤ 250 ∧ -1 ≤ (M 48 91) ∧ (M 48 91) ≤ (M 48 84)) (i_t : -2147483648 ≤ t ∧ t ≤ 2147483647) : Mi l δ yX9_isTrial cX9_isTrial 2 (some (.boolean)) 1 25 ad rs [.ref (ad 48), iv t] M (fun r M' => M = M' ∧ (0 ≤ r ∧ r ≤ 1 ∧ (r = 1 ↔ 0 ≤ t ∧ t < (M 48 66)))) := by
  refine Mg.of (rm := rmN 1 25) (by decide) (Nat.le_of_ble_eq_true rfl) fun κ _ hk _ => ?_
  generalize hQ : Qg κ δ 121 (rmN 1 25).cells (rmN 1 25).slots _ = Q
  show Zj κ δ ad rs Q 2 (121, 0, 0) 0 [some (.ref (ad 48)), some (iv t)] [] M
  refine Z_iload1 hk dX9_isTrial_0 ?_
  refine Z_i2l hk dX9_isTrial_1 (by omega) (by omega) ?_
  refine Z_lconst0 hk dX9_isTrial_2 ?_
  refine Z_aload0 hk dX9_isTrial_3 ?_
  refine Z_getI hk fl_9_436 dX9_isTrial_4 ob_48.1 ob_48.2.1 ob_48.2.2.1 ob_48.2.2.2 ft_9_66 (fun v4 e4 a4 b4 => ?_)
  refine Z_iconst hk dX9_isTrial_7 ?_
  refine Z_isub hk dX9_isTrial_8 ?_
  refine Z_i2l hk dX9_isTrial_9 (by omega) (by omega) ?_
  refine Z_Si hk (c_X9_isIn κ.2.1 δ ad _ hA t 0 (v4 - 1) (by (omega)) (by (omega)) (by (omega))) os_X9_isIn ml_X9_285 dX9_isTrial_10 rfl ⟨by decide, by decide⟩ rfl (Nat.le_of_ble_eq_true rfl) (fun r10 m10 p10 => ?_)
  obtain ⟨rfl, p10⟩ := p10
  exact Z_zret hk hA hQ dX9_isTrial_13 (by omega) (by omega) ⟨rfl, rfl, _, rfl, (by exact ⟨rfl, (by omega)⟩)⟩
set_option maxRecDepth 10000 in
theorem c_X9_isTaster (l : Launch) (δ : Dp) (ad : Nat → Nat) (M : Mem) (hA : okA δ ad) (k : Int) (i_k : -2147483648 ≤ k ∧ k ≤ 2147483647) : Mi l δ yX9_isTaster cX9_isTaster 1 (some (.boolean)) 1 25 ad rs [iv k] M (fun r M' => M = M' ∧ (0 ≤ r ∧ r ≤ 1 ∧ (r = 1 ↔ 0 ≤ k ∧ k ≤ 29))) := by
  refine Mg.of (rm := rmN 1 25) (by decide) (Nat.le_of_ble_eq_true rfl) fun κ _ hk _ => ?_
  generalize hQ : Qg κ δ 121 (rmN 1 25).cells (rmN 1 25).slots _ = Q
  show Zj κ δ ad rs Q 1 (121, 0, 0) 0 [some (iv k)] [] M
  refine Z_iload0 hk dX9_isTaster_0 ?_
  refine Z_i2l hk dX9_isTaster_1 (by omega) (by omega) ?_
  refine Z_lconst0 hk dX9_isTaster_2 ?_
  refine Z_ldc2_w hk (n := 29) (mem_g (by decide +kernel)) dX9_isTaster_3 ?_
  refine Z_Si hk (c_X9_isIn κ.2.1 δ ad _ hA k 0 (29) (by (omega)) (by (omega)) (by (omega))) os_X9_isIn ml_X9_285 dX9_isTaster_6 rfl ⟨by decide, by decide⟩ rfl (Nat.le_of_ble_eq_true rfl) (fun r6 m6 p6 => ?_)
  obtain ⟨rfl, p6⟩ := p6
  exact Z_zret hk hA hQ dX9_isTaster_9 (by omega) (by omega) ⟨rfl, rfl, _, rfl, (by exact ⟨rfl, (by omega)⟩)⟩
set_option maxRecDepth 10000 in
theorem c_X9_code (l : Launch) (δ : Dp) (ad : Nat → Nat) (M : Mem) (hA : okA δ ad) (t : Int) (k : Int) (p : Int) (q0 : 0 ≤ (M 48 65) ∧ (M 48 65) ≤ 6 ∧ 0 ≤ (M 48 66) ∧ (M 48 66) ≤ 4 ∧ -1 ≤ (M 48 76) ∧ (M 48 76) ≤ 5 ∧ 0 ≤ (M 48 77) ∧ (M 48 77) ≤ 8 ∧ 0 ≤ (M 48 84) ∧ (M 48 84) ≤ 250 ∧ -1 ≤ (M 48 91) ∧ (M 48 91) ≤ (M 48 84)) (i_t : -2147483648 ≤ t ∧ t ≤ 2147483647) (i_k : -2147483648 ≤ k ∧ k ≤ 2147483647) (i_p : -2147483648 ≤ p ∧ p ≤ 2147483647) : Mi l δ yX9_code cX9_code 4 (some (.int)) 2 46 ad rs [.ref (ad 48), iv t, iv k, iv p] M (fun r M' => M = M' ∧ (True)) := by
  refine Mg.of (rm := rmN 2 46) (by decide) (Nat.le_of_ble_eq_true rfl) fun κ _ hk _ => ?_
  generalize hQ : Qg κ δ 121 (rmN 2 46).cells (rmN 2 46).slots _ = Q
  show Zj κ δ ad rs Q 4 (121, 0, 0) 0 [some (.ref (ad 48)), some (iv t), some (iv k), some (iv p)] [] M
  refine Z_aload0 hk dX9_code_0 ?_
  refine Z_iload1 hk dX9_code_1 ?_
  refine Z_Vi hk (c_X9_isTrial κ.2.1 δ ad _ hA t (by (omega)) (by (omega))) ov_X9_isTrial ml_X9_470 dX9_code_2 rfl ⟨by decide, by decide⟩ ob_48.1 (by decide) (by decide) rfl (Nat.le_of_ble_eq_true rfl) (fun r2 m2 p2 => ?_)
  obtain ⟨rfl, p2⟩ := p2
  refine Z_if_eq hk (tgt := 54) dX9_code_5 (by decide) (by omega) (by omega) (fun h5 => ?_) (fun h5 => ?_)
  · refine Z_iconst hk dX9_code_54 ?_
    exact Z_iret hk hA hQ dX9_code_55 ⟨rfl, rfl, _, rfl, (by exact ⟨rfl, (by trivial)⟩)⟩
  · refine Z_iload2 hk dX9_code_8 ?_
    refine Z_Si hk (c_X9_isTaster κ.2.1 δ ad _ hA k (by (omega))) os_X9_isTaster ml_X9_473 dX9_code_9 rfl ⟨by decide, by decide⟩ rfl (Nat.le_of_ble_eq_true rfl) (fun r9 m9 p9 => ?_)
    obtain ⟨rfl, p9⟩ := p9
    refine Z_if_eq hk (tgt := 54) dX9_code_12 (by decide) (by omega) (by omega) (fun h12 => ?_) (fun h12 => ?_)
    · refine Z_iconst hk dX9_code_54 ?_
      exact Z_iret hk hA hQ dX9_code_55 ⟨rfl, rfl, _, rfl, (by exact ⟨rfl, (by trivial)⟩)⟩
    · refine Z_iload3 hk dX9_code_15 ?_
      refine Z_i2l hk dX9_code_16 (by omega) (by omega) ?_
      refine Z_lconst0 hk dX9_code_17 ?_
      refine Z_aload0 hk dX9_code_18 ?_
      refine Z_iload1 hk dX9_code_19 ?_
      refine Z_Vi hk (c_X9_places κ.2.1 δ ad _ hA t (by (omega))) ov_X9_places ml_X9_454 dX9_code_20 rfl ⟨by decide, by decide⟩ ob_48.1 (by decide) (by decide) rfl (Nat.le_of_ble_eq_true rfl) (fun r20 m20 p20 => ?_)
      obtain ⟨rfl, p20⟩ := p20
      refine Z_iconst hk dX9_code_23 ?_
      refine Z_isub hk dX9_code_24 ?_
      refine Z_i2l hk dX9_code_25 (by omega) (by omega) ?_
      refine Z_Si hk (c_X9_isIn κ.2.1 δ ad _ hA p 0 (r20 - 1) (by (omega)) (by (omega)) (by (omega))) os_X9_isIn ml_X9_285 dX9_code_26 rfl ⟨by decide, by decide⟩ rfl (Nat.le_of_ble_eq_true rfl) (fun r26 m26 p26 => ?_)
      obtain ⟨rfl, p26⟩ := p26
      refine Z_if_eq hk (tgt := 54) dX9_code_29 (by decide) (by omega) (by omega) (fun h29 => ?_) (fun h29 => ?_)
      · refine Z_iconst hk dX9_code_54 ?_
        exact Z_iret hk hA hQ dX9_code_55 ⟨rfl, rfl, _, rfl, (by exact ⟨rfl, (by trivial)⟩)⟩
      · refine Z_aload0 hk dX9_code_32 ?_
        refine Z_getR hk fl_9_182 dX9_code_33 ob_48.1 ob_48.2.1 ob_48.2.2.1 ob_48.2.2.2 ft_9_82 rs_48_82 ?_
        refine Z_bipush hk dX9_code_36 (by decide) ?_
        refine Z_iload1 hk dX9_code_38 ?_
        refine Z_imul hk dX9_code_39 ?_
        refine Z_aload0 hk dX9_code_40 ?_
        refine Z_iload1 hk dX9_code_41 ?_
        refine Z_Vi hk (c_X9_places κ.2.1 δ ad _ hA t (by (omega))) ov_X9_places ml_X9_454 dX9_code_42 rfl ⟨by decide, by decide⟩ ob_48.1 (by decide) (by decide) rfl (Nat.le_of_ble_eq_true rfl) (fun r42 m42 p42 => ?_)
        obtain ⟨rfl, p42⟩ := p42
        have g42 : 0 ≤ r42 * k ∧ r42 * k + r20 ≤ 90 := by
          have e : r20 = r42 := by omega
          rw [e]
          rcases p42.1 with e | e <;> (rw [e]; omega)
        refine Z_iload2 hk dX9_code_45 ?_
        refine Z_imul hk dX9_code_46 ?_
        refine Z_iadd hk dX9_code_47 ?_
        refine Z_iload3 hk dX9_code_48 ?_
        refine Z_iadd hk dX9_code_49 ?_
        refine Z_iald hk dX9_code_50 ar_102.1 ar_102.2.1 ar_102.2.2 (by omega) (by omega) (fun v50 e50 a50 b50 => ?_)
        refine Z_goto hk (tgt := 55) dX9_code_51 (by decide) ?_
        exact Z_iret hk hA hQ dX9_code_55 ⟨rfl, rfl, _, rfl, (by exact ⟨rfl, (by trivial)⟩)⟩
set_option maxRecDepth 10000 in
theorem c_X9_cupOf (l : Launch) (δ : Dp) (ad : Nat → Nat) (M : Mem) (hA : okA δ ad) (t : Int) (c : Int) (q0 : 0 ≤ t ∧ t ≤ 3) (i_c : -2147483648 ≤ c ∧ c ≤ 2147483647) : Mi l δ yX9_cupOf cX9_cupOf 4 (some (.int)) 1 21 ad rs [.ref (ad 48), iv t, iv c] M (fun r M' => M = M' ∧ (-1 ≤ r ∧ r ≤ 89)) := by
  refine Mg.of (rm := rmN 1 21) (by decide) (Nat.le_of_ble_eq_true rfl) fun κ _ hk _ => ?_
  generalize hQ : Qg κ δ 121 (rmN 1 21).cells (rmN 1 21).slots _ = Q
  show Zj κ δ ad rs Q 4 (121, 0, 0) 0 [some (.ref (ad 48)), some (iv t), some (iv c), none] [] M
  refine Z_iconst hk dX9_cupOf_0 ?_
  have J2 : ∀ (n : Nat) (x3_2 : Int), (0 ≤ x3_2 ∧ x3_2 ≤ 90) → (90 - x3_2) < (n : Int) → Zj κ δ ad rs Q 4 (121, 0, 0) 2 [some (.ref (ad 48)), some (iv t), some (iv c), some (iv x3_2)] [] M := by
    intro n
    induction n with
    | zero => intro x3_2 h2 hm2; exfalso; omega
    | succ n ih2 =>
      intro x3_2 h2 hm2
      refine Z_iload3 hk dX9_cupOf_2 ?_
      refine Z_bipush hk dX9_cupOf_3 (by decide) ?_
      refine Z_aload0 hk dX9_cupOf_5 ?_
      refine Z_iload1 hk dX9_cupOf_6 ?_
      refine Z_Vi hk (c_X9_places κ.2.1 δ ad _ hA t (by (omega))) ov_X9_places ml_X9_454 dX9_cupOf_7 rfl ⟨by decide, by decide⟩ ob_48.1 (by decide) (by decide) rfl (Nat.le_of_ble_eq_true rfl) (fun r7 m7 p7 => ?_)
      obtain ⟨rfl, p7⟩ := p7
      refine Z_imul hk dX9_cupOf_10 ?_
      refine Z_icmp_ge hk (tgt := 37) dX9_cupOf_11 (by decide) (by omega) (by omega) (by omega) (by omega) (fun h11 => ?_) (fun h11 => ?_)
      · refine Z_iconst hk dX9_cupOf_37 ?_
        exact Z_iret hk hA hQ dX9_cupOf_38 ⟨rfl, rfl, _, rfl, (by exact ⟨rfl, (by omega)⟩)⟩
      · refine Z_aload0 hk dX9_cupOf_14 ?_
        refine Z_getR hk fl_9_182 dX9_cupOf_15 ob_48.1 ob_48.2.1 ob_48.2.2.1 ob_48.2.2.2 ft_9_82 rs_48_82 ?_
        refine Z_bipush hk dX9_cupOf_18 (by decide) ?_
        refine Z_iload1 hk dX9_cupOf_20 ?_
        refine Z_imul hk dX9_cupOf_21 ?_
        refine Z_iload3 hk dX9_cupOf_22 ?_
        refine Z_iadd hk dX9_cupOf_23 ?_
        refine Z_iald hk dX9_cupOf_24 ar_102.1 ar_102.2.1 ar_102.2.2 (by omega) (by omega) (fun v24 e24 a24 b24 => ?_)
        refine Z_iload2 hk dX9_cupOf_25 ?_
        refine Z_icmp_ne hk (tgt := 31) dX9_cupOf_26 (by decide) (by omega) (by omega) (by omega) (by omega) (fun h26 => ?_) (fun h26 => ?_)
        · refine Z_iinc3 hk rfl (by decide) dX9_cupOf_31 ?_
          refine Z_goto hk (tgt := 2) dX9_cupOf_34 (by decide) ?_
          exact ih2 _ (by omega) (by (omega))
        · refine Z_iload3 hk dX9_cupOf_29 ?_
          exact Z_iret hk hA hQ dX9_cupOf_30 ⟨rfl, rfl, _, rfl, (by exact ⟨rfl, (by omega)⟩)⟩
  refine Z_istore3 hk rfl (by decide) dX9_cupOf_1 ?_
  exact J2 (((90 - 0) : Int).toNat + 1) _ (by omega) (by omega)
set_option maxRecDepth 10000 in
theorem c_X9_act (l : Launch) (δ : Dp) (ad : Nat → Nat) (M : Mem) (hA : okA δ ad) (w : Int) (t : Int) (k : Int) (c : Int) (o : Int) (q0 : 0 ≤ (M 48 84) ∧ (M 48 84) ≤ 249) (q1 : AC (M 48 84) (M 104) (M 105) (M 106) (M 107) (M 108)) (q2 : RC w t k c o) (i_w : -2147483648 ≤ w ∧ w ≤ 2147483647) (i_t : -2147483648 ≤ t ∧ t ≤ 2147483647) (i_k : -2147483648 ≤ k ∧ k ≤ 2147483647) (i_c : -2147483648 ≤ c ∧ c ≤ 2147483647) (i_o : -2147483648 ≤ o ∧ o ≤ 2147483647) : Mi l δ yX9_act cX9_act 6 (some (.int)) 0 0 ad rs [.ref (ad 48), iv w, iv t, iv k, iv c, iv o] M (fun r M' => ((M' 48 84) = (M 48 84) + 1 ∧ r = (M 48 84) + 1) ∧ (∀ c : Nat, c ≠ 104 → c ≠ 105 → c ≠ 106 → c ≠ 107 → c ≠ 108 → c ≠ 109 → c ≠ 48 → M' c = M c) ∧ (∀ i : Nat, i ≠ 84 → M' 48 i = M 48 i) ∧ (AC (M' 48 84) (M' 104) (M' 105) (M' 106) (M' 107) (M' 108))) := by
  refine Mg.of (rm := rmN 0 0) (by decide) (Nat.le_of_ble_eq_true rfl) fun κ _ hk _ => ?_
  generalize hQ : Qg κ δ 121 (rmN 0 0).cells (rmN 0 0).slots _ = Q
  show Zj κ δ ad rs Q 6 (121, 0, 0) 0 [some (.ref (ad 48)), some (iv w), some (iv t), some (iv k), some (iv c), some (iv o)] [] M
  refine Z_aload0 hk dX9_act_0 ?_
  refine Z_dup1 hk rfl dX9_act_1 ?_
  refine Z_getI hk fl_9_445 dX9_act_2 ob_48.1 ob_48.2.1 ob_48.2.2.1 ob_48.2.2.2 ft_9_84 (fun v2 e2 a2 b2 => ?_)
  refine Z_iconst hk dX9_act_5 ?_
  refine Z_iadd hk dX9_act_6 ?_
  refine Z_putI hk hA fl_9_445 dX9_act_7 ob_48.1 ob_48.2.1 ob_48.2.2.1 ob_48.2.2.2 ft_9_84 (by omega) (by omega) ?_
  refine Z_nm (fun m7 em7 => ?_)
  refine Z_aload0 hk dX9_act_10 ?_
  refine Z_getR hk fl_9_188 dX9_act_11 ob_48.1 ob_48.2.1 ob_48.2.2.1 ob_48.2.2.2 ft_9_85 rs_48_85 ?_
  refine Z_aload0 hk dX9_act_14 ?_
  refine Z_getI hk fl_9_445 dX9_act_15 ob_48.1 ob_48.2.1 ob_48.2.2.1 ob_48.2.2.2 ft_9_84 (fun v15 e15 a15 b15 => ?_)
  try simp only [em7, e2, and_true, true_and, or_true, true_or, implies_true, upn, reduceIte, Nat.reduceEqDiff, ne_eq, not_false_eq_true] at e15
  refine Z_iload1 hk dX9_act_18 ?_
  refine Z_iast hk hA dX9_act_19 ar_104.1 ar_104.2.1 ar_104.2.2 (by omega) (by omega) (by omega) (by omega) ?_
  refine Z_nm (fun m19 em19 => ?_)
  refine Z_aload0 hk dX9_act_20 ?_
  refine Z_getR hk fl_9_191 dX9_act_21 ob_48.1 ob_48.2.1 ob_48.2.2.1 ob_48.2.2.2 ft_9_86 rs_48_86 ?_
  refine Z_aload0 hk dX9_act_24 ?_
  refine Z_getI hk fl_9_445 dX9_act_25 ob_48.1 ob_48.2.1 ob_48.2.2.1 ob_48.2.2.2 ft_9_84 (fun v25 e25 a25 b25 => ?_)
  try simp only [em19, em7, e2, e15, and_true, true_and, or_true, true_or, implies_true, upn, reduceIte, Nat.reduceEqDiff, ne_eq, not_false_eq_true] at e25
  refine Z_iload2 hk dX9_act_28 ?_
  refine Z_iast hk hA dX9_act_29 ar_105.1 ar_105.2.1 ar_105.2.2 (by omega) (by omega) (by omega) (by omega) ?_
  refine Z_nm (fun m29 em29 => ?_)
  refine Z_aload0 hk dX9_act_30 ?_
  refine Z_getR hk fl_9_194 dX9_act_31 ob_48.1 ob_48.2.1 ob_48.2.2.1 ob_48.2.2.2 ft_9_87 rs_48_87 ?_
  refine Z_aload0 hk dX9_act_34 ?_
  refine Z_getI hk fl_9_445 dX9_act_35 ob_48.1 ob_48.2.1 ob_48.2.2.1 ob_48.2.2.2 ft_9_84 (fun v35 e35 a35 b35 => ?_)
  try simp only [em29, em19, em7, e2, e15, e25, and_true, true_and, or_true, true_or, implies_true, upn, reduceIte, Nat.reduceEqDiff, ne_eq, not_false_eq_true] at e35
  refine Z_iload3 hk dX9_act_38 ?_
  refine Z_iast hk hA dX9_act_39 ar_106.1 ar_106.2.1 ar_106.2.2 (by omega) (by omega) (by omega) (by omega) ?_
  refine Z_nm (fun m39 em39 => ?_)
  refine Z_aload0 hk dX9_act_40 ?_
  refine Z_getR hk fl_9_197 dX9_act_41 ob_48.1 ob_48.2.1 ob_48.2.2.1 ob_48.2.2.2 ft_9_88 rs_48_88 ?_
  refine Z_aload0 hk dX9_act_44 ?_
  refine Z_getI hk fl_9_445 dX9_act_45 ob_48.1 ob_48.2.1 ob_48.2.2.1 ob_48.2.2.2 ft_9_84 (fun v45 e45 a45 b45 => ?_)
  try simp only [em39, em29, em19, em7, e2, e15, e25, e35, and_true, true_and, or_true, true_or, implies_true, upn, reduceIte, Nat.reduceEqDiff, ne_eq, not_false_eq_true] at e45
  refine Z_iload4 hk dX9_act_48 ?_
  refine Z_iast hk hA dX9_act_50 ar_107.1 ar_107.2.1 ar_107.2.2 (by omega) (by omega) (by omega) (by omega) ?_
  refine Z_nm (fun m50 em50 => ?_)
  refine Z_aload0 hk dX9_act_51 ?_
  refine Z_getR hk fl_9_200 dX9_act_52 ob_48.1 ob_48.2.1 ob_48.2.2.1 ob_48.2.2.2 ft_9_89 rs_48_89 ?_
  refine Z_aload0 hk dX9_act_55 ?_
  refine Z_getI hk fl_9_445 dX9_act_56 ob_48.1 ob_48.2.1 ob_48.2.2.1 ob_48.2.2.2 ft_9_84 (fun v56 e56 a56 b56 => ?_)
  try simp only [em50, em39, em29, em19, em7, e2, e15, e25, e35, e45, and_true, true_and, or_true, true_or, implies_true, upn, reduceIte, Nat.reduceEqDiff, ne_eq, not_false_eq_true] at e56
  refine Z_iload5 hk dX9_act_59 ?_
  refine Z_iast hk hA dX9_act_61 ar_108.1 ar_108.2.1 ar_108.2.2 (by omega) (by omega) (by omega) (by omega) ?_
  refine Z_nm (fun m61 em61 => ?_)
  refine Z_aload0 hk dX9_act_62 ?_
  refine Z_getR hk fl_9_203 dX9_act_63 ob_48.1 ob_48.2.1 ob_48.2.2.1 ob_48.2.2.2 ft_9_90 rs_48_90 ?_
  refine Z_aload0 hk dX9_act_66 ?_
  refine Z_getI hk fl_9_445 dX9_act_67 ob_48.1 ob_48.2.1 ob_48.2.2.1 ob_48.2.2.2 ft_9_84 (fun v67 e67 a67 b67 => ?_)
  try simp only [em61, em50, em39, em29, em19, em7, e2, e15, e25, e35, e45, e56, and_true, true_and, or_true, true_or, implies_true, upn, reduceIte, Nat.reduceEqDiff, ne_eq, not_false_eq_true] at e67
  refine Z_iconst hk dX9_act_70 ?_
  refine Z_iast hk hA dX9_act_71 ar_109.1 ar_109.2.1 ar_109.2.2 (by omega) (by omega) (by decide) (by decide) ?_
  refine Z_nm (fun m71 em71 => ?_)
  refine Z_aload0 hk dX9_act_72 ?_
  refine Z_getI hk fl_9_445 dX9_act_73 ob_48.1 ob_48.2.1 ob_48.2.2.1 ob_48.2.2.2 ft_9_84 (fun v73 e73 a73 b73 => ?_)
  try simp only [em71, em61, em50, em39, em29, em19, em7, e2, e15, e25, e35, e45, e56, e67, and_true, true_and, or_true, true_or, implies_true, upn, reduceIte, Nat.reduceEqDiff, ne_eq, not_false_eq_true] at e73
  exact Z_iret hk hA hQ dX9_act_76 ⟨rfl, rfl, _, rfl, (by exact ⟨(by (try simp only [em71, em61, em50, em39, em29, em19, em7, and_true, true_and, or_true, true_or, implies_true, upn, reduceIte, Nat.reduceEqDiff, ne_eq, not_false_eq_true]) <;> (omega)), (by intro c k0 k1 k2 k3 k4 k5 k6; simp only [em71, em61, em50, em39, em29, em19, em7, upc, upn, k0, k1, k2, k3, k4, k5, k6, reduceIte, Nat.reduceEqDiff, ne_eq, not_false_eq_true]), (by intro i k0; simp only [em71, em61, em50, em39, em29, em19, em7, upc, upn, k0, reduceIte, Nat.reduceEqDiff, ne_eq, not_false_eq_true]), (by simp only [em71, em61, em50, em39, em29, em19, em7, e2, e15, e25, e35, e45, e56, e67, e73, and_true, true_and, or_true, true_or, implies_true, upn, reduceIte, Nat.reduceEqDiff, ne_eq, not_false_eq_true, upc]; exact q1.add (by omega) q2)⟩)⟩
set_option maxRecDepth 10000 in
theorem c_X9_answer (l : Launch) (δ : Dp) (ad : Nat → Nat) (M : Mem) (hA : okA δ ad) (t : Int) (k : Int) (c : Int) (q0 : 0 ≤ (M 48 65) ∧ (M 48 65) ≤ 6 ∧ 0 ≤ (M 48 66) ∧ (M 48 66) ≤ 4 ∧ -1 ≤ (M 48 76) ∧ (M 48 76) ≤ 5 ∧ 0 ≤ (M 48 77) ∧ (M 48 77) ≤ 8 ∧ 0 ≤ (M 48 84) ∧ (M 48 84) ≤ 250 ∧ -1 ≤ (M 48 91) ∧ (M 48 91) ≤ (M 48 84)) (q1 : AC (M 48 84) (M 104) (M 105) (M 106) (M 107) (M 108)) (i_t : -2147483648 ≤ t ∧ t ≤ 2147483647) (i_k : -2147483648 ≤ k ∧ k ≤ 2147483647) (i_c : -2147483648 ≤ c ∧ c ≤ 2147483647) : Mi l δ yX9_answer cX9_answer 5 (some (.int)) 2 46 ad rs [.ref (ad 48), iv t, iv k, iv c] M (fun r M' => ((M 48 84) ≤ (M' 48 84) ∧ (M' 48 84) ≤ 250) ∧ (∀ c : Nat, c ≠ 104 → c ≠ 105 → c ≠ 106 → c ≠ 107 → c ≠ 108 → c ≠ 109 → c ≠ 48 → M' c = M c) ∧ (∀ i : Nat, i ≠ 84 → M' 48 i = M 48 i) ∧ (AC (M' 48 84) (M' 104) (M' 105) (M' 106) (M' 107) (M' 108))) := by
  refine Mg.of (rm := rmN 2 46) (by decide) (Nat.le_of_ble_eq_true rfl) fun κ _ hk _ => ?_
  generalize hQ : Qg κ δ 121 (rmN 2 46).cells (rmN 2 46).slots _ = Q
  show Zj κ δ ad rs Q 5 (121, 0, 0) 0 [some (.ref (ad 48)), some (iv t), some (iv k), some (iv c), none] [] M
  refine Z_aload0 hk dX9_answer_0 ?_
  refine Z_iload1 hk dX9_answer_1 ?_
  refine Z_Vi hk (c_X9_isTrial κ.2.1 δ ad _ hA t (by (omega)) (by (omega))) ov_X9_isTrial ml_X9_470 dX9_answer_2 rfl ⟨by decide, by decide⟩ ob_48.1 (by decide) (by decide) rfl (Nat.le_of_ble_eq_true rfl) (fun r2 m2 p2 => ?_)
  obtain ⟨rfl, p2⟩ := p2
  refine Z_if_eq hk (tgt := 32) dX9_answer_5 (by decide) (by omega) (by omega) (fun h5 => ?_) (fun h5 => ?_)
  · refine Z_iconst hk dX9_answer_32 ?_
    exact Z_iret hk hA hQ dX9_answer_33 ⟨rfl, rfl, _, rfl, (by exact ⟨(by (omega)), (by intro c k0 k1 k2 k3 k4 k5 k6; rfl), (by intro i k0; rfl), (by first | exact q1 | assumption | (simp only [and_true, true_and, or_true, true_or, implies_true, upn, reduceIte, Nat.reduceEqDiff, ne_eq, not_false_eq_true, upc]; exact q1))⟩)⟩
  · refine Z_iload2 hk dX9_answer_8 ?_
    refine Z_Si hk (c_X9_isTaster κ.2.1 δ ad _ hA k (by (omega))) os_X9_isTaster ml_X9_473 dX9_answer_9 rfl ⟨by decide, by decide⟩ rfl (Nat.le_of_ble_eq_true rfl) (fun r9 m9 p9 => ?_)
    obtain ⟨rfl, p9⟩ := p9
    refine Z_if_eq hk (tgt := 32) dX9_answer_12 (by decide) (by omega) (by omega) (fun h12 => ?_) (fun h12 => ?_)
    · refine Z_iconst hk dX9_answer_32 ?_
      exact Z_iret hk hA hQ dX9_answer_33 ⟨rfl, rfl, _, rfl, (by exact ⟨(by (omega)), (by intro c k0 k1 k2 k3 k4 k5 k6; rfl), (by intro i k0; rfl), (by first | exact q1 | assumption | (simp only [and_true, true_and, or_true, true_or, implies_true, upn, reduceIte, Nat.reduceEqDiff, ne_eq, not_false_eq_true, upc]; exact q1))⟩)⟩
    · refine Z_aload0 hk dX9_answer_15 ?_
      refine Z_getZ hk fl_9_448 dX9_answer_16 ob_48.1 ob_48.2.1 ob_48.2.2.1 ob_48.2.2.2 ft_9_92 (fun v16 e16 a16 b16 => ?_)
      refine Z_if_ne hk (tgt := 32) dX9_answer_19 (by decide) (by omega) (by omega) (fun h19 => ?_) (fun h19 => ?_)
      · refine Z_iconst hk dX9_answer_32 ?_
        exact Z_iret hk hA hQ dX9_answer_33 ⟨rfl, rfl, _, rfl, (by exact ⟨(by (omega)), (by intro c k0 k1 k2 k3 k4 k5 k6; rfl), (by intro i k0; rfl), (by first | exact q1 | assumption | (simp only [e16, and_true, true_and, or_true, true_or, implies_true, upn, reduceIte, Nat.reduceEqDiff, ne_eq, not_false_eq_true, upc]; exact q1))⟩)⟩
      · refine Z_aload0 hk dX9_answer_22 ?_
        refine Z_getI hk fl_9_445 dX9_answer_23 ob_48.1 ob_48.2.1 ob_48.2.2.1 ob_48.2.2.2 ft_9_84 (fun v23 e23 a23 b23 => ?_)
        try simp only [e16, and_true, true_and, or_true, true_or, implies_true, upn, reduceIte, Nat.reduceEqDiff, ne_eq, not_false_eq_true] at e23
        refine Z_sipush hk dX9_answer_26 (by decide) ?_
        refine Z_icmp_ne hk (tgt := 34) dX9_answer_29 (by decide) (by omega) (by omega) (by decide) (by decide) (fun h29 => ?_) (fun h29 => ?_)
        · refine Z_iload3 hk dX9_answer_34 ?_
          refine Z_if_ne hk (tgt := 61) dX9_answer_35 (by decide) (by omega) (by omega) (fun h35 => ?_) (fun h35 => ?_)
          · refine Z_aload0 hk dX9_answer_61 ?_
            refine Z_iload1 hk dX9_answer_62 ?_
            refine Z_iload3 hk dX9_answer_63 ?_
            refine Z_Vi hk (c_X9_cupOf κ.2.1 δ ad _ hA t c (by (omega)) (by (omega))) ov_X9_cupOf ml_X9_480 dX9_answer_64 rfl ⟨by decide, by decide⟩ ob_48.1 (by decide) (by decide) rfl (Nat.le_of_ble_eq_true rfl) (fun r64 m64 p64 => ?_)
            obtain ⟨rfl, p64⟩ := p64
            refine Z_istore4 hk rfl (by decide) dX9_answer_67 ?_
            refine Z_iload4 hk dX9_answer_69 ?_
            refine Z_iconst hk dX9_answer_71 ?_
            refine Z_icmp_eq hk (tgt := 100) dX9_answer_72 (by decide) (by omega) (by omega) (by decide) (by decide) (fun h72 => ?_) (fun h72 => ?_)
            · refine Z_iconst hk dX9_answer_100 ?_
              exact Z_iret hk hA hQ dX9_answer_101 ⟨rfl, rfl, _, rfl, (by exact ⟨(by (omega)), (by intro c k0 k1 k2 k3 k4 k5 k6; rfl), (by intro i k0; rfl), (by first | exact q1 | assumption | (simp only [e16, e23, and_true, true_and, or_true, true_or, implies_true, upn, reduceIte, Nat.reduceEqDiff, ne_eq, not_false_eq_true, upc]; exact q1))⟩)⟩
            · refine Z_iload4 hk dX9_answer_75 ?_
              refine Z_aload0 hk dX9_answer_77 ?_
              refine Z_iload1 hk dX9_answer_78 ?_
              refine Z_Vi hk (c_X9_places κ.2.1 δ ad _ hA t (by (omega))) ov_X9_places ml_X9_454 dX9_answer_79 rfl ⟨by decide, by decide⟩ ob_48.1 (by decide) (by decide) rfl (Nat.le_of_ble_eq_true rfl) (fun r79 m79 p79 => ?_)
              obtain ⟨rfl, p79⟩ := p79
              refine Z_idiv hk dX9_answer_82 (by omega) (by omega) (by omega) (by omega) (by omega) ?_
              refine Z_wI (fun w82 a82w b82w g82w => ?_)
              refine Z_iload2 hk dX9_answer_83 ?_
              refine Z_icmp_ne hk (tgt := 100) dX9_answer_84 (by decide) (by omega) (by omega) (by omega) (by omega) (fun h84 => ?_) (fun h84 => ?_)
              · refine Z_iconst hk dX9_answer_100 ?_
                exact Z_iret hk hA hQ dX9_answer_101 ⟨rfl, rfl, _, rfl, (by exact ⟨(by (omega)), (by intro c k0 k1 k2 k3 k4 k5 k6; rfl), (by intro i k0; rfl), (by first | exact q1 | assumption | (simp only [e16, e23, and_true, true_and, or_true, true_or, implies_true, upn, reduceIte, Nat.reduceEqDiff, ne_eq, not_false_eq_true, upc]; exact q1))⟩)⟩
              · refine Z_aload0 hk dX9_answer_87 ?_
                refine Z_iconst hk dX9_answer_88 ?_
                refine Z_iload1 hk dX9_answer_89 ?_
                refine Z_iload2 hk dX9_answer_90 ?_
                refine Z_iload4 hk dX9_answer_91 ?_
                refine Z_iconst hk dX9_answer_93 ?_
                refine Z_Vi hk (c_X9_act κ.2.1 δ ad _ hA 1 t k r64 0 (by (omega)) (by (exact q1)) (by (exact ⟨fun _ => by omega, fun h => by omega, fun h => by omega⟩)) (by (omega)) (by (omega)) (by (omega)) (by (omega)) (by (omega))) ov_X9_act ml_X9_476 dX9_answer_94 rfl ⟨by decide, by decide⟩ ob_48.1 (by decide) (by decide) rfl (Nat.le_of_ble_eq_true rfl) (fun r94 m94 p94 => ?_)
                obtain ⟨p94, f94_0, f94_1, f94_2⟩ := p94
                try simp only [f94_0, f94_1, f94_2, e16, e23, and_true, true_and, or_true, true_or, implies_true, upn, reduceIte, Nat.reduceEqDiff, ne_eq, not_false_eq_true] at p94
                refine Z_goto hk (tgt := 101) dX9_answer_97 (by decide) ?_
                exact Z_iret hk hA hQ dX9_answer_101 ⟨rfl, rfl, _, rfl, (by exact ⟨(by (try simp only [f94_0, f94_1, f94_2, and_true, true_and, or_true, true_or, implies_true, upn, reduceIte, Nat.reduceEqDiff, ne_eq, not_false_eq_true]) <;> (omega)), (by intro c k0 k1 k2 k3 k4 k5 k6; simp only [f94_0, f94_1, f94_2, upc, upn, k0, k1, k2, k3, k4, k5, k6, reduceIte, Nat.reduceEqDiff, ne_eq, not_false_eq_true]), (by intro i k0; simp only [f94_0, f94_1, f94_2, upc, upn, k0, reduceIte, Nat.reduceEqDiff, ne_eq, not_false_eq_true]), (by first | exact q1 | assumption | (simp only [f94_0, f94_1, f94_2, e16, e23, and_true, true_and, or_true, true_or, implies_true, upn, reduceIte, Nat.reduceEqDiff, ne_eq, not_false_eq_true, upc]; exact q1))⟩)⟩
          · refine Z_aload0 hk dX9_answer_38 ?_
            refine Z_getR hk fl_9_152 dX9_answer_39 ob_48.1 ob_48.2.1 ob_48.2.2.1 ob_48.2.2.2 ft_9_67 rs_48_67 ?_
            refine Z_iload1 hk dX9_answer_42 ?_
            refine Z_zald hk dX9_answer_43 ar_94.1 ar_94.2.1 ar_94.2.2 (by omega) (by omega) (fun v43 e43 a43 b43 => ?_)
            try simp only [e16, e23, and_true, true_and, or_true, true_or, implies_true, upn, reduceIte, Nat.reduceEqDiff, ne_eq, not_false_eq_true] at e43
            refine Z_if_eq hk (tgt := 51) dX9_answer_44 (by decide) (by omega) (by omega) (fun h44 => ?_) (fun h44 => ?_)
            · refine Z_aload0 hk dX9_answer_51 ?_
              refine Z_iconst hk dX9_answer_52 ?_
              refine Z_iload1 hk dX9_answer_53 ?_
              refine Z_iload2 hk dX9_answer_54 ?_
              refine Z_iconst hk dX9_answer_55 ?_
              refine Z_iconst hk dX9_answer_56 ?_
              refine Z_Vi hk (c_X9_act κ.2.1 δ ad _ hA 1 t k (-1) 0 (by (omega)) (by (exact q1)) (by (exact ⟨fun _ => by omega, fun h => by omega, fun h => by omega⟩)) (by (omega)) (by (omega)) (by (omega)) (by (omega)) (by (omega))) ov_X9_act ml_X9_476 dX9_answer_57 rfl ⟨by decide, by decide⟩ ob_48.1 (by decide) (by decide) rfl (Nat.le_of_ble_eq_true rfl) (fun r57 m57 p57 => ?_)
              obtain ⟨p57, f57_0, f57_1, f57_2⟩ := p57
              try simp only [f57_0, f57_1, f57_2, e16, e23, e43, and_true, true_and, or_true, true_or, implies_true, upn, reduceIte, Nat.reduceEqDiff, ne_eq, not_false_eq_true] at p57
              exact Z_iret hk hA hQ dX9_answer_60 ⟨rfl, rfl, _, rfl, (by exact ⟨(by (try simp only [f57_0, f57_1, f57_2, and_true, true_and, or_true, true_or, implies_true, upn, reduceIte, Nat.reduceEqDiff, ne_eq, not_false_eq_true]) <;> (omega)), (by intro c k0 k1 k2 k3 k4 k5 k6; simp only [f57_0, f57_1, f57_2, upc, upn, k0, k1, k2, k3, k4, k5, k6, reduceIte, Nat.reduceEqDiff, ne_eq, not_false_eq_true]), (by intro i k0; simp only [f57_0, f57_1, f57_2, upc, upn, k0, reduceIte, Nat.reduceEqDiff, ne_eq, not_false_eq_true]), (by first | exact q1 | assumption | (simp only [f57_0, f57_1, f57_2, e16, e23, e43, and_true, true_and, or_true, true_or, implies_true, upn, reduceIte, Nat.reduceEqDiff, ne_eq, not_false_eq_true, upc]; exact q1))⟩)⟩
            · refine Z_iconst hk dX9_answer_47 ?_
              refine Z_goto hk (tgt := 60) dX9_answer_48 (by decide) ?_
              exact Z_iret hk hA hQ dX9_answer_60 ⟨rfl, rfl, _, rfl, (by exact ⟨(by (omega)), (by intro c k0 k1 k2 k3 k4 k5 k6; rfl), (by intro i k0; rfl), (by first | exact q1 | assumption | (simp only [e16, e23, e43, and_true, true_and, or_true, true_or, implies_true, upn, reduceIte, Nat.reduceEqDiff, ne_eq, not_false_eq_true, upc]; exact q1))⟩)⟩
        · refine Z_iconst hk dX9_answer_32 ?_
          exact Z_iret hk hA hQ dX9_answer_33 ⟨rfl, rfl, _, rfl, (by exact ⟨(by (omega)), (by intro c k0 k1 k2 k3 k4 k5 k6; rfl), (by intro i k0; rfl), (by first | exact q1 | assumption | (simp only [e16, e23, and_true, true_and, or_true, true_or, implies_true, upn, reduceIte, Nat.reduceEqDiff, ne_eq, not_false_eq_true, upc]; exact q1))⟩)⟩
set_option maxRecDepth 10000 in
theorem c_X9_score (l : Launch) (δ : Dp) (ad : Nat → Nat) (M : Mem) (hA : okA δ ad) (k : Int) (s : Int) (p : Int) (v : Int) (q0 : 0 ≤ (M 48 65) ∧ (M 48 65) ≤ 6 ∧ 0 ≤ (M 48 66) ∧ (M 48 66) ≤ 4 ∧ -1 ≤ (M 48 76) ∧ (M 48 76) ≤ 5 ∧ 0 ≤ (M 48 77) ∧ (M 48 77) ≤ 8 ∧ 0 ≤ (M 48 84) ∧ (M 48 84) ≤ 250 ∧ -1 ≤ (M 48 91) ∧ (M 48 91) ≤ (M 48 84)) (q1 : AC (M 48 84) (M 104) (M 105) (M 106) (M 107) (M 108)) (i_k : -2147483648 ≤ k ∧ k ≤ 2147483647) (i_s : -2147483648 ≤ s ∧ s ≤ 2147483647) (i_p : -2147483648 ≤ p ∧ p ≤ 2147483647) (i_v : -2147483648 ≤ v ∧ v ≤ 2147483647) : Mi l δ yX9_score cX9_score 5 (some (.int)) 2 45 ad rs [.ref (ad 48), iv k, iv s, iv p, iv v] M (fun r M' => ((M 48 84) ≤ (M' 48 84) ∧ (M' 48 84) ≤ 250) ∧ (∀ c : Nat, c ≠ 104 → c ≠ 105 → c ≠ 106 → c ≠ 107 → c ≠ 108 → c ≠ 109 → c ≠ 48 → M' c = M c) ∧ (∀ i : Nat, i ≠ 84 → M' 48 i = M 48 i) ∧ (AC (M' 48 84) (M' 104) (M' 105) (M' 106) (M' 107) (M' 108))) := by
  refine Mg.of (rm := rmN 2 45) (by decide) (Nat.le_of_ble_eq_true rfl) fun κ _ hk _ => ?_
  generalize hQ : Qg κ δ 121 (rmN 2 45).cells (rmN 2 45).slots _ = Q
  show Zj κ δ ad rs Q 5 (121, 0, 0) 0 [some (.ref (ad 48)), some (iv k), some (iv s), some (iv p), some (iv v)] [] M
  refine Z_iload1 hk dX9_score_0 ?_
  refine Z_Si hk (c_X9_isTaster κ.2.1 δ ad _ hA k (by (omega))) os_X9_isTaster ml_X9_473 dX9_score_1 rfl ⟨by decide, by decide⟩ rfl (Nat.le_of_ble_eq_true rfl) (fun r1 m1 p1 => ?_)
  obtain ⟨rfl, p1⟩ := p1
  refine Z_if_eq hk (tgt := 65) dX9_score_4 (by decide) (by omega) (by omega) (fun h4 => ?_) (fun h4 => ?_)
  · refine Z_iconst hk dX9_score_65 ?_
    exact Z_iret hk hA hQ dX9_score_66 ⟨rfl, rfl, _, rfl, (by exact ⟨(by (omega)), (by intro c k0 k1 k2 k3 k4 k5 k6; rfl), (by intro i k0; rfl), (by first | exact q1 | assumption | (simp only [and_true, true_and, or_true, true_or, implies_true, upn, reduceIte, Nat.reduceEqDiff, ne_eq, not_false_eq_true, upc]; exact q1))⟩)⟩
  · refine Z_iload2 hk dX9_score_7 ?_
    refine Z_i2l hk dX9_score_8 (by omega) (by omega) ?_
    refine Z_lconst0 hk dX9_score_9 ?_
    refine Z_ldc2_w hk (n := 9) (mem_g (by decide +kernel)) dX9_score_10 ?_
    refine Z_Si hk (c_X9_isIn κ.2.1 δ ad _ hA s 0 (9) (by (omega)) (by (omega)) (by (omega))) os_X9_isIn ml_X9_285 dX9_score_13 rfl ⟨by decide, by decide⟩ rfl (Nat.le_of_ble_eq_true rfl) (fun r13 m13 p13 => ?_)
    obtain ⟨rfl, p13⟩ := p13
    refine Z_if_eq hk (tgt := 65) dX9_score_16 (by decide) (by omega) (by omega) (fun h16 => ?_) (fun h16 => ?_)
    · refine Z_iconst hk dX9_score_65 ?_
      exact Z_iret hk hA hQ dX9_score_66 ⟨rfl, rfl, _, rfl, (by exact ⟨(by (omega)), (by intro c k0 k1 k2 k3 k4 k5 k6; rfl), (by intro i k0; rfl), (by first | exact q1 | assumption | (simp only [and_true, true_and, or_true, true_or, implies_true, upn, reduceIte, Nat.reduceEqDiff, ne_eq, not_false_eq_true, upc]; exact q1))⟩)⟩
    · refine Z_iload3 hk dX9_score_19 ?_
      refine Z_i2l hk dX9_score_20 (by omega) (by omega) ?_
      refine Z_lconst0 hk dX9_score_21 ?_
      refine Z_aload0 hk dX9_score_22 ?_
      refine Z_getI hk fl_9_433 dX9_score_23 ob_48.1 ob_48.2.1 ob_48.2.2.1 ob_48.2.2.2 ft_9_65 (fun v23 e23 a23 b23 => ?_)
      refine Z_iconst hk dX9_score_26 ?_
      refine Z_isub hk dX9_score_27 ?_
      refine Z_i2l hk dX9_score_28 (by omega) (by omega) ?_
      refine Z_Si hk (c_X9_isIn κ.2.1 δ ad _ hA p 0 (v23 - 1) (by (omega)) (by (omega)) (by (omega))) os_X9_isIn ml_X9_285 dX9_score_29 rfl ⟨by decide, by decide⟩ rfl (Nat.le_of_ble_eq_true rfl) (fun r29 m29 p29 => ?_)
      obtain ⟨rfl, p29⟩ := p29
      refine Z_if_eq hk (tgt := 65) dX9_score_32 (by decide) (by omega) (by omega) (fun h32 => ?_) (fun h32 => ?_)
      · refine Z_iconst hk dX9_score_65 ?_
        exact Z_iret hk hA hQ dX9_score_66 ⟨rfl, rfl, _, rfl, (by exact ⟨(by (omega)), (by intro c k0 k1 k2 k3 k4 k5 k6; rfl), (by intro i k0; rfl), (by first | exact q1 | assumption | (simp only [e23, and_true, true_and, or_true, true_or, implies_true, upn, reduceIte, Nat.reduceEqDiff, ne_eq, not_false_eq_true, upc]; exact q1))⟩)⟩
      · refine Z_iload4 hk dX9_score_35 ?_
        refine Z_i2l hk dX9_score_37 (by omega) (by omega) ?_
        refine Z_lconst0 hk dX9_score_38 ?_
        refine Z_ldc2_w hk (n := 100) (mem_g (by decide +kernel)) dX9_score_39 ?_
        refine Z_Si hk (c_X9_isIn κ.2.1 δ ad _ hA v 0 (100) (by (omega)) (by (omega)) (by (omega))) os_X9_isIn ml_X9_285 dX9_score_42 rfl ⟨by decide, by decide⟩ rfl (Nat.le_of_ble_eq_true rfl) (fun r42 m42 p42 => ?_)
        obtain ⟨rfl, p42⟩ := p42
        refine Z_if_eq hk (tgt := 65) dX9_score_45 (by decide) (by omega) (by omega) (fun h45 => ?_) (fun h45 => ?_)
        · refine Z_iconst hk dX9_score_65 ?_
          exact Z_iret hk hA hQ dX9_score_66 ⟨rfl, rfl, _, rfl, (by exact ⟨(by (omega)), (by intro c k0 k1 k2 k3 k4 k5 k6; rfl), (by intro i k0; rfl), (by first | exact q1 | assumption | (simp only [e23, and_true, true_and, or_true, true_or, implies_true, upn, reduceIte, Nat.reduceEqDiff, ne_eq, not_false_eq_true, upc]; exact q1))⟩)⟩
        · refine Z_aload0 hk dX9_score_48 ?_
          refine Z_getZ hk fl_9_448 dX9_score_49 ob_48.1 ob_48.2.1 ob_48.2.2.1 ob_48.2.2.2 ft_9_92 (fun v49 e49 a49 b49 => ?_)
          try simp only [e23, and_true, true_and, or_true, true_or, implies_true, upn, reduceIte, Nat.reduceEqDiff, ne_eq, not_false_eq_true] at e49
          refine Z_if_ne hk (tgt := 65) dX9_score_52 (by decide) (by omega) (by omega) (fun h52 => ?_) (fun h52 => ?_)
          · refine Z_iconst hk dX9_score_65 ?_
            exact Z_iret hk hA hQ dX9_score_66 ⟨rfl, rfl, _, rfl, (by exact ⟨(by (omega)), (by intro c k0 k1 k2 k3 k4 k5 k6; rfl), (by intro i k0; rfl), (by first | exact q1 | assumption | (simp only [e23, e49, and_true, true_and, or_true, true_or, implies_true, upn, reduceIte, Nat.reduceEqDiff, ne_eq, not_false_eq_true, upc]; exact q1))⟩)⟩
          · refine Z_aload0 hk dX9_score_55 ?_
            refine Z_getI hk fl_9_445 dX9_score_56 ob_48.1 ob_48.2.1 ob_48.2.2.1 ob_48.2.2.2 ft_9_84 (fun v56 e56 a56 b56 => ?_)
            try simp only [e23, e49, and_true, true_and, or_true, true_or, implies_true, upn, reduceIte, Nat.reduceEqDiff, ne_eq, not_false_eq_true] at e56
            refine Z_sipush hk dX9_score_59 (by decide) ?_
            refine Z_icmp_ne hk (tgt := 67) dX9_score_62 (by decide) (by omega) (by omega) (by decide) (by decide) (fun h62 => ?_) (fun h62 => ?_)
            · refine Z_aload0 hk dX9_score_67 ?_
              refine Z_iconst hk dX9_score_68 ?_
              refine Z_iload2 hk dX9_score_69 ?_
              refine Z_iload1 hk dX9_score_70 ?_
              refine Z_iload4 hk dX9_score_71 ?_
              refine Z_iload3 hk dX9_score_73 ?_
              refine Z_Vi hk (c_X9_act κ.2.1 δ ad _ hA 2 s k v p (by (omega)) (by (exact q1)) (by (exact ⟨fun h => by omega, fun _ => by omega, fun h => by omega⟩)) (by (omega)) (by (omega)) (by (omega)) (by (omega)) (by (omega))) ov_X9_act ml_X9_476 dX9_score_74 rfl ⟨by decide, by decide⟩ ob_48.1 (by decide) (by decide) rfl (Nat.le_of_ble_eq_true rfl) (fun r74 m74 p74 => ?_)
              obtain ⟨p74, f74_0, f74_1, f74_2⟩ := p74
              try simp only [f74_0, f74_1, f74_2, e23, e49, e56, and_true, true_and, or_true, true_or, implies_true, upn, reduceIte, Nat.reduceEqDiff, ne_eq, not_false_eq_true] at p74
              exact Z_iret hk hA hQ dX9_score_77 ⟨rfl, rfl, _, rfl, (by exact ⟨(by (try simp only [f74_0, f74_1, f74_2, and_true, true_and, or_true, true_or, implies_true, upn, reduceIte, Nat.reduceEqDiff, ne_eq, not_false_eq_true]) <;> (omega)), (by intro c k0 k1 k2 k3 k4 k5 k6; simp only [f74_0, f74_1, f74_2, upc, upn, k0, k1, k2, k3, k4, k5, k6, reduceIte, Nat.reduceEqDiff, ne_eq, not_false_eq_true]), (by intro i k0; simp only [f74_0, f74_1, f74_2, upc, upn, k0, reduceIte, Nat.reduceEqDiff, ne_eq, not_false_eq_true]), (by first | exact q1 | assumption | (simp only [f74_0, f74_1, f74_2, e23, e49, e56, and_true, true_and, or_true, true_or, implies_true, upn, reduceIte, Nat.reduceEqDiff, ne_eq, not_false_eq_true, upc]; exact q1))⟩)⟩
            · refine Z_iconst hk dX9_score_65 ?_
              exact Z_iret hk hA hQ dX9_score_66 ⟨rfl, rfl, _, rfl, (by exact ⟨(by (omega)), (by intro c k0 k1 k2 k3 k4 k5 k6; rfl), (by intro i k0; rfl), (by first | exact q1 | assumption | (simp only [e23, e49, e56, and_true, true_and, or_true, true_or, implies_true, upn, reduceIte, Nat.reduceEqDiff, ne_eq, not_false_eq_true, upc]; exact q1))⟩)⟩
set_option maxRecDepth 10000 in
theorem c_X9_swap (l : Launch) (δ : Dp) (ad : Nat → Nat) (M : Mem) (hA : okA δ ad) (t : Int) (c : Int) (o : Int) (q0 : 0 ≤ (M 48 65) ∧ (M 48 65) ≤ 6 ∧ 0 ≤ (M 48 66) ∧ (M 48 66) ≤ 4 ∧ -1 ≤ (M 48 76) ∧ (M 48 76) ≤ 5 ∧ 0 ≤ (M 48 77) ∧ (M 48 77) ≤ 8 ∧ 0 ≤ (M 48 84) ∧ (M 48 84) ≤ 250 ∧ -1 ≤ (M 48 91) ∧ (M 48 91) ≤ (M 48 84)) (q1 : AC (M 48 84) (M 104) (M 105) (M 106) (M 107) (M 108)) (i_t : -2147483648 ≤ t ∧ t ≤ 2147483647) (i_c : -2147483648 ≤ c ∧ c ≤ 2147483647) (i_o : -2147483648 ≤ o ∧ o ≤ 2147483647) : Mi l δ yX9_swap cX9_swap 6 (some (.int)) 2 46 ad rs [.ref (ad 48), iv t, iv c, iv o] M (fun r M' => ((M 48 84) ≤ (M' 48 84) ∧ (M' 48 84) ≤ 250) ∧ (∀ c : Nat, c ≠ 104 → c ≠ 105 → c ≠ 106 → c ≠ 107 → c ≠ 108 → c ≠ 109 → c ≠ 48 → M' c = M c) ∧ (∀ i : Nat, i ≠ 84 → M' 48 i = M 48 i) ∧ (AC (M' 48 84) (M' 104) (M' 105) (M' 106) (M' 107) (M' 108))) := by
  refine Mg.of (rm := rmN 2 46) (by decide) (Nat.le_of_ble_eq_true rfl) fun κ _ hk _ => ?_
  generalize hQ : Qg κ δ 121 (rmN 2 46).cells (rmN 2 46).slots _ = Q
  show Zj κ δ ad rs Q 6 (121, 0, 0) 0 [some (.ref (ad 48)), some (iv t), some (iv c), some (iv o), none, none] [] M
  refine Z_aload0 hk dX9_swap_0 ?_
  refine Z_iload1 hk dX9_swap_1 ?_
  refine Z_Vi hk (c_X9_isTrial κ.2.1 δ ad _ hA t (by (omega)) (by (omega))) ov_X9_isTrial ml_X9_470 dX9_swap_2 rfl ⟨by decide, by decide⟩ ob_48.1 (by decide) (by decide) rfl (Nat.le_of_ble_eq_true rfl) (fun r2 m2 p2 => ?_)
  obtain ⟨rfl, p2⟩ := p2
  refine Z_if_eq hk (tgt := 23) dX9_swap_5 (by decide) (by omega) (by omega) (fun h5 => ?_) (fun h5 => ?_)
  · refine Z_iconst hk dX9_swap_23 ?_
    exact Z_iret hk hA hQ dX9_swap_24 ⟨rfl, rfl, _, rfl, (by exact ⟨(by (omega)), (by intro c k0 k1 k2 k3 k4 k5 k6; rfl), (by intro i k0; rfl), (by first | exact q1 | assumption | (simp only [and_true, true_and, or_true, true_or, implies_true, upn, reduceIte, Nat.reduceEqDiff, ne_eq, not_false_eq_true, upc]; exact q1))⟩)⟩
  · refine Z_iload2 hk dX9_swap_8 ?_
    refine Z_iload3 hk dX9_swap_9 ?_
    refine Z_icmp_eq hk (tgt := 23) dX9_swap_10 (by decide) (by omega) (by omega) (by omega) (by omega) (fun h10 => ?_) (fun h10 => ?_)
    · refine Z_iconst hk dX9_swap_23 ?_
      exact Z_iret hk hA hQ dX9_swap_24 ⟨rfl, rfl, _, rfl, (by exact ⟨(by (omega)), (by intro c k0 k1 k2 k3 k4 k5 k6; rfl), (by intro i k0; rfl), (by first | exact q1 | assumption | (simp only [and_true, true_and, or_true, true_or, implies_true, upn, reduceIte, Nat.reduceEqDiff, ne_eq, not_false_eq_true, upc]; exact q1))⟩)⟩
    · refine Z_aload0 hk dX9_swap_13 ?_
      refine Z_getI hk fl_9_445 dX9_swap_14 ob_48.1 ob_48.2.1 ob_48.2.2.1 ob_48.2.2.2 ft_9_84 (fun v14 e14 a14 b14 => ?_)
      refine Z_sipush hk dX9_swap_17 (by decide) ?_
      refine Z_icmp_ne hk (tgt := 25) dX9_swap_20 (by decide) (by omega) (by omega) (by decide) (by decide) (fun h20 => ?_) (fun h20 => ?_)
      · refine Z_aload0 hk dX9_swap_25 ?_
        refine Z_iload1 hk dX9_swap_26 ?_
        refine Z_iload2 hk dX9_swap_27 ?_
        refine Z_Vi hk (c_X9_cupOf κ.2.1 δ ad _ hA t c (by (omega)) (by (omega))) ov_X9_cupOf ml_X9_480 dX9_swap_28 rfl ⟨by decide, by decide⟩ ob_48.1 (by decide) (by decide) rfl (Nat.le_of_ble_eq_true rfl) (fun r28 m28 p28 => ?_)
        obtain ⟨rfl, p28⟩ := p28
        refine Z_istore4 hk rfl (by decide) dX9_swap_31 ?_
        refine Z_aload0 hk dX9_swap_33 ?_
        refine Z_iload1 hk dX9_swap_34 ?_
        refine Z_iload3 hk dX9_swap_35 ?_
        refine Z_Vi hk (c_X9_cupOf κ.2.1 δ ad _ hA t o (by (omega)) (by (omega))) ov_X9_cupOf ml_X9_480 dX9_swap_36 rfl ⟨by decide, by decide⟩ ob_48.1 (by decide) (by decide) rfl (Nat.le_of_ble_eq_true rfl) (fun r36 m36 p36 => ?_)
        obtain ⟨rfl, p36⟩ := p36
        refine Z_istore5 hk rfl (by decide) dX9_swap_39 ?_
        refine Z_iload4 hk dX9_swap_41 ?_
        refine Z_iconst hk dX9_swap_43 ?_
        refine Z_icmp_eq hk (tgt := 53) dX9_swap_44 (by decide) (by omega) (by omega) (by decide) (by decide) (fun h44 => ?_) (fun h44 => ?_)
        · refine Z_iconst hk dX9_swap_53 ?_
          refine Z_goto hk (tgt := 68) dX9_swap_54 (by decide) ?_
          exact Z_iret hk hA hQ dX9_swap_68 ⟨rfl, rfl, _, rfl, (by exact ⟨(by (omega)), (by intro c k0 k1 k2 k3 k4 k5 k6; rfl), (by intro i k0; rfl), (by first | exact q1 | assumption | (simp only [e14, and_true, true_and, or_true, true_or, implies_true, upn, reduceIte, Nat.reduceEqDiff, ne_eq, not_false_eq_true, upc]; exact q1))⟩)⟩
        · refine Z_iload5 hk dX9_swap_47 ?_
          refine Z_iconst hk dX9_swap_49 ?_
          refine Z_icmp_ne hk (tgt := 57) dX9_swap_50 (by decide) (by omega) (by omega) (by decide) (by decide) (fun h50 => ?_) (fun h50 => ?_)
          · refine Z_aload0 hk dX9_swap_57 ?_
            refine Z_iconst hk dX9_swap_58 ?_
            refine Z_iload1 hk dX9_swap_59 ?_
            refine Z_iconst hk dX9_swap_60 ?_
            refine Z_iload4 hk dX9_swap_61 ?_
            refine Z_iload5 hk dX9_swap_63 ?_
            refine Z_Vi hk (c_X9_act κ.2.1 δ ad _ hA 3 t 0 r28 r36 (by (omega)) (by (exact q1)) (by (exact ⟨fun h => by omega, fun h => by omega, fun _ => by omega⟩)) (by (omega)) (by (omega)) (by (omega)) (by (omega)) (by (omega))) ov_X9_act ml_X9_476 dX9_swap_65 rfl ⟨by decide, by decide⟩ ob_48.1 (by decide) (by decide) rfl (Nat.le_of_ble_eq_true rfl) (fun r65 m65 p65 => ?_)
            obtain ⟨p65, f65_0, f65_1, f65_2⟩ := p65
            try simp only [f65_0, f65_1, f65_2, e14, and_true, true_and, or_true, true_or, implies_true, upn, reduceIte, Nat.reduceEqDiff, ne_eq, not_false_eq_true] at p65
            exact Z_iret hk hA hQ dX9_swap_68 ⟨rfl, rfl, _, rfl, (by exact ⟨(by (try simp only [f65_0, f65_1, f65_2, and_true, true_and, or_true, true_or, implies_true, upn, reduceIte, Nat.reduceEqDiff, ne_eq, not_false_eq_true]) <;> (omega)), (by intro c k0 k1 k2 k3 k4 k5 k6; simp only [f65_0, f65_1, f65_2, upc, upn, k0, k1, k2, k3, k4, k5, k6, reduceIte, Nat.reduceEqDiff, ne_eq, not_false_eq_true]), (by intro i k0; simp only [f65_0, f65_1, f65_2, upc, upn, k0, reduceIte, Nat.reduceEqDiff, ne_eq, not_false_eq_true]), (by first | exact q1 | assumption | (simp only [f65_0, f65_1, f65_2, e14, and_true, true_and, or_true, true_or, implies_true, upn, reduceIte, Nat.reduceEqDiff, ne_eq, not_false_eq_true, upc]; exact q1))⟩)⟩
          · refine Z_iconst hk dX9_swap_53 ?_
            refine Z_goto hk (tgt := 68) dX9_swap_54 (by decide) ?_
            exact Z_iret hk hA hQ dX9_swap_68 ⟨rfl, rfl, _, rfl, (by exact ⟨(by (omega)), (by intro c k0 k1 k2 k3 k4 k5 k6; rfl), (by intro i k0; rfl), (by first | exact q1 | assumption | (simp only [e14, and_true, true_and, or_true, true_or, implies_true, upn, reduceIte, Nat.reduceEqDiff, ne_eq, not_false_eq_true, upc]; exact q1))⟩)⟩
      · refine Z_iconst hk dX9_swap_23 ?_
        exact Z_iret hk hA hQ dX9_swap_24 ⟨rfl, rfl, _, rfl, (by exact ⟨(by (omega)), (by intro c k0 k1 k2 k3 k4 k5 k6; rfl), (by intro i k0; rfl), (by first | exact q1 | assumption | (simp only [e14, and_true, true_and, or_true, true_or, implies_true, upn, reduceIte, Nat.reduceEqDiff, ne_eq, not_false_eq_true, upc]; exact q1))⟩)⟩
set_option maxRecDepth 10000 in
theorem c_X9_annul (l : Launch) (δ : Dp) (ad : Nat → Nat) (M : Mem) (hA : okA δ ad) (k : Int) (q0 : 0 ≤ (M 48 65) ∧ (M 48 65) ≤ 6 ∧ 0 ≤ (M 48 66) ∧ (M 48 66) ≤ 4 ∧ -1 ≤ (M 48 76) ∧ (M 48 76) ≤ 5 ∧ 0 ≤ (M 48 77) ∧ (M 48 77) ≤ 8 ∧ 0 ≤ (M 48 84) ∧ (M 48 84) ≤ 250 ∧ -1 ≤ (M 48 91) ∧ (M 48 91) ≤ (M 48 84)) (q1 : AC (M 48 84) (M 104) (M 105) (M 106) (M 107) (M 108)) (i_k : -2147483648 ≤ k ∧ k ≤ 2147483647) : Mi l δ yX9_annul cX9_annul 2 (some (.int)) 1 25 ad rs [.ref (ad 48), iv k] M (fun r M' => ((M 48 84) ≤ (M' 48 84) ∧ (M' 48 84) ≤ 250) ∧ (∀ c : Nat, c ≠ 104 → c ≠ 105 → c ≠ 106 → c ≠ 107 → c ≠ 108 → c ≠ 109 → c ≠ 48 → M' c = M c) ∧ (∀ i : Nat, i ≠ 84 → M' 48 i = M 48 i) ∧ (AC (M' 48 84) (M' 104) (M' 105) (M' 106) (M' 107) (M' 108))) := by
  refine Mg.of (rm := rmN 1 25) (by decide) (Nat.le_of_ble_eq_true rfl) fun κ _ hk _ => ?_
  generalize hQ : Qg κ δ 121 (rmN 1 25).cells (rmN 1 25).slots _ = Q
  show Zj κ δ ad rs Q 2 (121, 0, 0) 0 [some (.ref (ad 48)), some (iv k)] [] M
  refine Z_iload1 hk dX9_annul_0 ?_
  refine Z_i2l hk dX9_annul_1 (by omega) (by omega) ?_
  refine Z_lconst1 hk dX9_annul_2 ?_
  refine Z_aload0 hk dX9_annul_3 ?_
  refine Z_getI hk fl_9_445 dX9_annul_4 ob_48.1 ob_48.2.1 ob_48.2.2.1 ob_48.2.2.2 ft_9_84 (fun v4 e4 a4 b4 => ?_)
  refine Z_i2l hk dX9_annul_7 (by omega) (by omega) ?_
  refine Z_Si hk (c_X9_isIn κ.2.1 δ ad _ hA k 1 v4 (by (omega)) (by (omega)) (by (omega))) os_X9_isIn ml_X9_285 dX9_annul_8 rfl ⟨by decide, by decide⟩ rfl (Nat.le_of_ble_eq_true rfl) (fun r8 m8 p8 => ?_)
  obtain ⟨rfl, p8⟩ := p8
  refine Z_if_eq hk (tgt := 43) dX9_annul_11 (by decide) (by omega) (by omega) (fun h11 => ?_) (fun h11 => ?_)
  · refine Z_iconst hk dX9_annul_43 ?_
    exact Z_iret hk hA hQ dX9_annul_44 ⟨rfl, rfl, _, rfl, (by exact ⟨(by (omega)), (by intro c k0 k1 k2 k3 k4 k5 k6; rfl), (by intro i k0; rfl), (by first | exact q1 | assumption | (simp only [e4, and_true, true_and, or_true, true_or, implies_true, upn, reduceIte, Nat.reduceEqDiff, ne_eq, not_false_eq_true, upc]; exact q1))⟩)⟩
  · refine Z_aload0 hk dX9_annul_14 ?_
    refine Z_getR hk fl_9_203 dX9_annul_15 ob_48.1 ob_48.2.1 ob_48.2.2.1 ob_48.2.2.2 ft_9_90 rs_48_90 ?_
    refine Z_iload1 hk dX9_annul_18 ?_
    refine Z_iald hk dX9_annul_19 ar_109.1 ar_109.2.1 ar_109.2.2 (by omega) (by omega) (fun v19 e19 a19 b19 => ?_)
    try simp only [e4, and_true, true_and, or_true, true_or, implies_true, upn, reduceIte, Nat.reduceEqDiff, ne_eq, not_false_eq_true] at e19
    refine Z_if_ne hk (tgt := 43) dX9_annul_20 (by decide) (by omega) (by omega) (fun h20 => ?_) (fun h20 => ?_)
    · refine Z_iconst hk dX9_annul_43 ?_
      exact Z_iret hk hA hQ dX9_annul_44 ⟨rfl, rfl, _, rfl, (by exact ⟨(by (omega)), (by intro c k0 k1 k2 k3 k4 k5 k6; rfl), (by intro i k0; rfl), (by first | exact q1 | assumption | (simp only [e4, e19, and_true, true_and, or_true, true_or, implies_true, upn, reduceIte, Nat.reduceEqDiff, ne_eq, not_false_eq_true, upc]; exact q1))⟩)⟩
    · refine Z_aload0 hk dX9_annul_23 ?_
      refine Z_getR hk fl_9_188 dX9_annul_24 ob_48.1 ob_48.2.1 ob_48.2.2.1 ob_48.2.2.2 ft_9_85 rs_48_85 ?_
      refine Z_iload1 hk dX9_annul_27 ?_
      refine Z_iald hk dX9_annul_28 ar_104.1 ar_104.2.1 ar_104.2.2 (by omega) (by omega) (fun v28 e28 a28 b28 => ?_)
      try simp only [e4, e19, and_true, true_and, or_true, true_or, implies_true, upn, reduceIte, Nat.reduceEqDiff, ne_eq, not_false_eq_true] at e28
      refine Z_iconst hk dX9_annul_29 ?_
      refine Z_icmp_eq hk (tgt := 43) dX9_annul_30 (by decide) (by omega) (by omega) (by decide) (by decide) (fun h30 => ?_) (fun h30 => ?_)
      · refine Z_iconst hk dX9_annul_43 ?_
        exact Z_iret hk hA hQ dX9_annul_44 ⟨rfl, rfl, _, rfl, (by exact ⟨(by (omega)), (by intro c k0 k1 k2 k3 k4 k5 k6; rfl), (by intro i k0; rfl), (by first | exact q1 | assumption | (simp only [e4, e19, e28, and_true, true_and, or_true, true_or, implies_true, upn, reduceIte, Nat.reduceEqDiff, ne_eq, not_false_eq_true, upc]; exact q1))⟩)⟩
      · refine Z_aload0 hk dX9_annul_33 ?_
        refine Z_getI hk fl_9_445 dX9_annul_34 ob_48.1 ob_48.2.1 ob_48.2.2.1 ob_48.2.2.2 ft_9_84 (fun v34 e34 a34 b34 => ?_)
        try simp only [e4, e19, e28, and_true, true_and, or_true, true_or, implies_true, upn, reduceIte, Nat.reduceEqDiff, ne_eq, not_false_eq_true] at e34
        refine Z_sipush hk dX9_annul_37 (by decide) ?_
        refine Z_icmp_ne hk (tgt := 45) dX9_annul_40 (by decide) (by omega) (by omega) (by decide) (by decide) (fun h40 => ?_) (fun h40 => ?_)
        · refine Z_aload0 hk dX9_annul_45 ?_
          refine Z_getR hk fl_9_203 dX9_annul_46 ob_48.1 ob_48.2.1 ob_48.2.2.1 ob_48.2.2.2 ft_9_90 rs_48_90 ?_
          refine Z_iload1 hk dX9_annul_49 ?_
          refine Z_aload0 hk dX9_annul_50 ?_
          refine Z_getI hk fl_9_445 dX9_annul_51 ob_48.1 ob_48.2.1 ob_48.2.2.1 ob_48.2.2.2 ft_9_84 (fun v51 e51 a51 b51 => ?_)
          try simp only [e4, e19, e28, e34, and_true, true_and, or_true, true_or, implies_true, upn, reduceIte, Nat.reduceEqDiff, ne_eq, not_false_eq_true] at e51
          refine Z_iconst hk dX9_annul_54 ?_
          refine Z_iadd hk dX9_annul_55 ?_
          refine Z_iast hk hA dX9_annul_56 ar_109.1 ar_109.2.1 ar_109.2.2 (by omega) (by omega) (by omega) (by omega) ?_
          refine Z_nm (fun m56 em56 => ?_)
          refine Z_aload0 hk dX9_annul_57 ?_
          refine Z_iconst hk dX9_annul_58 ?_
          refine Z_iconst hk dX9_annul_59 ?_
          refine Z_iconst hk dX9_annul_60 ?_
          refine Z_iload1 hk dX9_annul_61 ?_
          refine Z_iconst hk dX9_annul_62 ?_
          refine Z_Vi hk (c_X9_act κ.2.1 δ ad _ hA 4 0 0 k 0 (by (try simp only [em56, and_true, true_and, or_true, true_or, implies_true, upn, reduceIte, Nat.reduceEqDiff, ne_eq, not_false_eq_true]) <;> (omega)) (by (simp only [em56, e4, e19, e28, e34, e51, and_true, true_and, or_true, true_or, implies_true, upn, reduceIte, Nat.reduceEqDiff, ne_eq, not_false_eq_true, upc]; exact q1)) (by (exact ⟨fun h => by omega, fun h => by omega, fun h => by omega⟩)) (by (try simp only [em56, and_true, true_and, or_true, true_or, implies_true, upn, reduceIte, Nat.reduceEqDiff, ne_eq, not_false_eq_true]) <;> (omega)) (by (try simp only [em56, and_true, true_and, or_true, true_or, implies_true, upn, reduceIte, Nat.reduceEqDiff, ne_eq, not_false_eq_true]) <;> (omega)) (by (try simp only [em56, and_true, true_and, or_true, true_or, implies_true, upn, reduceIte, Nat.reduceEqDiff, ne_eq, not_false_eq_true]) <;> (omega)) (by (try simp only [em56, and_true, true_and, or_true, true_or, implies_true, upn, reduceIte, Nat.reduceEqDiff, ne_eq, not_false_eq_true]) <;> (omega)) (by (try simp only [em56, and_true, true_and, or_true, true_or, implies_true, upn, reduceIte, Nat.reduceEqDiff, ne_eq, not_false_eq_true]) <;> (omega))) ov_X9_act ml_X9_476 dX9_annul_63 rfl ⟨by decide, by decide⟩ ob_48.1 (by decide) (by decide) rfl (Nat.le_of_ble_eq_true rfl) (fun r63 m63 p63 => ?_)
          obtain ⟨p63, f63_0, f63_1, f63_2⟩ := p63
          try simp only [f63_0, f63_1, f63_2, em56, e4, e19, e28, e34, e51, and_true, true_and, or_true, true_or, implies_true, upn, reduceIte, Nat.reduceEqDiff, ne_eq, not_false_eq_true] at p63
          exact Z_iret hk hA hQ dX9_annul_66 ⟨rfl, rfl, _, rfl, (by exact ⟨(by (try simp only [f63_0, f63_1, f63_2, em56, and_true, true_and, or_true, true_or, implies_true, upn, reduceIte, Nat.reduceEqDiff, ne_eq, not_false_eq_true]) <;> (omega)), (by intro c k0 k1 k2 k3 k4 k5 k6; simp only [f63_0, f63_1, f63_2, em56, upc, upn, k0, k1, k2, k3, k4, k5, k6, reduceIte, Nat.reduceEqDiff, ne_eq, not_false_eq_true]), (by intro i k0; simp only [f63_0, f63_1, f63_2, em56, upc, upn, k0, reduceIte, Nat.reduceEqDiff, ne_eq, not_false_eq_true]), (by first | exact q1 | assumption | (simp only [f63_0, f63_1, f63_2, em56, e4, e19, e28, e34, e51, and_true, true_and, or_true, true_or, implies_true, upn, reduceIte, Nat.reduceEqDiff, ne_eq, not_false_eq_true, upc]; exact q1))⟩)⟩
        · refine Z_iconst hk dX9_annul_43 ?_
          exact Z_iret hk hA hQ dX9_annul_44 ⟨rfl, rfl, _, rfl, (by exact ⟨(by (omega)), (by intro c k0 k1 k2 k3 k4 k5 k6; rfl), (by intro i k0; rfl), (by first | exact q1 | assumption | (simp only [e4, e19, e28, e34, and_true, true_and, or_true, true_or, implies_true, upn, reduceIte, Nat.reduceEqDiff, ne_eq, not_false_eq_true, upc]; exact q1))⟩)⟩
set_option maxRecDepth 10000 in
theorem c_X9_as (l : Launch) (δ : Dp) (ad : Nat → Nat) (M : Mem) (hA : okA δ ad) (x : Int) (q0 : 0 ≤ (M 48 65) ∧ (M 48 65) ≤ 6 ∧ 0 ≤ (M 48 66) ∧ (M 48 66) ≤ 4 ∧ -1 ≤ (M 48 76) ∧ (M 48 76) ≤ 5 ∧ 0 ≤ (M 48 77) ∧ (M 48 77) ≤ 8 ∧ 0 ≤ (M 48 84) ∧ (M 48 84) ≤ 250 ∧ -1 ≤ (M 48 91) ∧ (M 48 91) ≤ (M 48 84)) (i_x : -2147483648 ≤ x ∧ x ≤ 2147483647) : Mi l δ yX9_as cX9_as 2 (some (.boolean)) 1 25 ad rs [.ref (ad 48), iv x] M (fun r M' => (-1 ≤ (M' 48 91) ∧ (M' 48 91) ≤ (M 48 84) ∧ 0 ≤ r ∧ r ≤ 1) ∧ (∀ c : Nat, c ≠ 48 → M' c = M c) ∧ (∀ i : Nat, i ≠ 91 → M' 48 i = M 48 i)) := by
  refine Mg.of (rm := rmN 1 25) (by decide) (Nat.le_of_ble_eq_true rfl) fun κ _ hk _ => ?_
  generalize hQ : Qg κ δ 121 (rmN 1 25).cells (rmN 1 25).slots _ = Q
  show Zj κ δ ad rs Q 2 (121, 0, 0) 0 [some (.ref (ad 48)), some (iv x)] [] M
  refine Z_iload1 hk dX9_as_0 ?_
  refine Z_i2l hk dX9_as_1 (by omega) (by omega) ?_
  refine Z_ldc2_w hk (n := -1) (mem_g (by decide +kernel)) dX9_as_2 ?_
  refine Z_aload0 hk dX9_as_5 ?_
  refine Z_getI hk fl_9_445 dX9_as_6 ob_48.1 ob_48.2.1 ob_48.2.2.1 ob_48.2.2.2 ft_9_84 (fun v6 e6 a6 b6 => ?_)
  refine Z_i2l hk dX9_as_9 (by omega) (by omega) ?_
  refine Z_Si hk (c_X9_isIn κ.2.1 δ ad _ hA x (-1) v6 (by (omega)) (by (omega)) (by (omega))) os_X9_isIn ml_X9_285 dX9_as_10 rfl ⟨by decide, by decide⟩ rfl (Nat.le_of_ble_eq_true rfl) (fun r10 m10 p10 => ?_)
  obtain ⟨rfl, p10⟩ := p10
  refine Z_if_ne hk (tgt := 18) dX9_as_13 (by decide) (by omega) (by omega) (fun h13 => ?_) (fun h13 => ?_)
  · refine Z_aload0 hk dX9_as_18 ?_
    refine Z_iload1 hk dX9_as_19 ?_
    refine Z_putI hk hA fl_9_206 dX9_as_20 ob_48.1 ob_48.2.1 ob_48.2.2.1 ob_48.2.2.2 ft_9_91 (by omega) (by omega) ?_
    refine Z_nm (fun m20 em20 => ?_)
    refine Z_iconst hk dX9_as_23 ?_
    exact Z_zret hk hA hQ dX9_as_24 (by decide) (by decide) ⟨rfl, rfl, _, rfl, (by exact ⟨(by (try simp only [em20, and_true, true_and, or_true, true_or, implies_true, upn, reduceIte, Nat.reduceEqDiff, ne_eq, not_false_eq_true]) <;> (omega)), (by intro c k0; simp only [em20, upc, upn, k0, reduceIte, Nat.reduceEqDiff, ne_eq, not_false_eq_true]), (by intro i k0; simp only [em20, upc, upn, k0, reduceIte, Nat.reduceEqDiff, ne_eq, not_false_eq_true])⟩)⟩
  · refine Z_iconst hk dX9_as_16 ?_
    exact Z_zret hk hA hQ dX9_as_17 (by decide) (by decide) ⟨rfl, rfl, _, rfl, (by exact ⟨(by (omega)), (by intro c k0; rfl), (by intro i k0; rfl)⟩)⟩
set_option maxRecDepth 10000 in
theorem c_X9_open (l : Launch) (δ : Dp) (ad : Nat → Nat) (M : Mem) (hA : okA δ ad) : Mi l δ yX9_open cX9_open 1 (some (.boolean)) 0 0 ad rs [.ref (ad 48)] M (fun r M' => (0 ≤ r ∧ r ≤ 1) ∧ (∀ c : Nat, c ≠ 48 → M' c = M c) ∧ (∀ i : Nat, i ≠ 92 → M' 48 i = M 48 i)) := by
  refine Mg.of (rm := rmN 0 0) (by decide) (Nat.le_of_ble_eq_true rfl) fun κ _ hk _ => ?_
  generalize hQ : Qg κ δ 121 (rmN 0 0).cells (rmN 0 0).slots _ = Q
  show Zj κ δ ad rs Q 1 (121, 0, 0) 0 [some (.ref (ad 48))] [] M
  refine Z_aload0 hk dX9_open_0 ?_
  refine Z_getZ hk fl_9_448 dX9_open_1 ob_48.1 ob_48.2.1 ob_48.2.2.1 ob_48.2.2.2 ft_9_92 (fun v1 e1 a1 b1 => ?_)
  refine Z_if_ne hk (tgt := 14) dX9_open_4 (by decide) (by omega) (by omega) (fun h4 => ?_) (fun h4 => ?_)
  · refine Z_iconst hk dX9_open_14 ?_
    exact Z_zret hk hA hQ dX9_open_15 (by decide) (by decide) ⟨rfl, rfl, _, rfl, (by exact ⟨(by (omega)), (by intro c k0; rfl), (by intro i k0; rfl)⟩)⟩
  · refine Z_aload0 hk dX9_open_7 ?_
    refine Z_getZ hk fl_9_430 dX9_open_8 ob_48.1 ob_48.2.1 ob_48.2.2.1 ob_48.2.2.2 ft_9_64 (fun v8 e8 a8 b8 => ?_)
    try simp only [e1, and_true, true_and, or_true, true_or, implies_true, upn, reduceIte, Nat.reduceEqDiff, ne_eq, not_false_eq_true] at e8
    refine Z_if_ne hk (tgt := 16) dX9_open_11 (by decide) (by omega) (by omega) (fun h11 => ?_) (fun h11 => ?_)
    · refine Z_aload0 hk dX9_open_16 ?_
      refine Z_iconst hk dX9_open_17 ?_
      refine Z_putZ hk hA fl_9_448 dX9_open_18 ob_48.1 ob_48.2.1 ob_48.2.2.1 ob_48.2.2.2 ft_9_92 (by decide) (by decide) ?_
      refine Z_nm (fun m18 em18 => ?_)
      refine Z_iconst hk dX9_open_21 ?_
      exact Z_zret hk hA hQ dX9_open_22 (by decide) (by decide) ⟨rfl, rfl, _, rfl, (by exact ⟨(by (try simp only [em18, and_true, true_and, or_true, true_or, implies_true, upn, reduceIte, Nat.reduceEqDiff, ne_eq, not_false_eq_true]) <;> (omega)), (by intro c k0; simp only [em18, upc, upn, k0, reduceIte, Nat.reduceEqDiff, ne_eq, not_false_eq_true]), (by intro i k0; simp only [em18, upc, upn, k0, reduceIte, Nat.reduceEqDiff, ne_eq, not_false_eq_true])⟩)⟩
    · refine Z_iconst hk dX9_open_14 ?_
      exact Z_zret hk hA hQ dX9_open_15 (by decide) (by decide) ⟨rfl, rfl, _, rfl, (by exact ⟨(by (omega)), (by intro c k0; rfl), (by intro i k0; rfl)⟩)⟩
set_option maxRecDepth 10000 in
theorem c_X9_now (l : Launch) (δ : Dp) (ad : Nat → Nat) (M : Mem) (hA : okA δ ad) : Mi l δ yX9_now cX9_now 1 (some (.int)) 0 0 ad rs [.ref (ad 48)] M (fun r M' => M = M' ∧ (-2147483648 ≤ r ∧ r ≤ 2147483647)) := by
  refine Mg.of (rm := rmN 0 0) (by decide) (Nat.le_of_ble_eq_true rfl) fun κ _ hk _ => ?_
  generalize hQ : Qg κ δ 121 (rmN 0 0).cells (rmN 0 0).slots _ = Q
  show Zj κ δ ad rs Q 1 (121, 0, 0) 0 [some (.ref (ad 48))] [] M
  refine Z_aload0 hk dX9_now_0 ?_
  refine Z_getI hk fl_9_206 dX9_now_1 ob_48.1 ob_48.2.1 ob_48.2.2.1 ob_48.2.2.2 ft_9_91 (fun v1 e1 a1 b1 => ?_)
  refine Z_iconst hk dX9_now_4 ?_
  refine Z_icmp_ne hk (tgt := 15) dX9_now_5 (by decide) (by omega) (by omega) (by decide) (by decide) (fun h5 => ?_) (fun h5 => ?_)
  · refine Z_aload0 hk dX9_now_15 ?_
    refine Z_getI hk fl_9_206 dX9_now_16 ob_48.1 ob_48.2.1 ob_48.2.2.1 ob_48.2.2.2 ft_9_91 (fun v16 e16 a16 b16 => ?_)
    try simp only [e1, and_true, true_and, or_true, true_or, implies_true, upn, reduceIte, Nat.reduceEqDiff, ne_eq, not_false_eq_true] at e16
    exact Z_iret hk hA hQ dX9_now_19 ⟨rfl, rfl, _, rfl, (by exact ⟨rfl, (by omega)⟩)⟩
  · refine Z_aload0 hk dX9_now_8 ?_
    refine Z_getI hk fl_9_445 dX9_now_9 ob_48.1 ob_48.2.1 ob_48.2.2.1 ob_48.2.2.2 ft_9_84 (fun v9 e9 a9 b9 => ?_)
    try simp only [e1, and_true, true_and, or_true, true_or, implies_true, upn, reduceIte, Nat.reduceEqDiff, ne_eq, not_false_eq_true] at e9
    refine Z_goto hk (tgt := 19) dX9_now_12 (by decide) ?_
    exact Z_iret hk hA hQ dX9_now_19 ⟨rfl, rfl, _, rfl, (by exact ⟨rfl, (by omega)⟩)⟩
set_option maxRecDepth 10000 in
theorem c_X9_isKnown (l : Launch) (δ : Dp) (ad : Nat → Nat) (M : Mem) (hA : okA δ ad) (k : Int) (q0 : 0 ≤ k ∧ k ≤ 250) : Mi l δ yX9_isKnown cX9_isKnown 2 (some (.boolean)) 1 20 ad rs [.ref (ad 48), iv k] M (fun r M' => M = M' ∧ (0 ≤ r ∧ r ≤ 1)) := by
  refine Mg.of (rm := rmN 1 20) (by decide) (Nat.le_of_ble_eq_true rfl) fun κ _ hk _ => ?_
  generalize hQ : Qg κ δ 121 (rmN 1 20).cells (rmN 1 20).slots _ = Q
  show Zj κ δ ad rs Q 2 (121, 0, 0) 0 [some (.ref (ad 48)), some (iv k)] [] M
  refine Z_iload1 hk dX9_isKnown_0 ?_
  refine Z_aload0 hk dX9_isKnown_1 ?_
  refine Z_Vi hk (c_X9_now κ.2.1 δ ad _ hA  ) ov_X9_now ml_X9_489 dX9_isKnown_2 rfl ⟨by decide, by decide⟩ ob_48.1 (by decide) (by decide) rfl (Nat.le_of_ble_eq_true rfl) (fun r2 m2 p2 => ?_)
  obtain ⟨rfl, p2⟩ := p2
  refine Z_icmp_gt hk (tgt := 34) dX9_isKnown_5 (by decide) (by omega) (by omega) (by omega) (by omega) (fun h5 => ?_) (fun h5 => ?_)
  · refine Z_iconst hk dX9_isKnown_34 ?_
    exact Z_zret hk hA hQ dX9_isKnown_35 (by decide) (by decide) ⟨rfl, rfl, _, rfl, (by exact ⟨rfl, (by omega)⟩)⟩
  · refine Z_aload0 hk dX9_isKnown_8 ?_
    refine Z_getR hk fl_9_203 dX9_isKnown_9 ob_48.1 ob_48.2.1 ob_48.2.2.1 ob_48.2.2.2 ft_9_90 rs_48_90 ?_
    refine Z_iload1 hk dX9_isKnown_12 ?_
    refine Z_iald hk dX9_isKnown_13 ar_109.1 ar_109.2.1 ar_109.2.2 (by omega) (by omega) (fun v13 e13 a13 b13 => ?_)
    refine Z_if_eq hk (tgt := 30) dX9_isKnown_14 (by decide) (by omega) (by omega) (fun h14 => ?_) (fun h14 => ?_)
    · refine Z_iconst hk dX9_isKnown_30 ?_
      refine Z_goto hk (tgt := 35) dX9_isKnown_31 (by decide) ?_
      exact Z_zret hk hA hQ dX9_isKnown_35 (by decide) (by decide) ⟨rfl, rfl, _, rfl, (by exact ⟨rfl, (by omega)⟩)⟩
    · refine Z_aload0 hk dX9_isKnown_17 ?_
      refine Z_getR hk fl_9_203 dX9_isKnown_18 ob_48.1 ob_48.2.1 ob_48.2.2.1 ob_48.2.2.2 ft_9_90 rs_48_90 ?_
      refine Z_iload1 hk dX9_isKnown_21 ?_
      refine Z_iald hk dX9_isKnown_22 ar_109.1 ar_109.2.1 ar_109.2.2 (by omega) (by omega) (fun v22 e22 a22 b22 => ?_)
      try simp only [e13, and_true, true_and, or_true, true_or, implies_true, upn, reduceIte, Nat.reduceEqDiff, ne_eq, not_false_eq_true] at e22
      refine Z_aload0 hk dX9_isKnown_23 ?_
      refine Z_Vi hk (c_X9_now κ.2.1 δ ad _ hA  ) ov_X9_now ml_X9_489 dX9_isKnown_24 rfl ⟨by decide, by decide⟩ ob_48.1 (by decide) (by decide) rfl (Nat.le_of_ble_eq_true rfl) (fun r24 m24 p24 => ?_)
      obtain ⟨rfl, p24⟩ := p24
      refine Z_icmp_le hk (tgt := 34) dX9_isKnown_27 (by decide) (by omega) (by omega) (by omega) (by omega) (fun h27 => ?_) (fun h27 => ?_)
      · refine Z_iconst hk dX9_isKnown_34 ?_
        exact Z_zret hk hA hQ dX9_isKnown_35 (by decide) (by decide) ⟨rfl, rfl, _, rfl, (by exact ⟨rfl, (by omega)⟩)⟩
      · refine Z_iconst hk dX9_isKnown_30 ?_
        refine Z_goto hk (tgt := 35) dX9_isKnown_31 (by decide) ?_
        exact Z_zret hk hA hQ dX9_isKnown_35 (by decide) (by decide) ⟨rfl, rfl, _, rfl, (by exact ⟨rfl, (by omega)⟩)⟩
set_option maxRecDepth 10000 in
theorem c_X9_orderOf (l : Launch) (δ : Dp) (ad : Nat → Nat) (M : Mem) (hA : okA δ ad) (z : Int) (k : Int) (p : Int) (q0 : 0 ≤ k ∧ k ≤ 1000 ∧ 0 ≤ p ∧ p ≤ 1000) (i_z : -2147483648 ≤ z ∧ z ≤ 2147483647) : Mi l δ yX9_orderOf cX9_orderOf 6 (some (.int)) 0 0 ad rs [iv z, iv k, iv p] M (fun r M' => M = M' ∧ (-2147483648 ≤ r ∧ r ≤ 2147483647)) := by
  refine Mg.of (rm := rmN 0 0) (by decide) (Nat.le_of_ble_eq_true rfl) fun κ _ hk _ => ?_
  generalize hQ : Qg κ δ 121 (rmN 0 0).cells (rmN 0 0).slots _ = Q
  show Zj κ δ ad rs Q 6 (121, 0, 0) 0 [some (iv z), some (iv k), some (iv p), none, none, none] [] M
  refine Z_iload0 hk dX9_orderOf_0 ?_
  refine Z_if_ne hk (tgt := 12) dX9_orderOf_1 (by decide) (by omega) (by omega) (fun h1 => ?_) (fun h1 => ?_)
  · refine Z_iload1 hk dX9_orderOf_12 ?_
    refine Z_bipush hk dX9_orderOf_13 (by decide) ?_
    refine Z_irem hk dX9_orderOf_15 (by omega) (by omega) (by decide) (by decide) (by decide) ?_
    refine Z_wI (fun w15 a15w b15w g15w => ?_)
    refine Z_istore3 hk rfl (by decide) dX9_orderOf_16 ?_
    refine Z_iload3 hk dX9_orderOf_17 ?_
    have J62 : ∀ (y0_62 : Int), (0 ≤ y0_62 ∧ y0_62 ≤ 2) → Zj κ δ ad rs Q 6 (121, 0, 0) 62 [some (iv z), some (iv k), some (iv p), some (iv w15), none, none] [iv y0_62] M := by
      intro y0_62 h62
      refine Z_istore4 hk rfl (by decide) dX9_orderOf_62 ?_
      refine Z_iload3 hk dX9_orderOf_64 ?_
      refine Z_iconst hk dX9_orderOf_65 ?_
      have J74 : ∀ (y0_74 : Int), (1 ≤ y0_74 ∧ y0_74 ≤ 2) → Zj κ δ ad rs Q 6 (121, 0, 0) 74 [some (iv z), some (iv k), some (iv p), some (iv w15), some (iv y0_62), none] [iv y0_74] M := by
        intro y0_74 h74
        refine Z_istore5 hk rfl (by decide) dX9_orderOf_74 ?_
        refine Z_iload2 hk dX9_orderOf_76 ?_
        refine Z_iload4 hk dX9_orderOf_77 ?_
        refine Z_icmp_ne hk (tgt := 87) dX9_orderOf_79 (by decide) (by omega) (by omega) (by omega) (by omega) (fun h79 => ?_) (fun h79 => ?_)
        · refine Z_iconst hk dX9_orderOf_87 ?_
          refine Z_iload5 hk dX9_orderOf_88 ?_
          refine Z_isub hk dX9_orderOf_90 ?_
          exact Z_iret hk hA hQ dX9_orderOf_91 ⟨rfl, rfl, _, rfl, (by exact ⟨rfl, (by omega)⟩)⟩
        · refine Z_iload5 hk dX9_orderOf_82 ?_
          refine Z_goto hk (tgt := 91) dX9_orderOf_84 (by decide) ?_
          exact Z_iret hk hA hQ dX9_orderOf_91 ⟨rfl, rfl, _, rfl, (by exact ⟨rfl, (by omega)⟩)⟩
      refine Z_icmp_ge hk (tgt := 73) dX9_orderOf_66 (by decide) (by omega) (by omega) (by decide) (by decide) (fun h66 => ?_) (fun h66 => ?_)
      · refine Z_iconst hk dX9_orderOf_73 ?_
        exact J74 _ (by omega)
      · refine Z_iconst hk dX9_orderOf_69 ?_
        refine Z_goto hk (tgt := 74) dX9_orderOf_70 (by decide) ?_
        exact J74 _ (by omega)
    have J26 : ∀ (_ : Unit), (True) → Zj κ δ ad rs Q 6 (121, 0, 0) 26 [some (iv z), some (iv k), some (iv p), some (iv w15), none, none] [] M := by
      intro _ h26
      refine Z_iload3 hk dX9_orderOf_26 ?_
      refine Z_if_ne hk (tgt := 34) dX9_orderOf_27 (by decide) (by omega) (by omega) (fun h27 => ?_) (fun h27 => ?_)
      · refine Z_iconst hk dX9_orderOf_34 ?_
        refine Z_goto hk (tgt := 62) dX9_orderOf_35 (by decide) ?_
        exact J62 _ (by omega)
      · refine Z_iconst hk dX9_orderOf_30 ?_
        refine Z_goto hk (tgt := 62) dX9_orderOf_31 (by decide) ?_
        exact J62 _ (by omega)
    refine Z_if_eq hk (tgt := 26) dX9_orderOf_18 (by decide) (by omega) (by omega) (fun h18 => ?_) (fun h18 => ?_)
    · exact J26 () (by trivial)
    · refine Z_iload3 hk dX9_orderOf_21 ?_
      refine Z_iconst hk dX9_orderOf_22 ?_
      refine Z_icmp_ne hk (tgt := 38) dX9_orderOf_23 (by decide) (by omega) (by omega) (by decide) (by decide) (fun h23 => ?_) (fun h23 => ?_)
      · refine Z_iload3 hk dX9_orderOf_38 ?_
        refine Z_iconst hk dX9_orderOf_39 ?_
        have J48 : ∀ (_ : Unit), (True) → Zj κ δ ad rs Q 6 (121, 0, 0) 48 [some (iv z), some (iv k), some (iv p), some (iv w15), none, none] [] M := by
          intro _ h48
          refine Z_iconst hk dX9_orderOf_48 ?_
          refine Z_goto hk (tgt := 62) dX9_orderOf_49 (by decide) ?_
          exact J62 _ (by omega)
        refine Z_icmp_eq hk (tgt := 48) dX9_orderOf_40 (by decide) (by omega) (by omega) (by decide) (by decide) (fun h40 => ?_) (fun h40 => ?_)
        · exact J48 () (by trivial)
        · refine Z_iload3 hk dX9_orderOf_43 ?_
          refine Z_iconst hk dX9_orderOf_44 ?_
          refine Z_icmp_ne hk (tgt := 52) dX9_orderOf_45 (by decide) (by omega) (by omega) (by decide) (by decide) (fun h45 => ?_) (fun h45 => ?_)
          · refine Z_iload3 hk dX9_orderOf_52 ?_
            refine Z_iconst hk dX9_orderOf_53 ?_
            refine Z_icmp_ne hk (tgt := 61) dX9_orderOf_54 (by decide) (by omega) (by omega) (by decide) (by decide) (fun h54 => ?_) (fun h54 => ?_)
            · refine Z_iconst hk dX9_orderOf_61 ?_
              exact J62 _ (by omega)
            · refine Z_iconst hk dX9_orderOf_57 ?_
              refine Z_goto hk (tgt := 62) dX9_orderOf_58 (by decide) ?_
              exact J62 _ (by omega)
          · exact J48 () (by trivial)
      · exact J26 () (by trivial)
  · refine Z_iload1 hk dX9_orderOf_4 ?_
    refine Z_iload2 hk dX9_orderOf_5 ?_
    refine Z_iadd hk dX9_orderOf_6 ?_
    refine Z_iconst hk dX9_orderOf_7 ?_
    refine Z_irem hk dX9_orderOf_8 (by omega) (by omega) (by decide) (by decide) (by decide) ?_
    refine Z_wI (fun w8 a8w b8w g8w => ?_)
    refine Z_iconst hk dX9_orderOf_9 ?_
    refine Z_iadd hk dX9_orderOf_10 ?_
    refine Z_wI (fun w10 a10w b10w g10w => ?_)
    exact Z_iret hk hA hQ dX9_orderOf_11 ⟨rfl, rfl, _, rfl, (by exact ⟨rfl, (by omega)⟩)⟩
set_option maxRecDepth 10000 in
theorem c_X9_fills (l : Launch) (δ : Dp) (ad : Nat → Nat) (M : Mem) (hA : okA δ ad) (t : Int) (q0 : 0 ≤ t ∧ t ≤ 3) (q1 : 0 ≤ (M 48 84) ∧ (M 48 84) ≤ 250) (q2 : AC (M 48 84) (M 104) (M 105) (M 106) (M 107) (M 108)) : Mv l δ yX9_fills cX9_fills 4 none 2 41 ad rs [.ref (ad 48), iv t] M (fun M' => (True) ∧ (∀ c : Nat, c ≠ 110 → M' c = M c)) := by
  refine Mg.of (rm := rmN 2 41) (by decide) (Nat.le_of_ble_eq_true rfl) fun κ _ hk _ => ?_
  generalize hQ : Qg κ δ 121 (rmN 2 41).cells (rmN 2 41).slots _ = Q
  show Zj κ δ ad rs Q 4 (121, 0, 0) 0 [some (.ref (ad 48)), some (iv t), none, none] [] M
  refine Z_iconst hk dX9_fills_0 ?_
  have J2 : ∀ (n : Nat) (x2_2 : Int) (m2 : Mem), ((0 ≤ x2_2 ∧ x2_2 ≤ 90) ∧ (∀ c : Nat, c ≠ 110 → m2 c = M c)) → (90 - x2_2) < (n : Int) → Zj κ δ ad rs Q 4 (121, 0, 0) 2 [some (.ref (ad 48)), some (iv t), some (iv x2_2), none] [] m2 := by
    intro n
    induction n with
    | zero => intro x2_2 m2 h2 hm2; exfalso; obtain ⟨h2, -⟩ := h2; omega
    | succ n ih2 =>
      intro x2_2 m2 h2 hm2
      obtain ⟨h2, f2_0⟩ := h2
      try simp only [f2_0, and_true, true_and, or_true, true_or, implies_true, upn, reduceIte, Nat.reduceEqDiff, ne_eq, not_false_eq_true] at h2 hm2
      refine Z_iload2 hk dX9_fills_2 ?_
      refine Z_bipush hk dX9_fills_3 (by decide) ?_
      refine Z_aload0 hk dX9_fills_5 ?_
      refine Z_iload1 hk dX9_fills_6 ?_
      refine Z_Vi hk (c_X9_places κ.2.1 δ ad _ hA t (by (try simp only [f2_0, and_true, true_and, or_true, true_or, implies_true, upn, reduceIte, Nat.reduceEqDiff, ne_eq, not_false_eq_true]) <;> (omega))) ov_X9_places ml_X9_454 dX9_fills_7 rfl ⟨by decide, by decide⟩ ob_48.1 (by decide) (by decide) rfl (Nat.le_of_ble_eq_true rfl) (fun r7 m7 p7 => ?_)
      obtain ⟨rfl, p7⟩ := p7
      try simp only [f2_0, and_true, true_and, or_true, true_or, implies_true, upn, reduceIte, Nat.reduceEqDiff, ne_eq, not_false_eq_true] at p7
      refine Z_imul hk dX9_fills_10 ?_
      refine Z_icmp_ge hk (tgt := 49) dX9_fills_11 (by decide) (by omega) (by omega) (by omega) (by omega) (fun h11 => ?_) (fun h11 => ?_)
      · refine Z_iconst hk dX9_fills_49 ?_
        have J51 : ∀ (n : Nat) (x2_51 : Int) (m51 : Mem), ((1 ≤ x2_51 ∧ x2_51 ≤ (M 48 84) + 1) ∧ (∀ c : Nat, c ≠ 110 → m51 c = m2 c)) → ((M 48 84) + 1 - x2_51) < (n : Int) → Zj κ δ ad rs Q 4 (121, 0, 0) 51 [some (.ref (ad 48)), some (iv t), some (iv x2_51), none] [] m51 := by
          intro n
          induction n with
          | zero => intro x2_51 m51 h51 hm51; exfalso; obtain ⟨h51, -⟩ := h51; omega
          | succ n ih51 =>
            intro x2_51 m51 h51 hm51
            obtain ⟨h51, f51_0⟩ := h51
            try simp only [f51_0, f2_0, and_true, true_and, or_true, true_or, implies_true, upn, reduceIte, Nat.reduceEqDiff, ne_eq, not_false_eq_true] at h51 hm51
            refine Z_iload2 hk dX9_fills_51 ?_
            refine Z_aload0 hk dX9_fills_52 ?_
            refine Z_getI hk fl_9_445 dX9_fills_53 ob_48.1 ob_48.2.1 ob_48.2.2.1 ob_48.2.2.2 ft_9_84 (fun v53 e53 a53 b53 => ?_)
            try simp only [f51_0, f2_0, and_true, true_and, or_true, true_or, implies_true, upn, reduceIte, Nat.reduceEqDiff, ne_eq, not_false_eq_true] at e53
            refine Z_icmp_gt hk (tgt := 142) dX9_fills_56 (by decide) (by omega) (by omega) (by omega) (by omega) (fun h56 => ?_) (fun h56 => ?_)
            · exact Z_vret hk hA hQ dX9_fills_142 ⟨rfl, rfl, rfl, (by exact ⟨(by (try simp only [f51_0, f2_0, and_true, true_and, or_true, true_or, implies_true, upn, reduceIte, Nat.reduceEqDiff, ne_eq, not_false_eq_true]) <;> (trivial)), (by intro c k0; simp only [f51_0, f2_0, upc, upn, k0, reduceIte, Nat.reduceEqDiff, ne_eq, not_false_eq_true])⟩)⟩
            · refine Z_aload0 hk dX9_fills_59 ?_
              refine Z_getR hk fl_9_188 dX9_fills_60 ob_48.1 ob_48.2.1 ob_48.2.2.1 ob_48.2.2.2 ft_9_85 rs_48_85 ?_
              refine Z_iload2 hk dX9_fills_63 ?_
              refine Z_iald hk dX9_fills_64 ar_104.1 ar_104.2.1 ar_104.2.2 (by omega) (by omega) (fun v64 e64 a64 b64 => ?_)
              try simp only [f51_0, f2_0, e53, and_true, true_and, or_true, true_or, implies_true, upn, reduceIte, Nat.reduceEqDiff, ne_eq, not_false_eq_true] at e64
              refine Z_iconst hk dX9_fills_65 ?_
              have J136 : ∀ (m136 : Mem), ((True) ∧ (∀ c : Nat, c ≠ 110 → m136 c = m51 c)) → Zj κ δ ad rs Q 4 (121, 0, 0) 136 [some (.ref (ad 48)), some (iv t), some (iv x2_51), none] [] m136 := by
                intro m136 h136
                obtain ⟨h136, f136_0⟩ := h136
                try simp only [f136_0, f51_0, f2_0, and_true, true_and, or_true, true_or, implies_true, upn, reduceIte, Nat.reduceEqDiff, ne_eq, not_false_eq_true] at h136
                refine Z_iinc2 hk rfl (by decide) dX9_fills_136 ?_
                refine Z_goto hk (tgt := 51) dX9_fills_139 (by decide) ?_
                exact ih51 _ _ (by exact ⟨(by (try simp only [f136_0, f51_0, f2_0, and_true, true_and, or_true, true_or, implies_true, upn, reduceIte, Nat.reduceEqDiff, ne_eq, not_false_eq_true]) <;> (omega)), (by intro c k0; simp only [f136_0, f51_0, f2_0, upc, upn, k0, reduceIte, Nat.reduceEqDiff, ne_eq, not_false_eq_true])⟩) (by (try simp only [f136_0, f51_0, f2_0, and_true, true_and, or_true, true_or, implies_true, upn, reduceIte, Nat.reduceEqDiff, ne_eq, not_false_eq_true]) <;> (omega))
              refine Z_icmp_ne hk (tgt := 136) dX9_fills_66 (by decide) (by omega) (by omega) (by decide) (by decide) (fun h66 => ?_) (fun h66 => ?_)
              · exact J136 _ (by exact ⟨(by (try simp only [f51_0, f2_0, and_true, true_and, or_true, true_or, implies_true, upn, reduceIte, Nat.reduceEqDiff, ne_eq, not_false_eq_true]) <;> (trivial)), (by intro c k0; simp only [f51_0, f2_0, upc, upn, k0, reduceIte, Nat.reduceEqDiff, ne_eq, not_false_eq_true])⟩)
              · refine Z_aload0 hk dX9_fills_69 ?_
                refine Z_getR hk fl_9_191 dX9_fills_70 ob_48.1 ob_48.2.1 ob_48.2.2.1 ob_48.2.2.2 ft_9_86 rs_48_86 ?_
                refine Z_iload2 hk dX9_fills_73 ?_
                refine Z_iald hk dX9_fills_74 ar_105.1 ar_105.2.1 ar_105.2.2 (by omega) (by omega) (fun v74 e74 a74 b74 => ?_)
                try simp only [f51_0, f2_0, e53, e64, and_true, true_and, or_true, true_or, implies_true, upn, reduceIte, Nat.reduceEqDiff, ne_eq, not_false_eq_true] at e74
                refine Z_iload1 hk dX9_fills_75 ?_
                refine Z_icmp_ne hk (tgt := 136) dX9_fills_76 (by decide) (by omega) (by omega) (by omega) (by omega) (fun h76 => ?_) (fun h76 => ?_)
                · exact J136 _ (by exact ⟨(by (try simp only [f51_0, f2_0, and_true, true_and, or_true, true_or, implies_true, upn, reduceIte, Nat.reduceEqDiff, ne_eq, not_false_eq_true]) <;> (trivial)), (by intro c k0; simp only [f51_0, f2_0, upc, upn, k0, reduceIte, Nat.reduceEqDiff, ne_eq, not_false_eq_true])⟩)
                · refine Z_aload0 hk dX9_fills_79 ?_
                  refine Z_iload2 hk dX9_fills_80 ?_
                  refine Z_Vi hk (c_X9_isKnown κ.2.1 δ ad _ hA x2_51 (by (try simp only [f51_0, f2_0, and_true, true_and, or_true, true_or, implies_true, upn, reduceIte, Nat.reduceEqDiff, ne_eq, not_false_eq_true]) <;> (omega))) ov_X9_isKnown ml_X9_496 dX9_fills_81 rfl ⟨by decide, by decide⟩ ob_48.1 (by decide) (by decide) rfl (Nat.le_of_ble_eq_true rfl) (fun r81 m81 p81 => ?_)
                  obtain ⟨rfl, p81⟩ := p81
                  try simp only [f51_0, f2_0, e53, e64, e74, and_true, true_and, or_true, true_or, implies_true, upn, reduceIte, Nat.reduceEqDiff, ne_eq, not_false_eq_true] at p81
                  refine Z_if_ne hk (tgt := 90) dX9_fills_84 (by decide) (by omega) (by omega) (fun h84 => ?_) (fun h84 => ?_)
                  · obtain ⟨-, -, g90⟩ := q2 x2_51.toNat (by omega) (by omega)
                    have g91 := g90 (by omega)
                    refine Z_aload0 hk dX9_fills_90 ?_
                    refine Z_getR hk fl_9_209 dX9_fills_91 ob_48.1 ob_48.2.1 ob_48.2.2.1 ob_48.2.2.2 ft_9_93 rs_48_93 ?_
                    refine Z_aload0 hk dX9_fills_94 ?_
                    refine Z_getR hk fl_9_197 dX9_fills_95 ob_48.1 ob_48.2.1 ob_48.2.2.1 ob_48.2.2.2 ft_9_88 rs_48_88 ?_
                    refine Z_iload2 hk dX9_fills_98 ?_
                    refine Z_iald hk dX9_fills_99 ar_107.1 ar_107.2.1 ar_107.2.2 (by omega) (by omega) (fun v99 e99 a99 b99 => ?_)
                    try simp only [f51_0, f2_0, e53, e64, e74, and_true, true_and, or_true, true_or, implies_true, upn, reduceIte, Nat.reduceEqDiff, ne_eq, not_false_eq_true] at e99
                    refine Z_iald hk dX9_fills_100 ar_110.1 ar_110.2.1 ar_110.2.2 (by omega) (by omega) (fun v100 e100 a100 b100 => ?_)
                    try simp only [f51_0, f2_0, e53, e64, e74, e99, and_true, true_and, or_true, true_or, implies_true, upn, reduceIte, Nat.reduceEqDiff, ne_eq, not_false_eq_true] at e100
                    refine Z_istore3 hk rfl (by decide) dX9_fills_101 ?_
                    refine Z_aload0 hk dX9_fills_102 ?_
                    refine Z_getR hk fl_9_209 dX9_fills_103 ob_48.1 ob_48.2.1 ob_48.2.2.1 ob_48.2.2.2 ft_9_93 rs_48_93 ?_
                    refine Z_aload0 hk dX9_fills_106 ?_
                    refine Z_getR hk fl_9_197 dX9_fills_107 ob_48.1 ob_48.2.1 ob_48.2.2.1 ob_48.2.2.2 ft_9_88 rs_48_88 ?_
                    refine Z_iload2 hk dX9_fills_110 ?_
                    refine Z_iald hk dX9_fills_111 ar_107.1 ar_107.2.1 ar_107.2.2 (by omega) (by omega) (fun v111 e111 a111 b111 => ?_)
                    try simp only [f51_0, f2_0, e53, e64, e74, e99, e100, and_true, true_and, or_true, true_or, implies_true, upn, reduceIte, Nat.reduceEqDiff, ne_eq, not_false_eq_true] at e111
                    refine Z_aload0 hk dX9_fills_112 ?_
                    refine Z_getR hk fl_9_209 dX9_fills_113 ob_48.1 ob_48.2.1 ob_48.2.2.1 ob_48.2.2.2 ft_9_93 rs_48_93 ?_
                    refine Z_aload0 hk dX9_fills_116 ?_
                    refine Z_getR hk fl_9_200 dX9_fills_117 ob_48.1 ob_48.2.1 ob_48.2.2.1 ob_48.2.2.2 ft_9_89 rs_48_89 ?_
                    refine Z_iload2 hk dX9_fills_120 ?_
                    refine Z_iald hk dX9_fills_121 ar_108.1 ar_108.2.1 ar_108.2.2 (by omega) (by omega) (fun v121 e121 a121 b121 => ?_)
                    try simp only [f51_0, f2_0, e53, e64, e74, e99, e100, e111, and_true, true_and, or_true, true_or, implies_true, upn, reduceIte, Nat.reduceEqDiff, ne_eq, not_false_eq_true] at e121
                    refine Z_iald hk dX9_fills_122 ar_110.1 ar_110.2.1 ar_110.2.2 (by omega) (by omega) (fun v122 e122 a122 b122 => ?_)
                    try simp only [f51_0, f2_0, e53, e64, e74, e99, e100, e111, e121, and_true, true_and, or_true, true_or, implies_true, upn, reduceIte, Nat.reduceEqDiff, ne_eq, not_false_eq_true] at e122
                    refine Z_iast hk hA dX9_fills_123 ar_110.1 ar_110.2.1 ar_110.2.2 (by omega) (by omega) (by omega) (by omega) ?_
                    refine Z_nm (fun m123 em123 => ?_)
                    refine Z_aload0 hk dX9_fills_124 ?_
                    refine Z_getR hk fl_9_209 dX9_fills_125 ob_48.1 ob_48.2.1 ob_48.2.2.1 ob_48.2.2.2 ft_9_93 rs_48_93 ?_
                    refine Z_aload0 hk dX9_fills_128 ?_
                    refine Z_getR hk fl_9_200 dX9_fills_129 ob_48.1 ob_48.2.1 ob_48.2.2.1 ob_48.2.2.2 ft_9_89 rs_48_89 ?_
                    refine Z_iload2 hk dX9_fills_132 ?_
                    refine Z_iald hk dX9_fills_133 ar_108.1 ar_108.2.1 ar_108.2.2 (by omega) (by omega) (fun v133 e133 a133 b133 => ?_)
                    try simp only [em123, f51_0, f2_0, e53, e64, e74, e99, e100, e111, e121, e122, and_true, true_and, or_true, true_or, implies_true, upn, reduceIte, Nat.reduceEqDiff, ne_eq, not_false_eq_true] at e133
                    refine Z_iload3 hk dX9_fills_134 ?_
                    refine Z_iast hk hA dX9_fills_135 ar_110.1 ar_110.2.1 ar_110.2.2 (by omega) (by omega) (by omega) (by omega) ?_
                    refine Z_nm (fun m135 em135 => ?_)
                    refine Z_drop3 ?_
                    exact J136 _ (by exact ⟨(by (try simp only [em135, em123, f51_0, f2_0, and_true, true_and, or_true, true_or, implies_true, upn, reduceIte, Nat.reduceEqDiff, ne_eq, not_false_eq_true]) <;> (trivial)), (by intro c k0; simp only [em135, em123, f51_0, f2_0, upc, upn, k0, reduceIte, Nat.reduceEqDiff, ne_eq, not_false_eq_true])⟩)
                  · refine Z_goto hk (tgt := 136) dX9_fills_87 (by decide) ?_
                    exact J136 _ (by exact ⟨(by (try simp only [f51_0, f2_0, and_true, true_and, or_true, true_or, implies_true, upn, reduceIte, Nat.reduceEqDiff, ne_eq, not_false_eq_true]) <;> (trivial)), (by intro c k0; simp only [f51_0, f2_0, upc, upn, k0, reduceIte, Nat.reduceEqDiff, ne_eq, not_false_eq_true])⟩)
        refine Z_istore2 hk rfl (by decide) dX9_fills_50 ?_
        exact J51 ((((M 48 84) + 1 - 1) : Int).toNat + 1) _ _ (by exact ⟨(by (try simp only [f2_0, and_true, true_and, or_true, true_or, implies_true, upn, reduceIte, Nat.reduceEqDiff, ne_eq, not_false_eq_true]) <;> (omega)), (by intro c k0; simp only [f2_0, upc, upn, k0, reduceIte, Nat.reduceEqDiff, ne_eq, not_false_eq_true])⟩) (by omega)
      · refine Z_aload0 hk dX9_fills_14 ?_
        refine Z_getR hk fl_9_209 dX9_fills_15 ob_48.1 ob_48.2.1 ob_48.2.2.1 ob_48.2.2.2 ft_9_93 rs_48_93 ?_
        refine Z_iload2 hk dX9_fills_18 ?_
        refine Z_aload0 hk dX9_fills_19 ?_
        refine Z_getR hk fl_9_152 dX9_fills_20 ob_48.1 ob_48.2.1 ob_48.2.2.1 ob_48.2.2.2 ft_9_67 rs_48_67 ?_
        refine Z_iload1 hk dX9_fills_23 ?_
        refine Z_zald hk dX9_fills_24 ar_94.1 ar_94.2.1 ar_94.2.2 (by omega) (by omega) (fun v24 e24 a24 b24 => ?_)
        try simp only [f2_0, and_true, true_and, or_true, true_or, implies_true, upn, reduceIte, Nat.reduceEqDiff, ne_eq, not_false_eq_true] at e24
        refine Z_iload2 hk dX9_fills_25 ?_
        refine Z_aload0 hk dX9_fills_26 ?_
        refine Z_iload1 hk dX9_fills_27 ?_
        refine Z_Vi hk (c_X9_places κ.2.1 δ ad _ hA t (by (try simp only [f2_0, and_true, true_and, or_true, true_or, implies_true, upn, reduceIte, Nat.reduceEqDiff, ne_eq, not_false_eq_true]) <;> (omega))) ov_X9_places ml_X9_454 dX9_fills_28 rfl ⟨by decide, by decide⟩ ob_48.1 (by decide) (by decide) rfl (Nat.le_of_ble_eq_true rfl) (fun r28 m28 p28 => ?_)
        obtain ⟨rfl, p28⟩ := p28
        try simp only [f2_0, e24, and_true, true_and, or_true, true_or, implies_true, upn, reduceIte, Nat.reduceEqDiff, ne_eq, not_false_eq_true] at p28
        refine Z_idiv hk dX9_fills_31 (by omega) (by omega) (by omega) (by omega) (by omega) ?_
        refine Z_iload2 hk dX9_fills_32 ?_
        refine Z_aload0 hk dX9_fills_33 ?_
        refine Z_iload1 hk dX9_fills_34 ?_
        refine Z_Vi hk (c_X9_places κ.2.1 δ ad _ hA t (by (try simp only [f2_0, and_true, true_and, or_true, true_or, implies_true, upn, reduceIte, Nat.reduceEqDiff, ne_eq, not_false_eq_true]) <;> (omega))) ov_X9_places ml_X9_454 dX9_fills_35 rfl ⟨by decide, by decide⟩ ob_48.1 (by decide) (by decide) rfl (Nat.le_of_ble_eq_true rfl) (fun r35 m35 p35 => ?_)
        obtain ⟨rfl, p35⟩ := p35
        try simp only [f2_0, e24, and_true, true_and, or_true, true_or, implies_true, upn, reduceIte, Nat.reduceEqDiff, ne_eq, not_false_eq_true] at p35
        refine Z_irem hk dX9_fills_38 (by omega) (by omega) (by omega) (by omega) (by omega) ?_
        have g39 := td_in (x := x2_2) (y := r28) (by omega) (by omega)
        have g40 := tm_in (x := x2_2) (y := r35) (by omega) (by omega)
        refine Z_Si hk (c_X9_orderOf κ.2.1 δ ad _ hA v24 (Int.tdiv x2_2 r28) (Int.tmod x2_2 r35) (by (try simp only [f2_0, and_true, true_and, or_true, true_or, implies_true, upn, reduceIte, Nat.reduceEqDiff, ne_eq, not_false_eq_true]) <;> (omega)) (by (try simp only [f2_0, and_true, true_and, or_true, true_or, implies_true, upn, reduceIte, Nat.reduceEqDiff, ne_eq, not_false_eq_true]) <;> (omega))) os_X9_orderOf ml_X9_492 dX9_fills_39 rfl ⟨by decide, by decide⟩ rfl (Nat.le_of_ble_eq_true rfl) (fun r39 m39 p39 => ?_)
        obtain ⟨rfl, p39⟩ := p39
        try simp only [f2_0, e24, and_true, true_and, or_true, true_or, implies_true, upn, reduceIte, Nat.reduceEqDiff, ne_eq, not_false_eq_true] at p39
        refine Z_iast hk hA dX9_fills_42 ar_110.1 ar_110.2.1 ar_110.2.2 (by omega) (by omega) (by omega) (by omega) ?_
        refine Z_nm (fun m42 em42 => ?_)
        refine Z_iinc2 hk rfl (by decide) dX9_fills_43 ?_
        refine Z_goto hk (tgt := 2) dX9_fills_46 (by decide) ?_
        exact ih2 _ _ (by exact ⟨(by (try simp only [em42, f2_0, and_true, true_and, or_true, true_or, implies_true, upn, reduceIte, Nat.reduceEqDiff, ne_eq, not_false_eq_true]) <;> (omega)), (by intro c k0; simp only [em42, f2_0, upc, upn, k0, reduceIte, Nat.reduceEqDiff, ne_eq, not_false_eq_true])⟩) (by (try simp only [em42, f2_0, and_true, true_and, or_true, true_or, implies_true, upn, reduceIte, Nat.reduceEqDiff, ne_eq, not_false_eq_true]) <;> (omega))
  refine Z_istore2 hk rfl (by decide) dX9_fills_1 ?_
  exact J2 (((90 - 0) : Int).toNat + 1) _ _ (by exact ⟨(by (omega)), (by intro c k0; rfl)⟩) (by omega)
set_option maxRecDepth 10000 in
theorem c_X9_inside (l : Launch) (δ : Dp) (ad : Nat → Nat) (M : Mem) (hA : okA δ ad) (t : Int) (c : Int) (q0 : 0 ≤ (M 48 65) ∧ (M 48 65) ≤ 6 ∧ 0 ≤ (M 48 66) ∧ (M 48 66) ≤ 4 ∧ -1 ≤ (M 48 76) ∧ (M 48 76) ≤ 5 ∧ 0 ≤ (M 48 77) ∧ (M 48 77) ≤ 8 ∧ 0 ≤ (M 48 84) ∧ (M 48 84) ≤ 250 ∧ -1 ≤ (M 48 91) ∧ (M 48 91) ≤ (M 48 84)) (q1 : AC (M 48 84) (M 104) (M 105) (M 106) (M 107) (M 108)) (i_t : -2147483648 ≤ t ∧ t ≤ 2147483647) (i_c : -2147483648 ≤ c ∧ c ≤ 2147483647) : Mi l δ yX9_inside cX9_inside 4 (some (.int)) 3 64 ad rs [.ref (ad 48), iv t, iv c] M (fun r M' => (True) ∧ (∀ c : Nat, c ≠ 110 → M' c = M c)) := by
  refine Mg.of (rm := rmN 3 64) (by decide) (Nat.le_of_ble_eq_true rfl) fun κ _ hk _ => ?_
  generalize hQ : Qg κ δ 121 (rmN 3 64).cells (rmN 3 64).slots _ = Q
  show Zj κ δ ad rs Q 4 (121, 0, 0) 0 [some (.ref (ad 48)), some (iv t), some (iv c), none] [] M
  refine Z_aload0 hk dX9_inside_0 ?_
  refine Z_iload1 hk dX9_inside_1 ?_
  refine Z_Vi hk (c_X9_isTrial κ.2.1 δ ad _ hA t (by (omega)) (by (omega))) ov_X9_isTrial ml_X9_470 dX9_inside_2 rfl ⟨by decide, by decide⟩ ob_48.1 (by decide) (by decide) rfl (Nat.le_of_ble_eq_true rfl) (fun r2 m2 p2 => ?_)
  obtain ⟨rfl, p2⟩ := p2
  refine Z_if_eq hk (tgt := 15) dX9_inside_5 (by decide) (by omega) (by omega) (fun h5 => ?_) (fun h5 => ?_)
  · refine Z_iconst hk dX9_inside_15 ?_
    exact Z_iret hk hA hQ dX9_inside_16 ⟨rfl, rfl, _, rfl, (by exact ⟨(by (trivial)), (by intro c k0; rfl)⟩)⟩
  · refine Z_aload0 hk dX9_inside_8 ?_
    refine Z_getZ hk fl_9_448 dX9_inside_9 ob_48.1 ob_48.2.1 ob_48.2.2.1 ob_48.2.2.2 ft_9_92 (fun v9 e9 a9 b9 => ?_)
    refine Z_if_ne hk (tgt := 17) dX9_inside_12 (by decide) (by omega) (by omega) (fun h12 => ?_) (fun h12 => ?_)
    · refine Z_aload0 hk dX9_inside_17 ?_
      refine Z_iload1 hk dX9_inside_18 ?_
      refine Z_iload2 hk dX9_inside_19 ?_
      refine Z_Vi hk (c_X9_cupOf κ.2.1 δ ad _ hA t c (by (omega)) (by (omega))) ov_X9_cupOf ml_X9_480 dX9_inside_20 rfl ⟨by decide, by decide⟩ ob_48.1 (by decide) (by decide) rfl (Nat.le_of_ble_eq_true rfl) (fun r20 m20 p20 => ?_)
      obtain ⟨rfl, p20⟩ := p20
      refine Z_istore3 hk rfl (by decide) dX9_inside_23 ?_
      refine Z_iload3 hk dX9_inside_24 ?_
      refine Z_iconst hk dX9_inside_25 ?_
      refine Z_icmp_ne hk (tgt := 31) dX9_inside_26 (by decide) (by omega) (by omega) (by decide) (by decide) (fun h26 => ?_) (fun h26 => ?_)
      · refine Z_aload0 hk dX9_inside_31 ?_
        refine Z_iload1 hk dX9_inside_32 ?_
        refine Z_Vv hk (c_X9_fills κ.2.1 δ ad _ hA t (by (omega)) (by (omega)) (by (exact q1))) ov_X9_fills ml_X9_499 dX9_inside_33 rfl ⟨by decide, by decide⟩ ob_48.1 (by decide) (by decide) rfl (Nat.le_of_ble_eq_true rfl) (fun m33 p33 => ?_)
        obtain ⟨p33, f33_0⟩ := p33
        try simp only [f33_0, e9, and_true, true_and, or_true, true_or, implies_true, upn, reduceIte, Nat.reduceEqDiff, ne_eq, not_false_eq_true] at p33
        refine Z_aload0 hk dX9_inside_36 ?_
        refine Z_getR hk fl_9_209 dX9_inside_37 ob_48.1 ob_48.2.1 ob_48.2.2.1 ob_48.2.2.2 ft_9_93 rs_48_93 ?_
        refine Z_iload3 hk dX9_inside_40 ?_
        refine Z_iald hk dX9_inside_41 ar_110.1 ar_110.2.1 ar_110.2.2 (by omega) (by omega) (fun v41 e41 a41 b41 => ?_)
        try simp only [f33_0, e9, and_true, true_and, or_true, true_or, implies_true, upn, reduceIte, Nat.reduceEqDiff, ne_eq, not_false_eq_true] at e41
        exact Z_iret hk hA hQ dX9_inside_42 ⟨rfl, rfl, _, rfl, (by exact ⟨(by (try simp only [f33_0, and_true, true_and, or_true, true_or, implies_true, upn, reduceIte, Nat.reduceEqDiff, ne_eq, not_false_eq_true]) <;> (trivial)), (by intro c k0; simp only [f33_0, upc, upn, k0, reduceIte, Nat.reduceEqDiff, ne_eq, not_false_eq_true])⟩)⟩
      · refine Z_iconst hk dX9_inside_29 ?_
        exact Z_iret hk hA hQ dX9_inside_30 ⟨rfl, rfl, _, rfl, (by exact ⟨(by (trivial)), (by intro c k0; rfl)⟩)⟩
    · refine Z_iconst hk dX9_inside_15 ?_
      exact Z_iret hk hA hQ dX9_inside_16 ⟨rfl, rfl, _, rfl, (by exact ⟨(by (trivial)), (by intro c k0; rfl)⟩)⟩
set_option maxRecDepth 10000 in
theorem c_X9_dueCup (l : Launch) (δ : Dp) (ad : Nat → Nat) (M : Mem) (hA : okA δ ad) (t : Int) (k : Int) (q0 : 0 ≤ t ∧ t ≤ 3) (q1 : 0 ≤ k ∧ k ≤ 29) : Mi l δ yX9_dueCup cX9_dueCup 7 (some (.int)) 1 21 ad rs [.ref (ad 48), iv t, iv k] M (fun r M' => M = M' ∧ (-1 ≤ r ∧ r ≤ 89)) := by
  refine Mg.of (rm := rmN 1 21) (by decide) (Nat.le_of_ble_eq_true rfl) fun κ _ hk _ => ?_
  generalize hQ : Qg κ δ 121 (rmN 1 21).cells (rmN 1 21).slots _ = Q
  show Zj κ δ ad rs Q 7 (121, 0, 0) 0 [some (.ref (ad 48)), some (iv t), some (iv k), none, none, none, none] [] M
  refine Z_aload0 hk dX9_dueCup_0 ?_
  refine Z_iload1 hk dX9_dueCup_1 ?_
  refine Z_Vi hk (c_X9_places κ.2.1 δ ad _ hA t (by (omega))) ov_X9_places ml_X9_454 dX9_dueCup_2 rfl ⟨by decide, by decide⟩ ob_48.1 (by decide) (by decide) rfl (Nat.le_of_ble_eq_true rfl) (fun r2 m2 p2 => ?_)
  obtain ⟨rfl, p2⟩ := p2
  have g2 : 0 ≤ r2 * k ∧ r2 * k ≤ 87 ∧ (r2 = 2 ∨ r2 = 3) := by
    rcases p2.1 with e | e <;> (rw [e]; omega)
  refine Z_istore3 hk rfl (by decide) dX9_dueCup_5 ?_
  refine Z_iconst hk dX9_dueCup_6 ?_
  refine Z_istore4 hk rfl (by decide) dX9_dueCup_7 ?_
  refine Z_iconst hk dX9_dueCup_9 ?_
  have J12 : ∀ (n : Nat) (x4_12 : Int) (x5_12 : Int), (0 ≤ x5_12 ∧ x5_12 ≤ r2 ∧ 0 ≤ x4_12 ∧ x4_12 ≤ x5_12) → (r2 - x5_12) < (n : Int) → Zj κ δ ad rs Q 7 (121, 0, 0) 12 [some (.ref (ad 48)), some (iv t), some (iv k), some (iv r2), some (iv x4_12), some (iv x5_12), none] [] M := by
    intro n
    induction n with
    | zero => intro x4_12 x5_12 h12 hm12; exfalso; omega
    | succ n ih12 =>
      intro x4_12 x5_12 h12 hm12
      refine Z_iload5 hk dX9_dueCup_12 ?_
      refine Z_iload3 hk dX9_dueCup_14 ?_
      refine Z_icmp_ge hk (tgt := 42) dX9_dueCup_15 (by decide) (by omega) (by omega) (by omega) (by omega) (fun h15 => ?_) (fun h15 => ?_)
      · refine Z_iload4 hk dX9_dueCup_42 ?_
        refine Z_if_eq hk (tgt := 53) dX9_dueCup_44 (by decide) (by omega) (by omega) (fun h44 => ?_) (fun h44 => ?_)
        · refine Z_iconst hk dX9_dueCup_53 ?_
          exact Z_iret hk hA hQ dX9_dueCup_54 ⟨rfl, rfl, _, rfl, (by exact ⟨rfl, (by omega)⟩)⟩
        · refine Z_iload4 hk dX9_dueCup_47 ?_
          refine Z_iload3 hk dX9_dueCup_49 ?_
          refine Z_icmp_ne hk (tgt := 55) dX9_dueCup_50 (by decide) (by omega) (by omega) (by omega) (by omega) (fun h50 => ?_) (fun h50 => ?_)
          · refine Z_iload3 hk dX9_dueCup_55 ?_
            refine Z_iconst hk dX9_dueCup_56 ?_
            have J71 : ∀ (y0_71 : Int), (1 ≤ y0_71 ∧ y0_71 ≤ 2) → Zj κ δ ad rs Q 7 (121, 0, 0) 71 [some (.ref (ad 48)), some (iv t), some (iv k), some (iv r2), some (iv x4_12), some (iv x5_12), none] [iv y0_71] M := by
              intro y0_71 h71
              refine Z_istore5 hk rfl (by decide) dX9_dueCup_71 ?_
              refine Z_iconst hk dX9_dueCup_73 ?_
              have J76 : ∀ (n : Nat) (x6_76 : Int), (0 ≤ x6_76 ∧ x6_76 ≤ r2) → (r2 - x6_76) < (n : Int) → Zj κ δ ad rs Q 7 (121, 0, 0) 76 [some (.ref (ad 48)), some (iv t), some (iv k), some (iv r2), some (iv x4_12), some (iv y0_71), some (iv x6_76)] [] M := by
                intro n
                induction n with
                | zero => intro x6_76 h76 hm76; exfalso; omega
                | succ n ih76 =>
                  intro x6_76 h76 hm76
                  refine Z_iload6 hk dX9_dueCup_76 ?_
                  refine Z_iload3 hk dX9_dueCup_78 ?_
                  refine Z_icmp_ge hk (tgt := 111) dX9_dueCup_79 (by decide) (by omega) (by omega) (by omega) (by omega) (fun h79 => ?_) (fun h79 => ?_)
                  · refine Z_iconst hk dX9_dueCup_111 ?_
                    exact Z_iret hk hA hQ dX9_dueCup_112 ⟨rfl, rfl, _, rfl, (by exact ⟨rfl, (by omega)⟩)⟩
                  · refine Z_aload0 hk dX9_dueCup_82 ?_
                    refine Z_getR hk fl_9_209 dX9_dueCup_83 ob_48.1 ob_48.2.1 ob_48.2.2.1 ob_48.2.2.2 ft_9_93 rs_48_93 ?_
                    refine Z_iload3 hk dX9_dueCup_86 ?_
                    refine Z_iload2 hk dX9_dueCup_87 ?_
                    refine Z_imul hk dX9_dueCup_88 ?_
                    refine Z_iload6 hk dX9_dueCup_89 ?_
                    refine Z_iadd hk dX9_dueCup_91 ?_
                    refine Z_iald hk dX9_dueCup_92 ar_110.1 ar_110.2.1 ar_110.2.2 (by omega) (by omega) (fun v92 e92 a92 b92 => ?_)
                    refine Z_iload5 hk dX9_dueCup_93 ?_
                    refine Z_icmp_ne hk (tgt := 105) dX9_dueCup_95 (by decide) (by omega) (by omega) (by omega) (by omega) (fun h95 => ?_) (fun h95 => ?_)
                    · refine Z_iinc6 hk rfl (by decide) dX9_dueCup_105 ?_
                      refine Z_goto hk (tgt := 76) dX9_dueCup_108 (by decide) ?_
                      exact ih76 _ (by omega) (by (omega))
                    · refine Z_iload3 hk dX9_dueCup_98 ?_
                      refine Z_iload2 hk dX9_dueCup_99 ?_
                      refine Z_imul hk dX9_dueCup_100 ?_
                      refine Z_iload6 hk dX9_dueCup_101 ?_
                      refine Z_iadd hk dX9_dueCup_103 ?_
                      exact Z_iret hk hA hQ dX9_dueCup_104 ⟨rfl, rfl, _, rfl, (by exact ⟨rfl, (by omega)⟩)⟩
              refine Z_istore6 hk rfl (by decide) dX9_dueCup_74 ?_
              exact J76 (((r2 - 0) : Int).toNat + 1) _ (by omega) (by omega)
            have J66 : ∀ (_ : Unit), (True) → Zj κ δ ad rs Q 7 (121, 0, 0) 66 [some (.ref (ad 48)), some (iv t), some (iv k), some (iv r2), some (iv x4_12), some (iv x5_12), none] [] M := by
              intro _ h66
              refine Z_iconst hk dX9_dueCup_66 ?_
              refine Z_goto hk (tgt := 71) dX9_dueCup_67 (by decide) ?_
              exact J71 _ (by omega)
            refine Z_icmp_eq hk (tgt := 66) dX9_dueCup_57 (by decide) (by omega) (by omega) (by decide) (by decide) (fun h57 => ?_) (fun h57 => ?_)
            · exact J66 () (by trivial)
            · refine Z_iload4 hk dX9_dueCup_60 ?_
              refine Z_iconst hk dX9_dueCup_62 ?_
              refine Z_icmp_ne hk (tgt := 70) dX9_dueCup_63 (by decide) (by omega) (by omega) (by decide) (by decide) (fun h63 => ?_) (fun h63 => ?_)
              · refine Z_iconst hk dX9_dueCup_70 ?_
                exact J71 _ (by omega)
              · exact J66 () (by trivial)
          · refine Z_iconst hk dX9_dueCup_53 ?_
            exact Z_iret hk hA hQ dX9_dueCup_54 ⟨rfl, rfl, _, rfl, (by exact ⟨rfl, (by omega)⟩)⟩
      · refine Z_aload0 hk dX9_dueCup_18 ?_
        refine Z_getR hk fl_9_209 dX9_dueCup_19 ob_48.1 ob_48.2.1 ob_48.2.2.1 ob_48.2.2.2 ft_9_93 rs_48_93 ?_
        refine Z_iload3 hk dX9_dueCup_22 ?_
        refine Z_iload2 hk dX9_dueCup_23 ?_
        refine Z_imul hk dX9_dueCup_24 ?_
        refine Z_iload5 hk dX9_dueCup_25 ?_
        refine Z_iadd hk dX9_dueCup_27 ?_
        refine Z_iald hk dX9_dueCup_28 ar_110.1 ar_110.2.1 ar_110.2.2 (by omega) (by omega) (fun v28 e28 a28 b28 => ?_)
        refine Z_iconst hk dX9_dueCup_29 ?_
        have J36 : ∀ (x4_36 : Int), (0 ≤ x4_36 ∧ x4_36 ≤ x5_12 + 1) → Zj κ δ ad rs Q 7 (121, 0, 0) 36 [some (.ref (ad 48)), some (iv t), some (iv k), some (iv r2), some (iv x4_36), some (iv x5_12), none] [] M := by
          intro x4_36 h36
          refine Z_iinc5 hk rfl (by decide) dX9_dueCup_36 ?_
          refine Z_goto hk (tgt := 12) dX9_dueCup_39 (by decide) ?_
          exact ih12 _ _ (by omega) (by (omega))
        refine Z_icmp_ne hk (tgt := 36) dX9_dueCup_30 (by decide) (by omega) (by omega) (by decide) (by decide) (fun h30 => ?_) (fun h30 => ?_)
        · exact J36 _ (by omega)
        · refine Z_iinc4 hk rfl (by decide) dX9_dueCup_33 ?_
          exact J36 _ (by omega)
  refine Z_istore5 hk rfl (by decide) dX9_dueCup_10 ?_
  exact J12 (((r2 - 0) : Int).toNat + 1) _ _ (by omega) (by omega)
