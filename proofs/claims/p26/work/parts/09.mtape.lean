theorem upn (M : Mem) (c i : Nat) (v : Int) (d j : Nat) : up M c i v d j = if d = c then (if j = i then v else M c j) else M d j := by
  unfold up upr; split <;> rfl
theorem upc (M : Mem) (c i : Nat) (v : Int) (d : Nat) : up M c i v d = if d = c then upr (M c) i v else M d := rfl
theorem Z_nm {κ : Kp} {δ : Dp} {ad : Nat → Nat} {rt : Rt} {Q : State → Prop} {mL : Nat} {ρ : Nat × Nat × Nat} {pc : Nat} {L : List (Option Value)} {S : List Value} {M : Mem} (k : ∀ M1, M1 = M → Zj κ δ ad rt Q mL ρ pc L S M1) : Zj κ δ ad rt Q mL ρ pc L S M := k M rfl
set_option maxRecDepth 10000 in
theorem c_X9_isIn (l : Launch) (δ : Dp) (ad : Nat → Nat) (M : Mem) (hA : okA δ ad) (v : Int) (a : Int) (b : Int) (i_v : -9223372036854775808 ≤ v ∧ v ≤ 9223372036854775807) (i_a : -9223372036854775808 ≤ a ∧ a ≤ 9223372036854775807) (i_b : -9223372036854775808 ≤ b ∧ b ≤ 9223372036854775807) : Mi l δ yX9_isIn cX9_isIn 6 (some (.boolean)) 0 0 ad rs [jv v, jv a, jv b] M (fun r M' => M = M' ∧ (0 ≤ r ∧ r ≤ 1 ∧ (r = 1 ↔ a ≤ v ∧ v ≤ b))) := by
  refine Mg.of (rm := rmN 0 0) (by decide) (Nat.le_of_ble_eq_true rfl) fun κ _ hk _ => ?_
  generalize hQ : Qg κ δ 121 (rmN 0 0).cells (rmN 0 0).slots _ = Q
  show Zj κ δ ad rs Q 6 (121, 0, 0) 0 [some (jv v), none, some (jv a), none, some (jv b), none] [] M
  refine Z_lload0 hk dX9_isIn_0 ?_
  refine Z_lload2 hk dX9_isIn_1 ?_
  refine Z_lcmp hk dX9_isIn_2 (by omega) (by omega) (by omega) (by omega) (fun v2 e2 => ?_)
  refine Z_if_lt hk (tgt := 17) dX9_isIn_3 (by decide) (by omega) (by omega) (fun h3 => ?_) (fun h3 => ?_)
  · refine Z_iconst hk dX9_isIn_17 ?_
    exact Z_zret hk hA hQ dX9_isIn_18 (by decide) (by decide) ⟨rfl, rfl, _, rfl, (by exact ⟨rfl, (by omega)⟩)⟩
  · refine Z_lload0 hk dX9_isIn_6 ?_
    refine Z_lload4 hk dX9_isIn_7 ?_
    refine Z_lcmp hk dX9_isIn_9 (by omega) (by omega) (by omega) (by omega) (fun v9 e9 => ?_)
    refine Z_if_gt hk (tgt := 17) dX9_isIn_10 (by decide) (by omega) (by omega) (fun h10 => ?_) (fun h10 => ?_)
    · refine Z_iconst hk dX9_isIn_17 ?_
      exact Z_zret hk hA hQ dX9_isIn_18 (by decide) (by decide) ⟨rfl, rfl, _, rfl, (by exact ⟨rfl, (by omega)⟩)⟩
    · refine Z_iconst hk dX9_isIn_13 ?_
      refine Z_goto hk (tgt := 18) dX9_isIn_14 (by decide) ?_
      exact Z_zret hk hA hQ dX9_isIn_18 (by decide) (by decide) ⟨rfl, rfl, _, rfl, (by exact ⟨rfl, (by omega)⟩)⟩
set_option maxRecDepth 10000 in
theorem c_X9_isLetter (l : Launch) (δ : Dp) (ad : Nat → Nat) (M : Mem) (hA : okA δ ad) (c : Int) (i_c : -2147483648 ≤ c ∧ c ≤ 2147483647) : Mi l δ yX9_isLetter cX9_isLetter 1 (some (.boolean)) 0 0 ad rs [iv c] M (fun r M' => M = M' ∧ (0 ≤ r ∧ r ≤ 1 ∧ (r = 1 ↔ 97 ≤ c ∧ c ≤ 122))) := by
  refine Mg.of (rm := rmN 0 0) (by decide) (Nat.le_of_ble_eq_true rfl) fun κ _ hk _ => ?_
  generalize hQ : Qg κ δ 121 (rmN 0 0).cells (rmN 0 0).slots _ = Q
  show Zj κ δ ad rs Q 1 (121, 0, 0) 0 [some (iv c)] [] M
  refine Z_iload0 hk dX9_isLetter_0 ?_
  refine Z_bipush hk dX9_isLetter_1 (by decide) ?_
  refine Z_icmp_lt hk (tgt := 16) dX9_isLetter_3 (by decide) (by omega) (by omega) (by decide) (by decide) (fun h3 => ?_) (fun h3 => ?_)
  · refine Z_iconst hk dX9_isLetter_16 ?_
    exact Z_zret hk hA hQ dX9_isLetter_17 (by decide) (by decide) ⟨rfl, rfl, _, rfl, (by exact ⟨rfl, (by omega)⟩)⟩
  · refine Z_iload0 hk dX9_isLetter_6 ?_
    refine Z_bipush hk dX9_isLetter_7 (by decide) ?_
    refine Z_icmp_gt hk (tgt := 16) dX9_isLetter_9 (by decide) (by omega) (by omega) (by decide) (by decide) (fun h9 => ?_) (fun h9 => ?_)
    · refine Z_iconst hk dX9_isLetter_16 ?_
      exact Z_zret hk hA hQ dX9_isLetter_17 (by decide) (by decide) ⟨rfl, rfl, _, rfl, (by exact ⟨rfl, (by omega)⟩)⟩
    · refine Z_iconst hk dX9_isLetter_12 ?_
      refine Z_goto hk (tgt := 17) dX9_isLetter_13 (by decide) ?_
      exact Z_zret hk hA hQ dX9_isLetter_17 (by decide) (by decide) ⟨rfl, rfl, _, rfl, (by exact ⟨rfl, (by omega)⟩)⟩
set_option maxRecDepth 10000 in
theorem c_X9_isDigit (l : Launch) (δ : Dp) (ad : Nat → Nat) (M : Mem) (hA : okA δ ad) (c : Int) (i_c : -2147483648 ≤ c ∧ c ≤ 2147483647) : Mi l δ yX9_isDigit cX9_isDigit 1 (some (.boolean)) 0 0 ad rs [iv c] M (fun r M' => M = M' ∧ (0 ≤ r ∧ r ≤ 1 ∧ (r = 1 ↔ 48 ≤ c ∧ c ≤ 57))) := by
  refine Mg.of (rm := rmN 0 0) (by decide) (Nat.le_of_ble_eq_true rfl) fun κ _ hk _ => ?_
  generalize hQ : Qg κ δ 121 (rmN 0 0).cells (rmN 0 0).slots _ = Q
  show Zj κ δ ad rs Q 1 (121, 0, 0) 0 [some (iv c)] [] M
  refine Z_iload0 hk dX9_isDigit_0 ?_
  refine Z_bipush hk dX9_isDigit_1 (by decide) ?_
  refine Z_icmp_lt hk (tgt := 16) dX9_isDigit_3 (by decide) (by omega) (by omega) (by decide) (by decide) (fun h3 => ?_) (fun h3 => ?_)
  · refine Z_iconst hk dX9_isDigit_16 ?_
    exact Z_zret hk hA hQ dX9_isDigit_17 (by decide) (by decide) ⟨rfl, rfl, _, rfl, (by exact ⟨rfl, (by omega)⟩)⟩
  · refine Z_iload0 hk dX9_isDigit_6 ?_
    refine Z_bipush hk dX9_isDigit_7 (by decide) ?_
    refine Z_icmp_gt hk (tgt := 16) dX9_isDigit_9 (by decide) (by omega) (by omega) (by decide) (by decide) (fun h9 => ?_) (fun h9 => ?_)
    · refine Z_iconst hk dX9_isDigit_16 ?_
      exact Z_zret hk hA hQ dX9_isDigit_17 (by decide) (by decide) ⟨rfl, rfl, _, rfl, (by exact ⟨rfl, (by omega)⟩)⟩
    · refine Z_iconst hk dX9_isDigit_12 ?_
      refine Z_goto hk (tgt := 17) dX9_isDigit_13 (by decide) ?_
      exact Z_zret hk hA hQ dX9_isDigit_17 (by decide) (by decide) ⟨rfl, rfl, _, rfl, (by exact ⟨rfl, (by omega)⟩)⟩
set_option maxRecDepth 10000 in
theorem c_X9_fail (l : Launch) (δ : Dp) (ad : Nat → Nat) (M : Mem) (hA : okA δ ad) (kind : Int) (place : Int) (i_kind : -2147483648 ≤ kind ∧ kind ≤ 2147483647) (i_place : -2147483648 ≤ place ∧ place ≤ 2147483647) : Mv l δ yX9_fail cX9_fail 3 none 0 0 ad rs [.ref (ad 48), iv kind, iv place] M (fun M' => (((M 48 5) ≠ 0 → (M' 48 5) = (M 48 5) ∧ (M' 48 6) = (M 48 6)) ∧ ((M 48 5) = 0 → (M' 48 5) = kind ∧ (M' 48 6) = place)) ∧ (∀ c : Nat, c ≠ 48 → M' c = M c) ∧ (∀ i : Nat, i ≠ 5 → i ≠ 6 → M' 48 i = M 48 i)) := by
  refine Mg.of (rm := rmN 0 0) (by decide) (Nat.le_of_ble_eq_true rfl) fun κ _ hk _ => ?_
  generalize hQ : Qg κ δ 121 (rmN 0 0).cells (rmN 0 0).slots _ = Q
  show Zj κ δ ad rs Q 3 (121, 0, 0) 0 [some (.ref (ad 48)), some (iv kind), some (iv place)] [] M
  refine Z_aload0 hk dX9_fail_0 ?_
  refine Z_getI hk fl_9_245 dX9_fail_1 ob_48.1 ob_48.2.1 ob_48.2.2.1 ob_48.2.2.2 ft_9_5 (fun v1 e1 a1 b1 => ?_)
  refine Z_if_eq hk (tgt := 8) dX9_fail_4 (by decide) (by omega) (by omega) (fun h4 => ?_) (fun h4 => ?_)
  · refine Z_aload0 hk dX9_fail_8 ?_
    refine Z_iload1 hk dX9_fail_9 ?_
    refine Z_putI hk hA fl_9_245 dX9_fail_10 ob_48.1 ob_48.2.1 ob_48.2.2.1 ob_48.2.2.2 ft_9_5 (by omega) (by omega) ?_
    refine Z_nm (fun m10 em10 => ?_)
    refine Z_aload0 hk dX9_fail_13 ?_
    refine Z_iload2 hk dX9_fail_14 ?_
    refine Z_putI hk hA fl_9_248 dX9_fail_15 ob_48.1 ob_48.2.1 ob_48.2.2.1 ob_48.2.2.2 ft_9_6 (by omega) (by omega) ?_
    refine Z_nm (fun m15 em15 => ?_)
    exact Z_vret hk hA hQ dX9_fail_18 ⟨rfl, rfl, rfl, (by exact ⟨(by (try simp only [em15, em10, and_true, true_and, or_true, true_or, implies_true, upn, reduceIte, Nat.reduceEqDiff, ne_eq, not_false_eq_true]) <;> (omega)), (by intro c k0; simp only [em15, em10, upc, upn, k0, reduceIte, Nat.reduceEqDiff, ne_eq, not_false_eq_true]), (by intro i k0 k1; simp only [em15, em10, upc, upn, k0, k1, reduceIte, Nat.reduceEqDiff, ne_eq, not_false_eq_true])⟩)⟩
  · exact Z_vret hk hA hQ dX9_fail_7 ⟨rfl, rfl, rfl, (by exact ⟨(by (omega)), (by intro c k0; rfl), (by intro i k0 k1; rfl)⟩)⟩
set_option maxRecDepth 10000 in
theorem c_X9_look (l : Launch) (δ : Dp) (ad : Nat → Nat) (M : Mem) (hA : okA δ ad) (q0 : 0 ≤ (M 48 2) ∧ (M 48 2) ≤ (M 48 3) ∧ (M 48 3) ≤ 700) : Mi l δ yX9_look cX9_look 1 (some (.int)) 0 0 ad rs [.ref (ad 48)] M (fun r M' => (-2147483648 ≤ r ∧ r ≤ 2147483647 ∧ (M 48 2) ≤ (M' 48 2) ∧ (M' 48 2) ≤ (M 48 3) ∧ (((M' 48 2) = (M 48 3) ∧ r = -1) ∨ ((M' 48 2) < (M 48 3) ∧ r = M 49 ((M' 48 2)).toNat ∧ r ≠ 10 ∧ r ≠ 32))) ∧ (∀ c : Nat, c ≠ 48 → M' c = M c) ∧ (∀ i : Nat, i ≠ 2 → M' 48 i = M 48 i)) := by
  refine Mg.of (rm := rmN 0 0) (by decide) (Nat.le_of_ble_eq_true rfl) fun κ _ hk _ => ?_
  generalize hQ : Qg κ δ 121 (rmN 0 0).cells (rmN 0 0).slots _ = Q
  show Zj κ δ ad rs Q 1 (121, 0, 0) 0 [some (.ref (ad 48))] [] M
  have J0 : ∀ (n : Nat) (m0 : Mem), (((M 48 2) ≤ (m0 48 2) ∧ (m0 48 2) ≤ (M 48 3)) ∧ (∀ c : Nat, c ≠ 48 → m0 c = M c) ∧ (∀ i : Nat, i ≠ 2 → m0 48 i = M 48 i)) → ((M 48 3) - (m0 48 2)) < (n : Int) → Zj κ δ ad rs Q 1 (121, 0, 0) 0 [some (.ref (ad 48))] [] m0 := by
    intro n
    induction n with
    | zero => intro m0 h0 hm0; exfalso; obtain ⟨h0, -⟩ := h0; omega
    | succ n ih0 =>
      intro m0 h0 hm0
      obtain ⟨h0, f0_0, f0_1⟩ := h0
      try simp only [f0_0, f0_1, and_true, true_and, or_true, true_or, implies_true, upn, reduceIte, Nat.reduceEqDiff, ne_eq, not_false_eq_true] at h0 hm0
      refine Z_aload0 hk dX9_look_0 ?_
      refine Z_getI hk fl_9_251 dX9_look_1 ob_48.1 ob_48.2.1 ob_48.2.2.1 ob_48.2.2.2 ft_9_2 (fun v1 e1 a1 b1 => ?_)
      try simp only [f0_0, f0_1, and_true, true_and, or_true, true_or, implies_true, upn, reduceIte, Nat.reduceEqDiff, ne_eq, not_false_eq_true] at e1
      refine Z_aload0 hk dX9_look_4 ?_
      refine Z_getI hk fl_9_254 dX9_look_5 ob_48.1 ob_48.2.1 ob_48.2.2.1 ob_48.2.2.2 ft_9_3 (fun v5 e5 a5 b5 => ?_)
      try simp only [f0_0, f0_1, e1, and_true, true_and, or_true, true_or, implies_true, upn, reduceIte, Nat.reduceEqDiff, ne_eq, not_false_eq_true] at e5
      have J52 : ∀ (_ : Unit), ((m0 48 3) ≤ (m0 48 2) ∨ ((m0 48 2) < (m0 48 3) ∧ m0 49 ((m0 48 2)).toNat ≠ 10 ∧ m0 49 ((m0 48 2)).toNat ≠ 32)) → Zj κ δ ad rs Q 1 (121, 0, 0) 52 [some (.ref (ad 48))] [] m0 := by
        intro _ h52
        try simp only [f0_0, f0_1, and_true, true_and, or_true, true_or, implies_true, upn, reduceIte, Nat.reduceEqDiff, ne_eq, not_false_eq_true] at h52
        refine Z_aload0 hk dX9_look_52 ?_
        refine Z_getI hk fl_9_251 dX9_look_53 ob_48.1 ob_48.2.1 ob_48.2.2.1 ob_48.2.2.2 ft_9_2 (fun v53 e53 a53 b53 => ?_)
        try simp only [f0_0, f0_1, e1, e5, and_true, true_and, or_true, true_or, implies_true, upn, reduceIte, Nat.reduceEqDiff, ne_eq, not_false_eq_true] at e53
        refine Z_aload0 hk dX9_look_56 ?_
        refine Z_getI hk fl_9_254 dX9_look_57 ob_48.1 ob_48.2.1 ob_48.2.2.1 ob_48.2.2.2 ft_9_3 (fun v57 e57 a57 b57 => ?_)
        try simp only [f0_0, f0_1, e1, e5, e53, and_true, true_and, or_true, true_or, implies_true, upn, reduceIte, Nat.reduceEqDiff, ne_eq, not_false_eq_true] at e57
        refine Z_icmp_ge hk (tgt := 75) dX9_look_60 (by decide) (by omega) (by omega) (by omega) (by omega) (fun h60 => ?_) (fun h60 => ?_)
        · refine Z_iconst hk dX9_look_75 ?_
          exact Z_iret hk hA hQ dX9_look_76 ⟨rfl, rfl, _, rfl, (by exact ⟨(by (try simp only [f0_0, f0_1, and_true, true_and, or_true, true_or, implies_true, upn, reduceIte, Nat.reduceEqDiff, ne_eq, not_false_eq_true]) <;> (omega)), (by intro c k0; simp only [f0_0, f0_1, upc, upn, k0, reduceIte, Nat.reduceEqDiff, ne_eq, not_false_eq_true]), (by intro i k0; simp only [f0_0, f0_1, upc, upn, k0, reduceIte, Nat.reduceEqDiff, ne_eq, not_false_eq_true])⟩)⟩
        · refine Z_aload0 hk dX9_look_63 ?_
          refine Z_getR hk fl_9_7 dX9_look_64 ob_48.1 ob_48.2.1 ob_48.2.2.1 ob_48.2.2.2 ft_9_0 rs_48_0 ?_
          refine Z_aload0 hk dX9_look_67 ?_
          refine Z_getI hk fl_9_251 dX9_look_68 ob_48.1 ob_48.2.1 ob_48.2.2.1 ob_48.2.2.2 ft_9_2 (fun v68 e68 a68 b68 => ?_)
          try simp only [f0_0, f0_1, e1, e5, e53, e57, and_true, true_and, or_true, true_or, implies_true, upn, reduceIte, Nat.reduceEqDiff, ne_eq, not_false_eq_true] at e68
          refine Z_iald hk dX9_look_71 ar_49.1 ar_49.2.1 ar_49.2.2 (by omega) (by omega) (fun v71 e71 a71 b71 => ?_)
          try simp only [f0_0, f0_1, e1, e5, e53, e57, e68, and_true, true_and, or_true, true_or, implies_true, upn, reduceIte, Nat.reduceEqDiff, ne_eq, not_false_eq_true] at e71
          refine Z_goto hk (tgt := 76) dX9_look_72 (by decide) ?_
          exact Z_iret hk hA hQ dX9_look_76 ⟨rfl, rfl, _, rfl, (by exact ⟨(by (try simp only [f0_0, f0_1, and_true, true_and, or_true, true_or, implies_true, upn, reduceIte, Nat.reduceEqDiff, ne_eq, not_false_eq_true]) <;> (omega)), (by intro c k0; simp only [f0_0, f0_1, upc, upn, k0, reduceIte, Nat.reduceEqDiff, ne_eq, not_false_eq_true]), (by intro i k0; simp only [f0_0, f0_1, upc, upn, k0, reduceIte, Nat.reduceEqDiff, ne_eq, not_false_eq_true])⟩)⟩
      refine Z_icmp_ge hk (tgt := 52) dX9_look_8 (by decide) (by omega) (by omega) (by omega) (by omega) (fun h8 => ?_) (fun h8 => ?_)
      · exact J52 () (by (try simp only [f0_0, f0_1, and_true, true_and, or_true, true_or, implies_true, upn, reduceIte, Nat.reduceEqDiff, ne_eq, not_false_eq_true]) <;> (omega))
      · refine Z_aload0 hk dX9_look_11 ?_
        refine Z_getR hk fl_9_7 dX9_look_12 ob_48.1 ob_48.2.1 ob_48.2.2.1 ob_48.2.2.2 ft_9_0 rs_48_0 ?_
        refine Z_aload0 hk dX9_look_15 ?_
        refine Z_getI hk fl_9_251 dX9_look_16 ob_48.1 ob_48.2.1 ob_48.2.2.1 ob_48.2.2.2 ft_9_2 (fun v16 e16 a16 b16 => ?_)
        try simp only [f0_0, f0_1, e1, e5, and_true, true_and, or_true, true_or, implies_true, upn, reduceIte, Nat.reduceEqDiff, ne_eq, not_false_eq_true] at e16
        refine Z_iald hk dX9_look_19 ar_49.1 ar_49.2.1 ar_49.2.2 (by omega) (by omega) (fun v19 e19 a19 b19 => ?_)
        try simp only [f0_0, f0_1, e1, e5, e16, and_true, true_and, or_true, true_or, implies_true, upn, reduceIte, Nat.reduceEqDiff, ne_eq, not_false_eq_true] at e19
        refine Z_bipush hk dX9_look_20 (by decide) ?_
        have J39 : ∀ (_ : Unit), ((m0 48 2) < (m0 48 3)) → Zj κ δ ad rs Q 1 (121, 0, 0) 39 [some (.ref (ad 48))] [] m0 := by
          intro _ h39
          try simp only [f0_0, f0_1, and_true, true_and, or_true, true_or, implies_true, upn, reduceIte, Nat.reduceEqDiff, ne_eq, not_false_eq_true] at h39
          refine Z_aload0 hk dX9_look_39 ?_
          refine Z_dup1 hk rfl dX9_look_40 ?_
          refine Z_getI hk fl_9_251 dX9_look_41 ob_48.1 ob_48.2.1 ob_48.2.2.1 ob_48.2.2.2 ft_9_2 (fun v41 e41 a41 b41 => ?_)
          try simp only [f0_0, f0_1, e1, e5, e16, e19, and_true, true_and, or_true, true_or, implies_true, upn, reduceIte, Nat.reduceEqDiff, ne_eq, not_false_eq_true] at e41
          refine Z_iconst hk dX9_look_44 ?_
          refine Z_iadd hk dX9_look_45 ?_
          refine Z_putI hk hA fl_9_251 dX9_look_46 ob_48.1 ob_48.2.1 ob_48.2.2.1 ob_48.2.2.2 ft_9_2 (by omega) (by omega) ?_
          refine Z_nm (fun m46 em46 => ?_)
          refine Z_goto hk (tgt := 0) dX9_look_49 (by decide) ?_
          exact ih0 _ (by exact ⟨(by (try simp only [em46, f0_0, f0_1, and_true, true_and, or_true, true_or, implies_true, upn, reduceIte, Nat.reduceEqDiff, ne_eq, not_false_eq_true]) <;> (omega)), (by intro c k0; simp only [em46, f0_0, f0_1, upc, upn, k0, reduceIte, Nat.reduceEqDiff, ne_eq, not_false_eq_true]), (by intro i k0; simp only [em46, f0_0, f0_1, upc, upn, k0, reduceIte, Nat.reduceEqDiff, ne_eq, not_false_eq_true])⟩) (by (try simp only [em46, f0_0, f0_1, and_true, true_and, or_true, true_or, implies_true, upn, reduceIte, Nat.reduceEqDiff, ne_eq, not_false_eq_true]) <;> (omega))
        refine Z_icmp_eq hk (tgt := 39) dX9_look_22 (by decide) (by omega) (by omega) (by decide) (by decide) (fun h22 => ?_) (fun h22 => ?_)
        · exact J39 () (by (try simp only [f0_0, f0_1, and_true, true_and, or_true, true_or, implies_true, upn, reduceIte, Nat.reduceEqDiff, ne_eq, not_false_eq_true]) <;> (omega))
        · refine Z_aload0 hk dX9_look_25 ?_
          refine Z_getR hk fl_9_7 dX9_look_26 ob_48.1 ob_48.2.1 ob_48.2.2.1 ob_48.2.2.2 ft_9_0 rs_48_0 ?_
          refine Z_aload0 hk dX9_look_29 ?_
          refine Z_getI hk fl_9_251 dX9_look_30 ob_48.1 ob_48.2.1 ob_48.2.2.1 ob_48.2.2.2 ft_9_2 (fun v30 e30 a30 b30 => ?_)
          try simp only [f0_0, f0_1, e1, e5, e16, e19, and_true, true_and, or_true, true_or, implies_true, upn, reduceIte, Nat.reduceEqDiff, ne_eq, not_false_eq_true] at e30
          refine Z_iald hk dX9_look_33 ar_49.1 ar_49.2.1 ar_49.2.2 (by omega) (by omega) (fun v33 e33 a33 b33 => ?_)
          try simp only [f0_0, f0_1, e1, e5, e16, e19, e30, and_true, true_and, or_true, true_or, implies_true, upn, reduceIte, Nat.reduceEqDiff, ne_eq, not_false_eq_true] at e33
          refine Z_bipush hk dX9_look_34 (by decide) ?_
          refine Z_icmp_ne hk (tgt := 52) dX9_look_36 (by decide) (by omega) (by omega) (by decide) (by decide) (fun h36 => ?_) (fun h36 => ?_)
          · exact J52 () (by (try simp only [f0_0, f0_1, and_true, true_and, or_true, true_or, implies_true, upn, reduceIte, Nat.reduceEqDiff, ne_eq, not_false_eq_true]) <;> (omega))
          · exact J39 () (by (try simp only [f0_0, f0_1, and_true, true_and, or_true, true_or, implies_true, upn, reduceIte, Nat.reduceEqDiff, ne_eq, not_false_eq_true]) <;> (omega))
  exact J0 ((((M 48 3) - (M 48 2)) : Int).toNat + 1) _ (by exact ⟨(by (omega)), (by intro c k0; rfl), (by intro i k0; rfl)⟩) (by omega)
set_option maxRecDepth 10000 in
theorem c_X9_look_n (l : Launch) (δ : Dp) (ad : Nat → Nat) (M : Mem) (hA : okA δ ad) (q0 : 0 ≤ (M 48 2) ∧ (M 48 2) ≤ (M 48 3) ∧ (M 48 3) ≤ 700) (q1 : (M 48 2) < (M 48 3) ∧ M 49 ((M 48 2)).toNat ≠ 10 ∧ M 49 ((M 48 2)).toNat ≠ 32) : Mi l δ yX9_look cX9_look 1 (some (.int)) 0 0 ad rs [.ref (ad 48)] M (fun r M' => M = M' ∧ (r = M 49 ((M 48 2)).toNat ∧ -2147483648 ≤ r ∧ r ≤ 2147483647)) := by
  refine Mg.of (rm := rmN 0 0) (by decide) (Nat.le_of_ble_eq_true rfl) fun κ _ hk _ => ?_
  generalize hQ : Qg κ δ 121 (rmN 0 0).cells (rmN 0 0).slots _ = Q
  show Zj κ δ ad rs Q 1 (121, 0, 0) 0 [some (.ref (ad 48))] [] M
  have J0 : ∀ (n : Nat) (m0 : Mem), ((0 ≤ (M 48 2)) ∧ (∀ c : Nat, m0 c = M c)) → (0) < (n : Int) → Zj κ δ ad rs Q 1 (121, 0, 0) 0 [some (.ref (ad 48))] [] m0 := by
    intro n
    induction n with
    | zero => intro m0 h0 hm0; exfalso; obtain ⟨h0, -⟩ := h0; omega
    | succ n ih0 =>
      intro m0 h0 hm0
      obtain ⟨h0, f0_0⟩ := h0
      try simp only [f0_0, and_true, true_and, or_true, true_or, implies_true, upn, reduceIte, Nat.reduceEqDiff, ne_eq, not_false_eq_true] at h0 hm0
      refine Z_aload0 hk dX9_look_0 ?_
      refine Z_getI hk fl_9_251 dX9_look_1 ob_48.1 ob_48.2.1 ob_48.2.2.1 ob_48.2.2.2 ft_9_2 (fun v1 e1 a1 b1 => ?_)
      try simp only [f0_0, and_true, true_and, or_true, true_or, implies_true, upn, reduceIte, Nat.reduceEqDiff, ne_eq, not_false_eq_true] at e1
      refine Z_aload0 hk dX9_look_4 ?_
      refine Z_getI hk fl_9_254 dX9_look_5 ob_48.1 ob_48.2.1 ob_48.2.2.1 ob_48.2.2.2 ft_9_3 (fun v5 e5 a5 b5 => ?_)
      try simp only [f0_0, e1, and_true, true_and, or_true, true_or, implies_true, upn, reduceIte, Nat.reduceEqDiff, ne_eq, not_false_eq_true] at e5
      have J52 : ∀ (_ : Unit), (True) → Zj κ δ ad rs Q 1 (121, 0, 0) 52 [some (.ref (ad 48))] [] m0 := by
        intro _ h52
        try simp only [f0_0, and_true, true_and, or_true, true_or, implies_true, upn, reduceIte, Nat.reduceEqDiff, ne_eq, not_false_eq_true] at h52
        refine Z_aload0 hk dX9_look_52 ?_
        refine Z_getI hk fl_9_251 dX9_look_53 ob_48.1 ob_48.2.1 ob_48.2.2.1 ob_48.2.2.2 ft_9_2 (fun v53 e53 a53 b53 => ?_)
        try simp only [f0_0, e1, e5, and_true, true_and, or_true, true_or, implies_true, upn, reduceIte, Nat.reduceEqDiff, ne_eq, not_false_eq_true] at e53
        refine Z_aload0 hk dX9_look_56 ?_
        refine Z_getI hk fl_9_254 dX9_look_57 ob_48.1 ob_48.2.1 ob_48.2.2.1 ob_48.2.2.2 ft_9_3 (fun v57 e57 a57 b57 => ?_)
        try simp only [f0_0, e1, e5, e53, and_true, true_and, or_true, true_or, implies_true, upn, reduceIte, Nat.reduceEqDiff, ne_eq, not_false_eq_true] at e57
        refine Z_icmp_ge hk (tgt := 75) dX9_look_60 (by decide) (by omega) (by omega) (by omega) (by omega) (fun h60 => ?_) (fun h60 => ?_)
        · refine Z_iconst hk dX9_look_75 ?_
          exact Z_iret hk hA hQ dX9_look_76 ⟨rfl, rfl, _, rfl, (by exact ⟨(funext fun c => (f0_0 c).symm), (by (try simp only [f0_0, and_true, true_and, or_true, true_or, implies_true, upn, reduceIte, Nat.reduceEqDiff, ne_eq, not_false_eq_true]) <;> omega)⟩)⟩
        · refine Z_aload0 hk dX9_look_63 ?_
          refine Z_getR hk fl_9_7 dX9_look_64 ob_48.1 ob_48.2.1 ob_48.2.2.1 ob_48.2.2.2 ft_9_0 rs_48_0 ?_
          refine Z_aload0 hk dX9_look_67 ?_
          refine Z_getI hk fl_9_251 dX9_look_68 ob_48.1 ob_48.2.1 ob_48.2.2.1 ob_48.2.2.2 ft_9_2 (fun v68 e68 a68 b68 => ?_)
          try simp only [f0_0, e1, e5, e53, e57, and_true, true_and, or_true, true_or, implies_true, upn, reduceIte, Nat.reduceEqDiff, ne_eq, not_false_eq_true] at e68
          refine Z_iald hk dX9_look_71 ar_49.1 ar_49.2.1 ar_49.2.2 (by omega) (by omega) (fun v71 e71 a71 b71 => ?_)
          try simp only [f0_0, e1, e5, e53, e57, e68, and_true, true_and, or_true, true_or, implies_true, upn, reduceIte, Nat.reduceEqDiff, ne_eq, not_false_eq_true] at e71
          refine Z_goto hk (tgt := 76) dX9_look_72 (by decide) ?_
          exact Z_iret hk hA hQ dX9_look_76 ⟨rfl, rfl, _, rfl, (by exact ⟨(funext fun c => (f0_0 c).symm), (by (try simp only [f0_0, and_true, true_and, or_true, true_or, implies_true, upn, reduceIte, Nat.reduceEqDiff, ne_eq, not_false_eq_true]) <;> omega)⟩)⟩
      refine Z_icmp_ge hk (tgt := 52) dX9_look_8 (by decide) (by omega) (by omega) (by omega) (by omega) (fun h8 => ?_) (fun h8 => ?_)
      · exact J52 () (by trivial)
      · refine Z_aload0 hk dX9_look_11 ?_
        refine Z_getR hk fl_9_7 dX9_look_12 ob_48.1 ob_48.2.1 ob_48.2.2.1 ob_48.2.2.2 ft_9_0 rs_48_0 ?_
        refine Z_aload0 hk dX9_look_15 ?_
        refine Z_getI hk fl_9_251 dX9_look_16 ob_48.1 ob_48.2.1 ob_48.2.2.1 ob_48.2.2.2 ft_9_2 (fun v16 e16 a16 b16 => ?_)
        try simp only [f0_0, e1, e5, and_true, true_and, or_true, true_or, implies_true, upn, reduceIte, Nat.reduceEqDiff, ne_eq, not_false_eq_true] at e16
        refine Z_iald hk dX9_look_19 ar_49.1 ar_49.2.1 ar_49.2.2 (by omega) (by omega) (fun v19 e19 a19 b19 => ?_)
        try simp only [f0_0, e1, e5, e16, and_true, true_and, or_true, true_or, implies_true, upn, reduceIte, Nat.reduceEqDiff, ne_eq, not_false_eq_true] at e19
        refine Z_bipush hk dX9_look_20 (by decide) ?_
        have J39 : ∀ (_ : Unit), (False) → Zj κ δ ad rs Q 1 (121, 0, 0) 39 [some (.ref (ad 48))] [] m0 := by
          intro _ h39
          exact h39.elim
        refine Z_icmp_eq hk (tgt := 39) dX9_look_22 (by decide) (by omega) (by omega) (by decide) (by decide) (fun h22 => ?_) (fun h22 => ?_)
        · exact J39 () (by (try simp only [f0_0, and_true, true_and, or_true, true_or, implies_true, upn, reduceIte, Nat.reduceEqDiff, ne_eq, not_false_eq_true]) <;> (omega))
        · refine Z_aload0 hk dX9_look_25 ?_
          refine Z_getR hk fl_9_7 dX9_look_26 ob_48.1 ob_48.2.1 ob_48.2.2.1 ob_48.2.2.2 ft_9_0 rs_48_0 ?_
          refine Z_aload0 hk dX9_look_29 ?_
          refine Z_getI hk fl_9_251 dX9_look_30 ob_48.1 ob_48.2.1 ob_48.2.2.1 ob_48.2.2.2 ft_9_2 (fun v30 e30 a30 b30 => ?_)
          try simp only [f0_0, e1, e5, e16, e19, and_true, true_and, or_true, true_or, implies_true, upn, reduceIte, Nat.reduceEqDiff, ne_eq, not_false_eq_true] at e30
          refine Z_iald hk dX9_look_33 ar_49.1 ar_49.2.1 ar_49.2.2 (by omega) (by omega) (fun v33 e33 a33 b33 => ?_)
          try simp only [f0_0, e1, e5, e16, e19, e30, and_true, true_and, or_true, true_or, implies_true, upn, reduceIte, Nat.reduceEqDiff, ne_eq, not_false_eq_true] at e33
          refine Z_bipush hk dX9_look_34 (by decide) ?_
          refine Z_icmp_ne hk (tgt := 52) dX9_look_36 (by decide) (by omega) (by omega) (by decide) (by decide) (fun h36 => ?_) (fun h36 => ?_)
          · exact J52 () (by trivial)
          · exact J39 () (by (try simp only [f0_0, and_true, true_and, or_true, true_or, implies_true, upn, reduceIte, Nat.reduceEqDiff, ne_eq, not_false_eq_true]) <;> (omega))
  exact J0 (((0) : Int).toNat + 1) _ (by exact ⟨(by (omega)), (by intro c ; rfl)⟩) (by omega)
