theorem trn_no {l : List Nat} {j : Nat} (h : ¬ l.getD j 0 ≤ l.getD (j + 1) 0) : trn l (j + 1) = trn l j := by
  show (if l.getD j 0 ≤ l.getD (j + 1) 0 then some j else trn l j) = trn l j
  rw [if_neg h]
theorem trn_yes {l : List Nat} {j : Nat} (h : l.getD j 0 ≤ l.getD (j + 1) 0) : trn l (j + 1) = some j := by
  show (if l.getD j 0 ≤ l.getD (j + 1) 0 then some j else trn l j) = some j
  rw [if_pos h]
theorem abv_go {l : List Nat} {u j : Nat} (hj : u < j) (h : l.getD j 0 < l.getD u 0) : abv l u j = abv l u (j - 1) := by
  cases j with
  | zero => omega
  | succ j =>
    show (if u < j + 1 ∧ l.getD (j + 1) 0 < l.getD u 0 then abv l u j else j + 1) = abv l u j
    rw [if_pos ⟨hj, h⟩]
theorem abv_at {l : List Nat} {u j : Nat} (h : ¬ l.getD j 0 < l.getD u 0) : abv l u j = j := by
  cases j with
  | zero => rfl
  | succ j =>
    show (if u < j + 1 ∧ l.getD (j + 1) 0 < l.getD u 0 then abv l u j else j + 1) = j + 1
    rw [if_neg (fun z => h z.2)]
theorem abv_end {l : List Nat} {u : Nat} : abv l u u = u := abv_at (Nat.lt_irrefl _)
theorem ex_at {g R : Nat → Int} {l : List Nat} {u ab K : Nat} (hR : R K = if K = ab then g u else if K = u then g ab else g K) (h1 : g u = (l.getD u 0 : Nat)) (h2 : g ab = (l.getD ab 0 : Nat)) (h3 : g K = (l.getD K 0 : Nat)) : R K = ((if K = u then l.getD ab 0 else if K = ab then l.getD u 0 else l.getD K 0 : Nat) : Int) := by
  rw [hR]
  by_cases c1 : K = ab
  · by_cases c2 : K = u
    · rw [if_pos c1, if_pos c2, ← c1, ← c2]; exact h3
    · rw [if_pos c1, if_neg c2, if_pos c1]; exact h1
  · by_cases c2 : K = u
    · rw [if_neg c1, if_pos c2, if_pos c2]; exact h2
    · rw [if_neg c1, if_neg c2, if_neg c2, if_neg c1]; exact h3
theorem cA1_0 (g : Nat → Int) (a b p : Nat) : cA1 g 0 a b (p + 1) = cA1 g 0 a b p + (if 1 ≤ p ∧ g (p - 1) = a ∧ g p = b then 1 else 0) := by
  show cA1 g 0 a b p + (if 1 ≤ p ∧ g (5 * 0 + p - 1) = a ∧ g (5 * 0 + p) = b then 1 else 0) = _
  rw [show 5 * 0 + p = p from by omega]
set_option maxRecDepth 10000 in
theorem c_X6_exchange_f (l : Launch) (δ : Dp) (ad : Nat → Nat) (M : Mem) (hA : okA δ ad) (a : Int) (b : Int) (q0 : 0 ≤ a ∧ a < (M 32 0) ∧ 0 ≤ b ∧ b < (M 32 0)) (q1 : 2 ≤ (M 32 0) ∧ (M 32 0) ≤ 5) : Mv l δ yX6_exchange cX6_exchange 4 none 0 0 ad rs [.ref (ad 32), iv a, iv b] M (fun M' => (True) ∧ (∀ c : Nat, c ≠ 36 → M' c = M c) ∧ (∀ j : Nat, M' 36 j = if j = b.toNat then M 36 a.toNat else if j = a.toNat then M 36 b.toNat else M 36 j)) := by
  refine Mg.of (rm := rmN 0 0) (by decide) (Nat.le_of_ble_eq_true rfl) fun κ _ hk _ => ?_
  generalize hQ : Qg κ δ 121 (rmN 0 0).cells (rmN 0 0).slots _ = Q
  show Zj κ δ ad rs Q 4 (121, 0, 0) 0 [some (.ref (ad 32)), some (iv a), some (iv b), none] [] M
  refine Z_aload0 hk dX6_exchange_0 ?_
  refine Z_getR hk fl_6_21 dX6_exchange_1 ob_32.1 ob_32.2.1 ob_32.2.2.1 ob_32.2.2.2 ft_6_5 rs_32_5 ?_
  refine Z_iload1 hk dX6_exchange_4 ?_
  refine Z_iald hk dX6_exchange_5 ar_36.1 ar_36.2.1 ar_36.2.2 (by omega) (by omega) (fun v5 e5 a5 b5 => ?_)
  refine Z_istore3 hk rfl (by decide) dX6_exchange_6 ?_
  refine Z_aload0 hk dX6_exchange_7 ?_
  refine Z_getR hk fl_6_21 dX6_exchange_8 ob_32.1 ob_32.2.1 ob_32.2.2.1 ob_32.2.2.2 ft_6_5 rs_32_5 ?_
  refine Z_iload1 hk dX6_exchange_11 ?_
  refine Z_aload0 hk dX6_exchange_12 ?_
  refine Z_getR hk fl_6_21 dX6_exchange_13 ob_32.1 ob_32.2.1 ob_32.2.2.1 ob_32.2.2.2 ft_6_5 rs_32_5 ?_
  refine Z_iload2 hk dX6_exchange_16 ?_
  refine Z_iald hk dX6_exchange_17 ar_36.1 ar_36.2.1 ar_36.2.2 (by omega) (by omega) (fun v17 e17 a17 b17 => ?_)
  try simp only [e5, and_true, true_and, or_true, true_or, implies_true, upn, reduceIte, Nat.reduceEqDiff, ne_eq, not_false_eq_true, upc] at e17
  refine Z_iast hk hA dX6_exchange_18 ar_36.1 ar_36.2.1 ar_36.2.2 (by omega) (by omega) (by omega) (by omega) ?_
  refine Z_nm (fun m18 em18 => ?_)
  refine Z_aload0 hk dX6_exchange_19 ?_
  refine Z_getR hk fl_6_21 dX6_exchange_20 ob_32.1 ob_32.2.1 ob_32.2.2.1 ob_32.2.2.2 ft_6_5 rs_32_5 ?_
  refine Z_iload2 hk dX6_exchange_23 ?_
  refine Z_iload3 hk dX6_exchange_24 ?_
  refine Z_iast hk hA dX6_exchange_25 ar_36.1 ar_36.2.1 ar_36.2.2 (by omega) (by omega) (by omega) (by omega) ?_
  refine Z_nm (fun m25 em25 => ?_)
  exact Z_vret hk hA hQ dX6_exchange_26 ⟨rfl, rfl, rfl, (by exact ⟨(by (try simp only [em25, em18, and_true, true_and, or_true, true_or, implies_true, upn, reduceIte, Nat.reduceEqDiff, ne_eq, not_false_eq_true, upc]) <;> (trivial)), (by intro c k0; simp only [em25, em18, upc, upn, k0, reduceIte, Nat.reduceEqDiff, ne_eq, not_false_eq_true]), (by intro j; simp only [em25, em18, e5, e17, and_true, true_and, or_true, true_or, implies_true, upn, reduceIte, Nat.reduceEqDiff, ne_eq, not_false_eq_true, upc, upc])⟩)⟩
set_option maxRecDepth 10000 in
theorem c_X6_sumOfCounts_f (l : Launch) (δ : Dp) (ad : Nat → Nat) (M : Mem) (hA : okA δ ad) (q1 : 2 ≤ (M 32 0) ∧ (M 32 0) ≤ 5) (q2 : RW (M 32 0) (M 36)) (q3 : CB 1000 (M 34)) (q4 : CB 1000 (M 35)) : Mi l δ yX6_sumOfCounts cX6_sumOfCounts 3 (some (.int)) 0 0 ad rs [.ref (ad 32)] M (fun r M' => M = M' ∧ (0 ≤ r ∧ r ≤ 100000 ∧ r = sg (M 34) (M 35) (fun p => (M 36 p).toNat) (M 32 0).toNat)) := by
  refine Mg.of (rm := rmN 0 0) (by decide) (Nat.le_of_ble_eq_true rfl) fun κ _ hk _ => ?_
  generalize hQ : Qg κ δ 121 (rmN 0 0).cells (rmN 0 0).slots _ = Q
  show Zj κ δ ad rs Q 3 (121, 0, 0) 0 [some (.ref (ad 32)), none, none] [] M
  refine Z_iconst hk dX6_sumOfCounts_0 ?_
  refine Z_istore1 hk rfl (by decide) dX6_sumOfCounts_1 ?_
  refine Z_iconst hk dX6_sumOfCounts_2 ?_
  have J4 : ∀ (n : Nat) (x1_4 : Int) (x2_4 : Int), ((0 ≤ x2_4 ∧ x2_4 ≤ (M 32 0) ∧ 0 ≤ x1_4 ∧ x1_4 ≤ 2000 * x2_4) ∧ x1_4 = sg (M 34) (M 35) (fun p => (M 36 p).toNat) (x2_4 : Int).toNat) → ((M 32 0) - x2_4) < (n : Int) → Zj κ δ ad rs Q 3 (121, 0, 0) 4 [some (.ref (ad 32)), some (iv x1_4), some (iv x2_4)] [] M := by
    intro n
    induction n with
    | zero => intro x1_4 x2_4 h4 hm4; exfalso; obtain ⟨h4, -⟩ := h4; omega
    | succ n ih4 =>
      intro x1_4 x2_4 h4 hm4
      refine Z_iload2 hk dX6_sumOfCounts_4 ?_
      refine Z_aload0 hk dX6_sumOfCounts_5 ?_
      refine Z_getI hk fl_6_27 dX6_sumOfCounts_6 ob_32.1 ob_32.2.1 ob_32.2.2.1 ob_32.2.2.2 ft_6_0 (fun v6 e6 a6 b6 => ?_)
      refine Z_icmp_ge hk (tgt := 65) dX6_sumOfCounts_9 (by decide) (by omega) (by omega) (by omega) (by omega) (fun h9 => ?_) (fun h9 => ?_)
      · refine Z_iload1 hk dX6_sumOfCounts_65 ?_
        exact Z_iret hk hA hQ dX6_sumOfCounts_66 ⟨rfl, rfl, _, rfl, (by exact ⟨rfl, (by refine ⟨by omega, by omega, ?_⟩; rw [h4.2]; congr 1; omega)⟩)⟩
      · refine Z_iload1 hk dX6_sumOfCounts_12 ?_
        refine Z_aload0 hk dX6_sumOfCounts_13 ?_
        refine Z_getR hk fl_6_15 dX6_sumOfCounts_14 ob_32.1 ob_32.2.1 ob_32.2.2.1 ob_32.2.2.2 ft_6_3 rs_32_3 ?_
        refine Z_aload0 hk dX6_sumOfCounts_17 ?_
        refine Z_getR hk fl_6_21 dX6_sumOfCounts_18 ob_32.1 ob_32.2.1 ob_32.2.2.1 ob_32.2.2.2 ft_6_5 rs_32_5 ?_
        refine Z_iload2 hk dX6_sumOfCounts_21 ?_
        refine Z_iald hk dX6_sumOfCounts_22 ar_36.1 ar_36.2.1 ar_36.2.2 (by omega) (by omega) (fun v22 e22 a22 b22 => ?_)
        try simp only [e6, and_true, true_and, or_true, true_or, implies_true, upn, reduceIte, Nat.reduceEqDiff, ne_eq, not_false_eq_true, upc] at e22
        have g22 := q2 x2_4.toNat (by omega)
        rw [← e22] at g22
        refine Z_iconst hk dX6_sumOfCounts_23 ?_
        refine Z_imul hk dX6_sumOfCounts_24 ?_
        refine Z_iload2 hk dX6_sumOfCounts_25 ?_
        refine Z_iadd hk dX6_sumOfCounts_26 ?_
        refine Z_iald hk dX6_sumOfCounts_27 ar_34.1 ar_34.2.1 ar_34.2.2 (by omega) (by omega) (fun v27 e27 a27 b27 => ?_)
        try simp only [e6, e22, and_true, true_and, or_true, true_or, implies_true, upn, reduceIte, Nat.reduceEqDiff, ne_eq, not_false_eq_true, upc] at e27
        have g27 := q3 (v22 * 5 + x2_4).toNat (by omega)
        rw [e22, ← e27] at g27
        have i27 : (M 36 x2_4.toNat * 5 + x2_4).toNat = 5 * (M 36 x2_4.toNat).toNat + x2_4.toNat := by omega
        refine Z_iadd hk dX6_sumOfCounts_28 ?_
        refine Z_istore1 hk rfl (by decide) dX6_sumOfCounts_29 ?_
        refine Z_iload2 hk dX6_sumOfCounts_30 ?_
        have J59 : ∀ (x1_59 : Int), ((0 ≤ x1_59 ∧ x1_59 ≤ 2000 * x2_4 + 2000) ∧ x1_59 = sg (M 34) (M 35) (fun p => (M 36 p).toNat) x2_4.toNat + (M 34 (5 * (M 36 x2_4.toNat).toNat + x2_4.toNat) + (if 1 ≤ x2_4.toNat then M 35 (5 * (M 36 (x2_4.toNat - 1)).toNat + (M 36 x2_4.toNat).toNat) else 0))) → Zj κ δ ad rs Q 3 (121, 0, 0) 59 [some (.ref (ad 32)), some (iv x1_59), some (iv x2_4)] [] M := by
          intro x1_59 h59
          refine Z_iinc2 hk rfl (by decide) dX6_sumOfCounts_59 ?_
          refine Z_goto hk (tgt := 4) dX6_sumOfCounts_62 (by decide) ?_
          exact ih4 _ _ (by refine ⟨by omega, ?_⟩; rw [h59.2, show (x2_4 + 1).toNat = x2_4.toNat + 1 from by omega]; rfl) (by (omega))
        refine Z_if_le hk (tgt := 59) dX6_sumOfCounts_31 (by decide) (by omega) (by omega) (fun h31 => ?_) (fun h31 => ?_)
        · exact J59 _ (by refine ⟨by omega, ?_⟩; rw [if_neg (by omega), h4.2, e27, i27]; omega)
        · refine Z_iload1 hk dX6_sumOfCounts_34 ?_
          refine Z_aload0 hk dX6_sumOfCounts_35 ?_
          refine Z_getR hk fl_6_18 dX6_sumOfCounts_36 ob_32.1 ob_32.2.1 ob_32.2.2.1 ob_32.2.2.2 ft_6_4 rs_32_4 ?_
          refine Z_aload0 hk dX6_sumOfCounts_39 ?_
          refine Z_getR hk fl_6_21 dX6_sumOfCounts_40 ob_32.1 ob_32.2.1 ob_32.2.2.1 ob_32.2.2.2 ft_6_5 rs_32_5 ?_
          refine Z_iload2 hk dX6_sumOfCounts_43 ?_
          refine Z_iconst hk dX6_sumOfCounts_44 ?_
          refine Z_isub hk dX6_sumOfCounts_45 ?_
          refine Z_iald hk dX6_sumOfCounts_46 ar_36.1 ar_36.2.1 ar_36.2.2 (by omega) (by omega) (fun v46 e46 a46 b46 => ?_)
          try simp only [e6, e22, e27, and_true, true_and, or_true, true_or, implies_true, upn, reduceIte, Nat.reduceEqDiff, ne_eq, not_false_eq_true, upc] at e46
          have g46 := q2 (x2_4 - 1).toNat (by omega)
          rw [← e46] at g46
          refine Z_iconst hk dX6_sumOfCounts_47 ?_
          refine Z_imul hk dX6_sumOfCounts_48 ?_
          refine Z_aload0 hk dX6_sumOfCounts_49 ?_
          refine Z_getR hk fl_6_21 dX6_sumOfCounts_50 ob_32.1 ob_32.2.1 ob_32.2.2.1 ob_32.2.2.2 ft_6_5 rs_32_5 ?_
          refine Z_iload2 hk dX6_sumOfCounts_53 ?_
          refine Z_iald hk dX6_sumOfCounts_54 ar_36.1 ar_36.2.1 ar_36.2.2 (by omega) (by omega) (fun v54 e54 a54 b54 => ?_)
          try simp only [e6, e22, e27, e46, and_true, true_and, or_true, true_or, implies_true, upn, reduceIte, Nat.reduceEqDiff, ne_eq, not_false_eq_true, upc] at e54
          have g54 := q2 x2_4.toNat (by omega)
          rw [← e54] at g54
          refine Z_iadd hk dX6_sumOfCounts_55 ?_
          refine Z_iald hk dX6_sumOfCounts_56 ar_35.1 ar_35.2.1 ar_35.2.2 (by omega) (by omega) (fun v56 e56 a56 b56 => ?_)
          try simp only [e6, e22, e27, e46, e54, and_true, true_and, or_true, true_or, implies_true, upn, reduceIte, Nat.reduceEqDiff, ne_eq, not_false_eq_true, upc] at e56
          have g56 := q4 (v46 * 5 + v54).toNat (by omega)
          rw [e46, e54, ← e56] at g56
          have j56 : (x2_4 - 1).toNat = x2_4.toNat - 1 := by omega
          have i56 : (M 36 (x2_4.toNat - 1) * 5 + M 36 x2_4.toNat).toNat = 5 * (M 36 (x2_4.toNat - 1)).toNat + (M 36 x2_4.toNat).toNat := by
            rw [← j56]
            omega
          refine Z_iadd hk dX6_sumOfCounts_57 ?_
          refine Z_istore1 hk rfl (by decide) dX6_sumOfCounts_58 ?_
          exact J59 _ (by refine ⟨by omega, ?_⟩; rw [if_pos (by omega), h4.2, e27, e56, i27, j56, i56]; omega)
  refine Z_istore2 hk rfl (by decide) dX6_sumOfCounts_3 ?_
  exact J4 ((((M 32 0) - 0) : Int).toNat + 1) _ _ (by exact ⟨by omega, rfl⟩) (by omega)
set_option maxHeartbeats 1000000 in
set_option maxRecDepth 10000 in
theorem c_X6_nextRow_f (l : Launch) (δ : Dp) (ad : Nat → Nat) (M : Mem) (hA : okA δ ad) (k : Nat) (q1 : 2 ≤ (M 32 0) ∧ (M 32 0) ≤ 5) (q2 : k < (M 32 0).toNat ^ (M 32 0).toNat) (q3 : pm (M 32 0).toNat k = true) (q4 : DG (M 32 0).toNat k (M 36)) : Mi l δ yX6_nextRow cX6_nextRow 5 (some (.boolean)) 1 23 ad rs [.ref (ad 32)] M (fun r M' => (0 ≤ r ∧ r ≤ 1) ∧ (∀ c : Nat, c ≠ 36 → M' c = M c) ∧ (Imp (r = 1) (nk (M 32 0).toNat k < (M 32 0).toNat ^ (M 32 0).toNat ∧ pm (M 32 0).toNat (nk (M 32 0).toNat k) = true ∧ DG (M 32 0).toNat (nk (M 32 0).toNat k) (M' 36))) ∧ (Imp (r = 0) (nk (M 32 0).toNat k = (M 32 0).toNat ^ (M 32 0).toNat))) := by
  refine Mg.of (rm := rmN 1 23) (by decide) (Nat.le_of_ble_eq_true rfl) fun κ _ hk _ => ?_
  generalize hQ : Qg κ δ 121 (rmN 1 23).cells (rmN 1 23).slots _ = Q
  show Zj κ δ ad rs Q 5 (121, 0, 0) 0 [some (.ref (ad 32)), none, none, none, none] [] M
  have ht := t_in (t := (M 32 0).toNat) (by omega) (by omega)
  have dl : ∀ p : Nat, p < (M 32 0).toNat → M 36 p = (((dgs (M 32 0).toNat k).getD p 0 : Nat) : Int) := fun p hp => by rw [dgs_at hp]; exact q4 p hp
  have d0 : ∀ p : Nat, p < (M 32 0).toNat → 0 ≤ M 36 p ∧ M 36 p < M 32 0 := fun p hp => by rw [q4 p hp]; have := dg_lt (t := (M 32 0).toNat) (v := k) (p := p) (by omega); omega
  refine Z_aload0 hk dX6_nextRow_0 ?_
  refine Z_getI hk fl_6_27 dX6_nextRow_1 ob_32.1 ob_32.2.1 ob_32.2.2.1 ob_32.2.2.2 ft_6_0 (fun v1 e1 a1 b1 => ?_)
  refine Z_iconst hk dX6_nextRow_4 ?_
  refine Z_isub hk dX6_nextRow_5 ?_
  have J7 : ∀ (n : Nat) (x1_7 : Int), ((-1 ≤ x1_7 ∧ x1_7 ≤ (M 32 0) - 2) ∧ trn (dgs (M 32 0).toNat k) ((M 32 0).toNat - 1) = trn (dgs (M 32 0).toNat k) (x1_7 + 1 : Int).toNat) → (x1_7 + 1) < (n : Int) → Zj κ δ ad rs Q 5 (121, 0, 0) 7 [some (.ref (ad 32)), some (iv x1_7), none, none, none] [] M := by
    intro n
    induction n with
    | zero => intro x1_7 h7 hm7; exfalso; obtain ⟨h7, -⟩ := h7; omega
    | succ n ih7 =>
      intro x1_7 h7 hm7
      refine Z_iload1 hk dX6_nextRow_7 ?_
      have J34 : ∀ (_ : Unit), ((x1_7 < 0 ∧ trn (dgs (M 32 0).toNat k) ((M 32 0).toNat - 1) = none) ∨ (0 ≤ x1_7 ∧ trn (dgs (M 32 0).toNat k) ((M 32 0).toNat - 1) = some x1_7.toNat)) → Zj κ δ ad rs Q 5 (121, 0, 0) 34 [some (.ref (ad 32)), some (iv x1_7), none, none, none] [] M := by
        intro _ h34
        refine Z_iload1 hk dX6_nextRow_34 ?_
        refine Z_if_ge hk (tgt := 40) dX6_nextRow_35 (by decide) (by omega) (by omega) (fun h35 => ?_) (fun h35 => ?_)
        · have hu : trn (dgs (M 32 0).toNat k) ((M 32 0).toNat - 1) = some x1_7.toNat := by
            rcases h34 with z | z
            · omega
            · exact z.2
          refine Z_aload0 hk dX6_nextRow_40 ?_
          refine Z_getI hk fl_6_27 dX6_nextRow_41 ob_32.1 ob_32.2.1 ob_32.2.2.1 ob_32.2.2.2 ft_6_0 (fun v41 e41 a41 b41 => ?_)
          try simp only [e1, and_true, true_and, or_true, true_or, implies_true, upn, reduceIte, Nat.reduceEqDiff, ne_eq, not_false_eq_true, upc] at e41
          refine Z_iconst hk dX6_nextRow_44 ?_
          refine Z_isub hk dX6_nextRow_45 ?_
          have J47 : ∀ (n : Nat) (x2_47 : Int), ((x1_7 ≤ x2_47 ∧ x2_47 ≤ (M 32 0) - 1) ∧ abv (dgs (M 32 0).toNat k) x1_7.toNat ((M 32 0).toNat - 1) = abv (dgs (M 32 0).toNat k) x1_7.toNat (x2_47 : Int).toNat) → (x2_47 - x1_7) < (n : Int) → Zj κ δ ad rs Q 5 (121, 0, 0) 47 [some (.ref (ad 32)), some (iv x1_7), some (iv x2_47), none, none] [] M := by
            intro n
            induction n with
            | zero => intro x2_47 h47 hm47; exfalso; obtain ⟨h47, -⟩ := h47; omega
            | succ n ih47 =>
              intro x2_47 h47 hm47
              refine Z_iload2 hk dX6_nextRow_47 ?_
              refine Z_iload1 hk dX6_nextRow_48 ?_
              have J73 : ∀ (_ : Unit), (abv (dgs (M 32 0).toNat k) x1_7.toNat ((M 32 0).toNat - 1) = x2_47.toNat) → Zj κ δ ad rs Q 5 (121, 0, 0) 73 [some (.ref (ad 32)), some (iv x1_7), some (iv x2_47), none, none] [] M := by
                intro _ h73
                refine Z_aload0 hk dX6_nextRow_73 ?_
                refine Z_iload1 hk dX6_nextRow_74 ?_
                refine Z_iload2 hk dX6_nextRow_75 ?_
                refine Z_Vv hk (c_X6_exchange_f κ.2.1 δ ad _ hA x1_7 x2_47 (by (omega)) (by (omega))) ov_X6_exchange ml_X6_67 dX6_nextRow_76 rfl ⟨by decide, by decide⟩ ob_32.1 (by decide) (by decide) rfl (Nat.le_of_ble_eq_true rfl) (fun m76 p76 => ?_)
                obtain ⟨p76, f76_0, f76_1⟩ := p76
                try simp only [f76_0, f76_1, e1, e41, and_true, true_and, or_true, true_or, implies_true, upn, reduceIte, Nat.reduceEqDiff, ne_eq, not_false_eq_true, upc] at p76
                obtain ⟨Rz, hRz⟩ : ∃ R : Nat → Int, R = m76 36 := ⟨_, rfl⟩
                refine Z_aload0 hk dX6_nextRow_79 ?_
                refine Z_getI hk fl_6_27 dX6_nextRow_80 ob_32.1 ob_32.2.1 ob_32.2.2.1 ob_32.2.2.2 ft_6_0 (fun v80 e80 a80 b80 => ?_)
                try simp only [f76_0, f76_1, e1, e41, and_true, true_and, or_true, true_or, implies_true, upn, reduceIte, Nat.reduceEqDiff, ne_eq, not_false_eq_true, upc] at e80
                refine Z_iconst hk dX6_nextRow_83 ?_
                refine Z_isub hk dX6_nextRow_84 ?_
                refine Z_istore3 hk rfl (by decide) dX6_nextRow_85 ?_
                refine Z_iload1 hk dX6_nextRow_86 ?_
                refine Z_iconst hk dX6_nextRow_87 ?_
                refine Z_iadd hk dX6_nextRow_88 ?_
                have J91 : ∀ (n : Nat) (x3_91 : Int) (x4_91 : Int) (m91 : Mem), (((0 ≤ x1_7 ∧ x4_91 + x3_91 = (M 32 0) + x1_7 ∧ x1_7 + 1 ≤ x4_91 ∧ x3_91 ≤ (M 32 0) - 1 ∧ x4_91 ≤ x3_91 + 1) ∧ ∀ j : Nat, m91 36 j = if (x1_7 < (j : Int) ∧ (j : Int) < x4_91) ∨ (x3_91 < (j : Int) ∧ (j : Int) < M 32 0) then Rz (M 32 0 + x1_7 - (j : Int)).toNat else Rz j) ∧ (∀ c : Nat, c ≠ 36 → m91 c = m76 c)) → (x3_91 - x4_91 + 6) < (n : Int) → Zj κ δ ad rs Q 5 (121, 0, 0) 91 [some (.ref (ad 32)), some (iv x1_7), some (iv x2_47), some (iv x3_91), some (iv x4_91)] [] m91 := by
                  intro n
                  induction n with
                  | zero => intro x3_91 x4_91 m91 h91 hm91; exfalso; obtain ⟨h91, -⟩ := h91; obtain ⟨h91, -⟩ := h91; omega
                  | succ n ih91 =>
                    intro x3_91 x4_91 m91 h91 hm91
                    obtain ⟨h91, f91_0⟩ := h91
                    try simp only [f91_0, f76_0, f76_1, and_true, true_and, or_true, true_or, implies_true, upn, reduceIte, Nat.reduceEqDiff, ne_eq, not_false_eq_true, upc] at h91 hm91
                    refine Z_iload4 hk dX6_nextRow_91 ?_
                    refine Z_iload3 hk dX6_nextRow_93 ?_
                    refine Z_icmp_ge hk (tgt := 113) dX6_nextRow_94 (by decide) (by omega) (by omega) (by omega) (by omega) (fun h94 => ?_) (fun h94 => ?_)
                    · refine Z_iconst hk dX6_nextRow_113 ?_
                      exact Z_zret hk hA hQ dX6_nextRow_114 (by decide) (by decide) ⟨rfl, rfl, _, rfl, (by exact ⟨(by (try simp only [f91_0, f76_0, f76_1, and_true, true_and, or_true, true_or, implies_true, upn, reduceIte, Nat.reduceEqDiff, ne_eq, not_false_eq_true, upc]) <;> (omega)), (by intro c k0; simp only [f91_0, f76_0, f76_1, upc, upn, k0, reduceIte, Nat.reduceEqDiff, ne_eq, not_false_eq_true]), (by refine fun _ => ⟨(nx_some ht q2 q3 hu).1, (nx_some ht q2 q3 hu).2.1, fun p hp => ?_⟩; rw [(nx_some ht q2 q3 hu).2.2.2 p hp, h73]; have eK : m91 36 p = Rz (if p ≤ x1_7.toNat then p else (M 32 0).toNat - 1 - (p - (x1_7.toNat + 1))) := (by rw [h91.2 p]; by_cases c : p ≤ x1_7.toNat; (rw [if_pos c, if_neg (by omega)]); (rw [if_neg c]; split <;> (congr 1; omega))); rw [eK]; generalize hK : (if p ≤ x1_7.toNat then p else (M 32 0).toNat - 1 - (p - (x1_7.toNat + 1))) = K; have hKt : K < (M 32 0).toNat := (by rw [← hK]; split <;> omega); exact ex_at (g := M 36) (by rw [hRz]; exact f76_1 K) (dl _ (by omega)) (dl _ (by omega)) (dl K hKt)), (by exact fun z => absurd z (by decide))⟩)⟩
                    · refine Z_aload0 hk dX6_nextRow_97 ?_
                      refine Z_iload4 hk dX6_nextRow_98 ?_
                      refine Z_iload3 hk dX6_nextRow_100 ?_
                      refine Z_Vv hk (c_X6_exchange_f κ.2.1 δ ad _ hA x4_91 x3_91 (by (try simp only [f91_0, f76_0, f76_1, and_true, true_and, or_true, true_or, implies_true, upn, reduceIte, Nat.reduceEqDiff, ne_eq, not_false_eq_true, upc]) <;> (omega)) (by (try simp only [f91_0, f76_0, f76_1, and_true, true_and, or_true, true_or, implies_true, upn, reduceIte, Nat.reduceEqDiff, ne_eq, not_false_eq_true, upc]) <;> (omega))) ov_X6_exchange ml_X6_67 dX6_nextRow_101 rfl ⟨by decide, by decide⟩ ob_32.1 (by decide) (by decide) rfl (Nat.le_of_ble_eq_true rfl) (fun m101 p101 => ?_)
                      obtain ⟨p101, f101_0, f101_1⟩ := p101
                      try simp only [f101_0, f101_1, f91_0, f76_0, f76_1, e1, e41, e80, and_true, true_and, or_true, true_or, implies_true, upn, reduceIte, Nat.reduceEqDiff, ne_eq, not_false_eq_true, upc] at p101
                      refine Z_iinc3 hk rfl (by decide) dX6_nextRow_104 ?_
                      refine Z_iinc4 hk rfl (by decide) dX6_nextRow_107 ?_
                      refine Z_goto hk (tgt := 91) dX6_nextRow_110 (by decide) ?_
                      exact ih91 _ _ _ (by exact ⟨(by (refine ⟨by omega, fun j => ?_⟩; rw [f101_1 j]; by_cases c1 : j = x3_91.toNat; (rw [if_pos c1, h91.2 x4_91.toNat, if_neg (by omega), if_pos (by omega)]; congr 1; omega); (rw [if_neg c1]; by_cases c2 : j = x4_91.toNat; (rw [if_pos c2, h91.2 x3_91.toNat, if_neg (by omega), if_pos (by omega)]; congr 1; omega); (rw [if_neg c2, h91.2 j]; by_cases c3 : (x1_7 < (j : Int) ∧ (j : Int) < x4_91) ∨ (x3_91 < (j : Int) ∧ (j : Int) < M 32 0); (rw [if_pos c3, if_pos (by omega)]); (rw [if_neg c3, if_neg (by omega)]))))), (by intro c k0; simp only [f101_0, f101_1, f91_0, f76_0, f76_1, upc, upn, k0, reduceIte, Nat.reduceEqDiff, ne_eq, not_false_eq_true])⟩) (by (try simp only [f101_0, f101_1, f91_0, f76_0, f76_1, and_true, true_and, or_true, true_or, implies_true, upn, reduceIte, Nat.reduceEqDiff, ne_eq, not_false_eq_true, upc]) <;> (omega))
                refine Z_istore4 hk rfl (by decide) dX6_nextRow_89 ?_
                exact J91 ((((v80 - 1) - (x1_7 + 1) + 6) : Int).toNat + 1) _ _ _ (by exact ⟨(by (exact ⟨by omega, fun j => by rw [if_neg (by omega), hRz]⟩)), (by intro c k0; simp only [f76_0, f76_1, upc, upn, k0, reduceIte, Nat.reduceEqDiff, ne_eq, not_false_eq_true])⟩) (by omega)
              refine Z_icmp_le hk (tgt := 73) dX6_nextRow_49 (by decide) (by omega) (by omega) (by omega) (by omega) (fun h49 => ?_) (fun h49 => ?_)
              · exact J73 () (by rw [h47.2, show x2_47.toNat = x1_7.toNat from by omega]; exact abv_end)
              · refine Z_aload0 hk dX6_nextRow_52 ?_
                refine Z_getR hk fl_6_21 dX6_nextRow_53 ob_32.1 ob_32.2.1 ob_32.2.2.1 ob_32.2.2.2 ft_6_5 rs_32_5 ?_
                refine Z_iload2 hk dX6_nextRow_56 ?_
                refine Z_iald hk dX6_nextRow_57 ar_36.1 ar_36.2.1 ar_36.2.2 (by omega) (by omega) (fun v57 e57 a57 b57 => ?_)
                try simp only [e1, e41, and_true, true_and, or_true, true_or, implies_true, upn, reduceIte, Nat.reduceEqDiff, ne_eq, not_false_eq_true, upc] at e57
                have g57 := d0 x2_47.toNat (by omega)
                refine Z_aload0 hk dX6_nextRow_58 ?_
                refine Z_getR hk fl_6_21 dX6_nextRow_59 ob_32.1 ob_32.2.1 ob_32.2.2.1 ob_32.2.2.2 ft_6_5 rs_32_5 ?_
                refine Z_iload1 hk dX6_nextRow_62 ?_
                refine Z_iald hk dX6_nextRow_63 ar_36.1 ar_36.2.1 ar_36.2.2 (by omega) (by omega) (fun v63 e63 a63 b63 => ?_)
                try simp only [e1, e41, e57, and_true, true_and, or_true, true_or, implies_true, upn, reduceIte, Nat.reduceEqDiff, ne_eq, not_false_eq_true, upc] at e63
                have g63 := d0 x1_7.toNat (by omega)
                refine Z_icmp_ge hk (tgt := 73) dX6_nextRow_64 (by decide) (by omega) (by omega) (by omega) (by omega) (fun h64 => ?_) (fun h64 => ?_)
                · exact J73 () (by rw [h47.2]; exact abv_at (by have z1 := dl x1_7.toNat (by omega); have z2 := dl x2_47.toNat (by omega); omega))
                · refine Z_iinc2 hk rfl (by decide) dX6_nextRow_67 ?_
                  refine Z_goto hk (tgt := 47) dX6_nextRow_70 (by decide) ?_
                  exact ih47 _ (by refine ⟨by omega, ?_⟩; rw [h47.2, abv_go (l := (dgs (M 32 0).toNat k)) (u := x1_7.toNat) (j := x2_47.toNat) (by omega) (by have z1 := dl x1_7.toNat (by omega); have z2 := dl x2_47.toNat (by omega); omega)]; congr 1; omega) (by (omega))
          refine Z_istore2 hk rfl (by decide) dX6_nextRow_46 ?_
          exact J47 ((((v41 - 1) - x1_7) : Int).toNat + 1) _ (by refine ⟨by omega, ?_⟩; congr 1; omega) (by omega)
        · refine Z_iconst hk dX6_nextRow_38 ?_
          exact Z_zret hk hA hQ dX6_nextRow_39 (by decide) (by decide) ⟨rfl, rfl, _, rfl, (by exact ⟨(by (omega)), (by intro c k0; rfl), (by exact fun z => absurd z (by decide)), (by exact fun _ => nx_none ht q2 q3 (by rcases h34 with z | z; (exact z.2); omega))⟩)⟩
      refine Z_if_lt hk (tgt := 34) dX6_nextRow_8 (by decide) (by omega) (by omega) (fun h8 => ?_) (fun h8 => ?_)
      · exact J34 () (by left; exact ⟨by omega, by rw [h7.2, show (x1_7 + 1).toNat = 0 from by omega]; rfl⟩)
      · refine Z_aload0 hk dX6_nextRow_11 ?_
        refine Z_getR hk fl_6_21 dX6_nextRow_12 ob_32.1 ob_32.2.1 ob_32.2.2.1 ob_32.2.2.2 ft_6_5 rs_32_5 ?_
        refine Z_iload1 hk dX6_nextRow_15 ?_
        refine Z_iald hk dX6_nextRow_16 ar_36.1 ar_36.2.1 ar_36.2.2 (by omega) (by omega) (fun v16 e16 a16 b16 => ?_)
        try simp only [e1, and_true, true_and, or_true, true_or, implies_true, upn, reduceIte, Nat.reduceEqDiff, ne_eq, not_false_eq_true, upc] at e16
        have g16 := d0 x1_7.toNat (by omega)
        refine Z_aload0 hk dX6_nextRow_17 ?_
        refine Z_getR hk fl_6_21 dX6_nextRow_18 ob_32.1 ob_32.2.1 ob_32.2.2.1 ob_32.2.2.2 ft_6_5 rs_32_5 ?_
        refine Z_iload1 hk dX6_nextRow_21 ?_
        refine Z_iconst hk dX6_nextRow_22 ?_
        refine Z_iadd hk dX6_nextRow_23 ?_
        refine Z_iald hk dX6_nextRow_24 ar_36.1 ar_36.2.1 ar_36.2.2 (by omega) (by omega) (fun v24 e24 a24 b24 => ?_)
        try simp only [e1, e16, and_true, true_and, or_true, true_or, implies_true, upn, reduceIte, Nat.reduceEqDiff, ne_eq, not_false_eq_true, upc] at e24
        rw [show (x1_7 + 1).toNat = x1_7.toNat + 1 from by omega] at e24
        have g24 := d0 (x1_7.toNat + 1) (by omega)
        refine Z_icmp_le hk (tgt := 34) dX6_nextRow_25 (by decide) (by omega) (by omega) (by omega) (by omega) (fun h25 => ?_) (fun h25 => ?_)
        · exact J34 () (by right; exact ⟨by omega, by rw [h7.2, show (x1_7 + 1).toNat = x1_7.toNat + 1 from by omega]; exact trn_yes (by have z1 := dl x1_7.toNat (by omega); have z2 := dl (x1_7.toNat + 1) (by omega); omega)⟩)
        · refine Z_iinc1 hk rfl (by decide) dX6_nextRow_28 ?_
          refine Z_goto hk (tgt := 7) dX6_nextRow_31 (by decide) ?_
          exact ih7 _ (by refine ⟨by omega, ?_⟩; rw [h7.2, show (x1_7 + 1).toNat = x1_7.toNat + 1 from by omega, trn_no (l := (dgs (M 32 0).toNat k)) (j := x1_7.toNat) (by have z1 := dl x1_7.toNat (by omega); have z2 := dl (x1_7.toNat + 1) (by omega); omega)]; congr 1; omega) (by (omega))
  refine Z_istore1 hk rfl (by decide) dX6_nextRow_6 ?_
  exact J7 ((((v1 - 2) + 1) : Int).toNat + 1) _ (by refine ⟨by omega, ?_⟩; congr 1; omega) (by omega)
set_option maxHeartbeats 1000000 in
set_option maxRecDepth 10000 in
theorem c_X6_findBest_f (l : Launch) (δ : Dp) (ad : Nat → Nat) (M : Mem) (hA : okA δ ad) (hz : NS δ) (q1 : 2 ≤ (M 32 0) ∧ (M 32 0) ≤ 5) (q3 : CB 1000 (M 34)) (q4 : CB 1000 (M 35)) : Mv l δ yX6_findBest cX6_findBest 5 none 2 47 ad rs [.ref (ad 32)] M (fun M' => (True) ∧ (∀ c : Nat, c ≠ 36 → c ≠ 37 → M' c = M c) ∧ (∃ k, BB (fun k => sg (M 34) (M 35) (dg (M 32 0).toNat k) (M 32 0).toNat) (M 32 0).toNat ((M 32 0).toNat ^ (M 32 0).toNat) k ∧ DG (M 32 0).toNat k (M' 37))) := by
  refine Mg.of (rm := rmN 2 47) (by decide) (Nat.le_of_ble_eq_true rfl) fun κ _ hk _ => ?_
  generalize hQ : Qg κ δ 121 (rmN 2 47).cells (rmN 2 47).slots _ = Q
  show Zj κ δ ad rs Q 5 (121, 0, 0) 0 [some (.ref (ad 32)), none, none, none, none] [] M
  have ht := t_in (t := (M 32 0).toNat) (by omega) (by omega)
  refine Z_iconst hk dX6_findBest_0 ?_
  have J2 : ∀ (n : Nat) (x1_2 : Int) (m2 : Mem), (((0 ≤ x1_2 ∧ x1_2 ≤ (M 32 0)) ∧ ∀ j : Nat, (j : Int) < x1_2 → m2 36 j = j) ∧ (∀ c : Nat, c ≠ 36 → m2 c = M c)) → ((M 32 0) - x1_2) < (n : Int) → Zj κ δ ad rs Q 5 (121, 0, 0) 2 [some (.ref (ad 32)), some (iv x1_2), none, none, none] [] m2 := by
    intro n
    induction n with
    | zero => intro x1_2 m2 h2 hm2; exfalso; obtain ⟨h2, -⟩ := h2; obtain ⟨h2, -⟩ := h2; omega
    | succ n ih2 =>
      intro x1_2 m2 h2 hm2
      obtain ⟨h2, f2_0⟩ := h2
      try simp only [f2_0, and_true, true_and, or_true, true_or, implies_true, upn, reduceIte, Nat.reduceEqDiff, ne_eq, not_false_eq_true, upc] at h2 hm2
      refine Z_iload1 hk dX6_findBest_2 ?_
      refine Z_aload0 hk dX6_findBest_3 ?_
      refine Z_getI hk fl_6_27 dX6_findBest_4 ob_32.1 ob_32.2.1 ob_32.2.2.1 ob_32.2.2.2 ft_6_0 (fun v4 e4 a4 b4 => ?_)
      try simp only [f2_0, and_true, true_and, or_true, true_or, implies_true, upn, reduceIte, Nat.reduceEqDiff, ne_eq, not_false_eq_true, upc] at e4
      refine Z_icmp_ge hk (tgt := 23) dX6_findBest_7 (by decide) (by omega) (by omega) (by omega) (by omega) (fun h7 => ?_) (fun h7 => ?_)
      · refine Z_ldc hk (n := 2147483647) (mem_g (by decide +kernel)) dX6_findBest_23 ?_
        refine Z_istore1 hk rfl (by decide) dX6_findBest_25 ?_
        refine Z_iconst hk dX6_findBest_26 ?_
        refine Z_istore2 hk rfl (by decide) dX6_findBest_27 ?_
        refine Z_iconst hk dX6_findBest_28 ?_
        have J30 : ∀ (n : Nat) (x1_30 : Int) (x2_30 : Int) (x3_30 : Int) (m30 : Mem), (((0 ≤ x3_30 ∧ x3_30 ≤ 120 ∧ 0 ≤ x2_30 ∧ x2_30 ≤ 1 ∧ -2147483648 ≤ x1_30 ∧ x1_30 ≤ 2147483647 ∧ (x3_30 = 0 → x1_30 = 2147483647 ∧ x2_30 = 1)) ∧ FB (fun k => sg (M 34) (M 35) (dg (M 32 0).toNat k) (M 32 0).toNat) (M 32 0).toNat (x3_30 : Int).toNat x2_30 x1_30 (m30 36) (m30 37)) ∧ (∀ c : Nat, c ≠ 36 → c ≠ 37 → m30 c = m2 c)) → (120 - x3_30) < (n : Int) → Zj κ δ ad rs Q 5 (121, 0, 0) 30 [some (.ref (ad 32)), some (iv x1_30), some (iv x2_30), some (iv x3_30), none] [] m30 := by
          intro n
          induction n with
          | zero => intro x1_30 x2_30 x3_30 m30 h30 hm30; exfalso; obtain ⟨h30, -⟩ := h30; obtain ⟨h30, -⟩ := h30; omega
          | succ n ih30 =>
            intro x1_30 x2_30 x3_30 m30 h30 hm30
            obtain ⟨h30, f30_0⟩ := h30
            try simp only [f30_0, f2_0, and_true, true_and, or_true, true_or, implies_true, upn, reduceIte, Nat.reduceEqDiff, ne_eq, not_false_eq_true, upc] at h30 hm30
            refine Z_iload3 hk dX6_findBest_30 ?_
            refine Z_bipush hk dX6_findBest_31 (by decide) ?_
            refine Z_icmp_ge hk (tgt := 80) dX6_findBest_33 (by decide) (by omega) (by omega) (by decide) (by decide) (fun h33 => ?_) (fun h33 => ?_)
            · exact Z_vret hk hA hQ dX6_findBest_80 ⟨rfl, rfl, rfl, (by exact ⟨(by (try simp only [f30_0, f2_0, and_true, true_and, or_true, true_or, implies_true, upn, reduceIte, Nat.reduceEqDiff, ne_eq, not_false_eq_true, upc]) <;> (trivial)), (by intro c k0 k1; simp only [f30_0, f2_0, upc, upn, k0, k1, reduceIte, Nat.reduceEqDiff, ne_eq, not_false_eq_true]), (by exact FB_end ht h30.2 (by omega) (by omega))⟩)⟩
            · refine Z_iload2 hk dX6_findBest_36 ?_
              refine Z_if_eq hk (tgt := 80) dX6_findBest_37 (by decide) (by omega) (by omega) (fun h37 => ?_) (fun h37 => ?_)
              · exact Z_vret hk hA hQ dX6_findBest_80 ⟨rfl, rfl, rfl, (by exact ⟨(by (try simp only [f30_0, f2_0, and_true, true_and, or_true, true_or, implies_true, upn, reduceIte, Nat.reduceEqDiff, ne_eq, not_false_eq_true, upc]) <;> (trivial)), (by intro c k0 k1; simp only [f30_0, f2_0, upc, upn, k0, k1, reduceIte, Nat.reduceEqDiff, ne_eq, not_false_eq_true]), (by exact FB_end ht h30.2 (by omega) (by omega))⟩)⟩
              · refine Z_aload0 hk dX6_findBest_40 ?_
                have hm1 : x2_30 = 1 := by omega
                have hF := h30.2
                rw [hm1] at hF
                obtain ⟨b1, b2, b3⟩ := hF.1 rfl
                refine Z_Vi hk (c_X6_sumOfCounts_f κ.2.1 δ ad _ hA  (by (try simp only [f30_0, f2_0, and_true, true_and, or_true, true_or, implies_true, upn, reduceIte, Nat.reduceEqDiff, ne_eq, not_false_eq_true, upc]) <;> (first | omega | assumption | exact q3 | exact q4)) (by (try simp only [f30_0, f2_0, and_true, true_and, or_true, true_or, implies_true, upn, reduceIte, Nat.reduceEqDiff, ne_eq, not_false_eq_true, upc]) <;> (exact fun j hj => by rw [b3 j (by omega)]; have := dg_lt (t := (M 32 0).toNat) (v := (itn (M 32 0).toNat x3_30.toNat)) (p := j) (by omega); omega)) (by (try simp only [f30_0, f2_0, and_true, true_and, or_true, true_or, implies_true, upn, reduceIte, Nat.reduceEqDiff, ne_eq, not_false_eq_true, upc]) <;> (first | omega | assumption | exact q3 | exact q4)) (by (try simp only [f30_0, f2_0, and_true, true_and, or_true, true_or, implies_true, upn, reduceIte, Nat.reduceEqDiff, ne_eq, not_false_eq_true, upc]) <;> (first | omega | assumption | exact q3 | exact q4))) ov_X6_sumOfCounts ml_X6_54 dX6_findBest_41 rfl ⟨by decide, by decide⟩ ob_32.1 (by decide) (by decide) rfl (Nat.le_of_ble_eq_true rfl) (fun r41 m41 p41 => ?_)
                obtain ⟨rfl, p41⟩ := p41
                try simp only [f30_0, f2_0, e4, and_true, true_and, or_true, true_or, implies_true, upn, reduceIte, Nat.reduceEqDiff, ne_eq, not_false_eq_true, upc] at p41
                have s41 : r41 = sg (M 34) (M 35) (dg (M 32 0).toNat (itn (M 32 0).toNat x3_30.toNat)) (M 32 0).toNat := by
                  rw [p41.2.2]
                  exact sg_congr (fun p hp => by show (m30 36 p).toNat < _; rw [b3 p hp]; exact dg_lt (by omega)) (fun p hp => by show (m30 36 p).toNat = _; rw [b3 p hp]; rfl) (fun _ _ _ _ => rfl) (fun _ _ _ _ => rfl)
                refine Z_istore4 hk rfl (by decide) dX6_findBest_44 ?_
                refine Z_iload4 hk dX6_findBest_46 ?_
                refine Z_iload1 hk dX6_findBest_48 ?_
                have J69 : ∀ (x1_69 : Int) (m69 : Mem), (((-2147483648 ≤ x1_69 ∧ x1_69 ≤ 2147483647) ∧ FC (fun k => sg (M 34) (M 35) (dg (M 32 0).toNat k) (M 32 0).toNat) (M 32 0).toNat x3_30.toNat x1_69 (m69 37)) ∧ (∀ c : Nat, c ≠ 37 → m69 c = m30 c)) → Zj κ δ ad rs Q 5 (121, 0, 0) 69 [some (.ref (ad 32)), some (iv x1_69), some (iv x2_30), some (iv x3_30), some (iv r41)] [] m69 := by
                  intro x1_69 m69 h69
                  obtain ⟨h69, f69_0⟩ := h69
                  try simp only [f69_0, f30_0, f2_0, and_true, true_and, or_true, true_or, implies_true, upn, reduceIte, Nat.reduceEqDiff, ne_eq, not_false_eq_true, upc] at h69
                  refine Z_aload0 hk dX6_findBest_69 ?_
                  refine Z_Vi hk (c_X6_nextRow_f κ.2.1 δ ad _ hA (itn (M 32 0).toNat x3_30.toNat) (by (try simp only [f69_0, f30_0, f2_0, and_true, true_and, or_true, true_or, implies_true, upn, reduceIte, Nat.reduceEqDiff, ne_eq, not_false_eq_true, upc]) <;> (first | omega | assumption | exact q3 | exact q4)) (by (try simp only [f69_0, f30_0, f2_0, and_true, true_and, or_true, true_or, implies_true, upn, reduceIte, Nat.reduceEqDiff, ne_eq, not_false_eq_true, upc]) <;> (exact b1)) (by (try simp only [f69_0, f30_0, f2_0, and_true, true_and, or_true, true_or, implies_true, upn, reduceIte, Nat.reduceEqDiff, ne_eq, not_false_eq_true, upc]) <;> (exact b2)) (by (try simp only [f69_0, f30_0, f2_0, and_true, true_and, or_true, true_or, implies_true, upn, reduceIte, Nat.reduceEqDiff, ne_eq, not_false_eq_true, upc]) <;> (exact b3))) ov_X6_nextRow ml_X6_63 dX6_findBest_70 rfl ⟨by decide, by decide⟩ ob_32.1 (by decide) (by decide) rfl (Nat.le_of_ble_eq_true rfl) (fun r70 m70 p70 => ?_)
                  obtain ⟨p70, f70_0, f70_1, f70_2⟩ := p70
                  try simp only [f70_0, f70_1, f70_2, f69_0, f30_0, f2_0, e4, and_true, true_and, or_true, true_or, implies_true, upn, reduceIte, Nat.reduceEqDiff, ne_eq, not_false_eq_true, upc] at p70
                  try simp only [f70_0, f70_2, f69_0, f30_0, f2_0, and_true, true_and, or_true, true_or, implies_true, upn, reduceIte, Nat.reduceEqDiff, ne_eq, not_false_eq_true, upc] at f70_1
                  try simp only [f70_0, f70_1, f69_0, f30_0, f2_0, and_true, true_and, or_true, true_or, implies_true, upn, reduceIte, Nat.reduceEqDiff, ne_eq, not_false_eq_true, upc] at f70_2
                  refine Z_istore2 hk rfl (by decide) dX6_findBest_73 ?_
                  refine Z_iinc3 hk rfl (by decide) dX6_findBest_74 ?_
                  refine Z_goto hk (tgt := 30) dX6_findBest_77 (by decide) ?_
                  refine Z_drop4 ?_
                  exact ih30 _ _ _ _ (by exact ⟨(by (refine ⟨by omega, ?_⟩; rw [show (x3_30 + 1).toNat = x3_30.toNat + 1 from by omega, f70_0 37 (by decide)]; exact FB_next h69.2 (nk_up ht b1 b2) (fun z => f70_1 z) (fun z => f70_2 z))), (by intro c k0 k1; simp only [f70_0, f70_1, f70_2, f69_0, f30_0, f2_0, upc, upn, k0, k1, reduceIte, Nat.reduceEqDiff, ne_eq, not_false_eq_true])⟩) (by (try simp only [f70_0, f70_1, f70_2, f69_0, f30_0, f2_0, and_true, true_and, or_true, true_or, implies_true, upn, reduceIte, Nat.reduceEqDiff, ne_eq, not_false_eq_true, upc]) <;> (omega))
                refine Z_icmp_ge hk (tgt := 69) dX6_findBest_49 (by decide) (by omega) (by omega) (by omega) (by omega) (fun h49 => ?_) (fun h49 => ?_)
                · exact J69 _ _ (by exact ⟨(by (exact ⟨by omega, FB_old h30.2 (by show x1_30 ≤ sg (M 34) (M 35) (dg (M 32 0).toNat (itn (M 32 0).toNat x3_30.toNat)) (M 32 0).toNat; omega) (by show sg (M 34) (M 35) (dg (M 32 0).toNat (itn (M 32 0).toNat x3_30.toNat)) (M 32 0).toNat < 2147483647; omega)⟩)), (by intro c k0; simp only [f30_0, f2_0, upc, upn, k0, reduceIte, Nat.reduceEqDiff, ne_eq, not_false_eq_true])⟩)
                · refine Z_iload4 hk dX6_findBest_52 ?_
                  refine Z_istore1 hk rfl (by decide) dX6_findBest_54 ?_
                  refine Z_aload0 hk dX6_findBest_55 ?_
                  refine Z_getR hk fl_6_21 dX6_findBest_56 ob_32.1 ob_32.2.1 ob_32.2.2.1 ob_32.2.2.2 ft_6_5 rs_32_5 ?_
                  refine Z_iconst hk dX6_findBest_59 ?_
                  refine Z_aload0 hk dX6_findBest_60 ?_
                  refine Z_getR hk fl_6_24 dX6_findBest_61 ob_32.1 ob_32.2.1 ob_32.2.2.1 ob_32.2.2.2 ft_6_6 rs_32_6 ?_
                  refine Z_iconst hk dX6_findBest_64 ?_
                  refine Z_iconst hk dX6_findBest_65 ?_
                  refine Z_acopy hk hA hz dX6_findBest_66 (by decide) (by decide) rfl (fun m66 f66_0 c66 => ?_)
                  exact J69 _ _ (by exact ⟨(by (exact ⟨by omega, by rw [s41]; exact FB_new hF (by show sg (M 34) (M 35) (dg (M 32 0).toNat (itn (M 32 0).toNat x3_30.toNat)) (M 32 0).toNat < x1_30; omega) (fun p hp => c66 p (by omega))⟩)), (by intro c k0; simp only [f66_0, f30_0, f2_0, upc, upn, k0, reduceIte, Nat.reduceEqDiff, ne_eq, not_false_eq_true])⟩)
        refine Z_istore3 hk rfl (by decide) dX6_findBest_29 ?_
        exact J30 (((120 - 0) : Int).toNat + 1) _ _ _ _ (by exact ⟨(by (refine ⟨by omega, ?_⟩; exact FB_start ht (fun p hp => h2.2 p (by omega)))), (by intro c k0 k1; simp only [f2_0, upc, upn, k0, k1, reduceIte, Nat.reduceEqDiff, ne_eq, not_false_eq_true])⟩) (by omega)
      · refine Z_aload0 hk dX6_findBest_10 ?_
        refine Z_getR hk fl_6_21 dX6_findBest_11 ob_32.1 ob_32.2.1 ob_32.2.2.1 ob_32.2.2.2 ft_6_5 rs_32_5 ?_
        refine Z_iload1 hk dX6_findBest_14 ?_
        refine Z_iload1 hk dX6_findBest_15 ?_
        refine Z_iast hk hA dX6_findBest_16 ar_36.1 ar_36.2.1 ar_36.2.2 (by omega) (by omega) (by omega) (by omega) ?_
        refine Z_nm (fun m16 em16 => ?_)
        refine Z_iinc1 hk rfl (by decide) dX6_findBest_17 ?_
        refine Z_goto hk (tgt := 2) dX6_findBest_20 (by decide) ?_
        exact ih2 _ _ (by exact ⟨(by (exact ⟨by omega, fun j hj => by simp only [em16, f2_0, e4, and_true, true_and, or_true, true_or, implies_true, upn, reduceIte, Nat.reduceEqDiff, ne_eq, not_false_eq_true, upc, upc]; split; omega; exact h2.2 j (by omega)⟩)), (by intro c k0; simp only [em16, f2_0, upc, upn, k0, reduceIte, Nat.reduceEqDiff, ne_eq, not_false_eq_true])⟩) (by (try simp only [em16, f2_0, and_true, true_and, or_true, true_or, implies_true, upn, reduceIte, Nat.reduceEqDiff, ne_eq, not_false_eq_true, upc]) <;> (omega))
  refine Z_istore1 hk rfl (by decide) dX6_findBest_1 ?_
  exact J2 ((((M 32 0) - 0) : Int).toNat + 1) _ _ (by exact ⟨(by (exact ⟨by omega, fun j hj => by omega⟩)), (by intro c k0; rfl)⟩) (by omega)
set_option maxHeartbeats 2000000 in
set_option maxRecDepth 10000 in
theorem c_X6_append_f37 (l : Launch) (δ : Dp) (ad : Nat → Nat) (M : Mem) (hA : okA δ ad) (q1 : 2 ≤ (M 32 0) ∧ (M 32 0) ≤ 5) (q0 : 0 ≤ (M 32 1) ∧ (M 32 1) < 30) (q2 : RW (M 32 0) (M 37)) (q3 : CB (5 * M 32 1) (M 34)) (q4 : CB (5 * M 32 1) (M 35)) : Mv l δ yX6_append cX6_append 3 none 0 0 ad rs [.ref (ad 32), .ref (ad 37)] M (fun M' => ((M' 32 1) = (M 32 1) + 1) ∧ (∀ c : Nat, c ≠ 32 → c ≠ 33 → c ≠ 34 → c ≠ 35 → M' c = M c) ∧ (∀ i : Nat, i ≠ 1 → M' 32 i = M 32 i) ∧ (CB (5 * M' 32 1) (M' 34)) ∧ (CB (5 * M' 32 1) (M' 35)) ∧ (∀ p : Nat, (p : Int) < M 32 0 → M' 33 (5 * (M 32 1).toNat + p) = M 37 p) ∧ (∀ j : Nat, j < 5 * (M 32 1).toNat → M' 33 j = M 33 j) ∧ (∀ a b : Nat, (a : Int) < M 32 0 → (b : Int) < M 32 0 → M' 34 (5 * a + b) = M 34 (5 * a + b) + if M 37 b = a then 1 else 0) ∧ (∀ a b : Nat, (a : Int) < M 32 0 → (b : Int) < M 32 0 → M' 35 (5 * a + b) = M 35 (5 * a + b) + cA1 (M 37) 0 a b (M 32 0).toNat)) := by
  refine Mg.of (rm := rmN 0 0) (by decide) (Nat.le_of_ble_eq_true rfl) fun κ _ hk _ => ?_
  generalize hQ : Qg κ δ 121 (rmN 0 0).cells (rmN 0 0).slots _ = Q
  show Zj κ δ ad rs Q 3 (121, 0, 0) 0 [some (.ref (ad 32)), some (.ref (ad 37)), none] [] M
  refine Z_aload0 hk dX6_append_0 ?_
  refine Z_getI hk fl_6_31 dX6_append_1 ob_32.1 ob_32.2.1 ob_32.2.2.1 ob_32.2.2.2 ft_6_1 (fun v1 e1 a1 b1 => ?_)
  refine Z_bipush hk dX6_append_4 (by decide) ?_
  refine Z_icmp_lt hk (tgt := 10) dX6_append_6 (by decide) (by omega) (by omega) (by decide) (by decide) (fun h6 => ?_) (fun h6 => ?_)
  · refine Z_iconst hk dX6_append_10 ?_
    have J12 : ∀ (n : Nat) (x2_12 : Int) (m12 : Mem), ((((0 ≤ x2_12 ∧ x2_12 ≤ (M 32 0)) ∧ CB (5 * M 32 1 + x2_12) (m12 34) ∧ CB (5 * M 32 1 + x2_12) (m12 35)) ∧ (∀ p : Nat, (p : Int) < x2_12 → m12 33 (5 * (M 32 1).toNat + p) = M 37 p) ∧ (∀ j : Nat, j < 5 * (M 32 1).toNat → m12 33 j = M 33 j) ∧ (∀ a b : Nat, (a : Int) < M 32 0 → (b : Int) < M 32 0 → m12 34 (5 * a + b) = M 34 (5 * a + b) + if (b : Int) < x2_12 ∧ M 37 b = a then 1 else 0) ∧ (∀ a b : Nat, (a : Int) < M 32 0 → (b : Int) < M 32 0 → m12 35 (5 * a + b) = M 35 (5 * a + b) + cA1 (M 37) 0 a b (x2_12 : Int).toNat)) ∧ (∀ c : Nat, c ≠ 33 → c ≠ 34 → c ≠ 35 → m12 c = M c)) → ((M 32 0) - x2_12) < (n : Int) → Zj κ δ ad rs Q 3 (121, 0, 0) 12 [some (.ref (ad 32)), some (.ref (ad 37)), some (iv x2_12)] [] m12 := by
      intro n
      induction n with
      | zero => intro x2_12 m12 h12 hm12; exfalso; obtain ⟨h12, -⟩ := h12; obtain ⟨⟨h12, -⟩, -⟩ := h12; omega
      | succ n ih12 =>
        intro x2_12 m12 h12 hm12
        obtain ⟨h12, f12_0⟩ := h12
        try simp only [f12_0, and_true, true_and, or_true, true_or, implies_true, upn, reduceIte, Nat.reduceEqDiff, ne_eq, not_false_eq_true, upc] at h12 hm12
        obtain ⟨⟨h12, h12b, h12c⟩, h12d, h12e, h12f, h12g⟩ := h12
        refine Z_iload2 hk dX6_append_12 ?_
        refine Z_aload0 hk dX6_append_13 ?_
        refine Z_getI hk fl_6_27 dX6_append_14 ob_32.1 ob_32.2.1 ob_32.2.2.1 ob_32.2.2.2 ft_6_0 (fun v14 e14 a14 b14 => ?_)
        try simp only [f12_0, e1, and_true, true_and, or_true, true_or, implies_true, upn, reduceIte, Nat.reduceEqDiff, ne_eq, not_false_eq_true, upc] at e14
        refine Z_icmp_ge hk (tgt := 82) dX6_append_17 (by decide) (by omega) (by omega) (by omega) (by omega) (fun h17 => ?_) (fun h17 => ?_)
        · refine Z_aload0 hk dX6_append_82 ?_
          refine Z_dup1 hk rfl dX6_append_83 ?_
          refine Z_getI hk fl_6_31 dX6_append_84 ob_32.1 ob_32.2.1 ob_32.2.2.1 ob_32.2.2.2 ft_6_1 (fun v84 e84 a84 b84 => ?_)
          try simp only [f12_0, e1, e14, and_true, true_and, or_true, true_or, implies_true, upn, reduceIte, Nat.reduceEqDiff, ne_eq, not_false_eq_true, upc] at e84
          refine Z_iconst hk dX6_append_87 ?_
          refine Z_iadd hk dX6_append_88 ?_
          refine Z_putI hk hA fl_6_31 dX6_append_89 ob_32.1 ob_32.2.1 ob_32.2.2.1 ob_32.2.2.2 ft_6_1 (by omega) (by omega) ?_
          refine Z_nm (fun m89 em89 => ?_)
          exact Z_vret hk hA hQ dX6_append_92 ⟨rfl, rfl, rfl, (by exact ⟨(by (try simp only [em89, f12_0, and_true, true_and, or_true, true_or, implies_true, upn, reduceIte, Nat.reduceEqDiff, ne_eq, not_false_eq_true, upc]) <;> (omega)), (by intro c k0 k1 k2 k3; simp only [em89, f12_0, upc, upn, k0, k1, k2, k3, reduceIte, Nat.reduceEqDiff, ne_eq, not_false_eq_true]), (by intro i k0; simp only [em89, f12_0, upc, upn, k0, reduceIte, Nat.reduceEqDiff, ne_eq, not_false_eq_true]), (by simp only [em89, f12_0, e1, e14, e84, and_true, true_and, or_true, true_or, implies_true, upn, reduceIte, Nat.reduceEqDiff, ne_eq, not_false_eq_true, upc, upc]; exact h12b.mono (by omega)), (by simp only [em89, f12_0, e1, e14, e84, and_true, true_and, or_true, true_or, implies_true, upn, reduceIte, Nat.reduceEqDiff, ne_eq, not_false_eq_true, upc, upc]; exact h12c.mono (by omega)), (by intro p hp; simp only [em89, f12_0, e1, e14, e84, and_true, true_and, or_true, true_or, implies_true, upn, reduceIte, Nat.reduceEqDiff, ne_eq, not_false_eq_true, upc, upc]; exact h12d p (by omega)), (by intro j hj; simp only [em89, f12_0, e1, e14, e84, and_true, true_and, or_true, true_or, implies_true, upn, reduceIte, Nat.reduceEqDiff, ne_eq, not_false_eq_true, upc, upc]; exact h12e j hj), (by intro a b ha hb; simp only [em89, f12_0, e1, e14, e84, and_true, true_and, or_true, true_or, implies_true, upn, reduceIte, Nat.reduceEqDiff, ne_eq, not_false_eq_true, upc, upc]; rw [h12f a b ha hb]; by_cases c : M 37 b = a; (rw [if_pos ⟨by omega, c⟩, if_pos c]); (rw [if_neg (fun z => c z.2), if_neg c])), (by intro a b ha hb; simp only [em89, f12_0, e1, e14, e84, and_true, true_and, or_true, true_or, implies_true, upn, reduceIte, Nat.reduceEqDiff, ne_eq, not_false_eq_true, upc, upc]; rw [h12g a b ha hb, show x2_12.toNat = (M 32 0).toNat from by omega])⟩)⟩
        · refine Z_aload0 hk dX6_append_20 ?_
          refine Z_getR hk fl_6_11 dX6_append_21 ob_32.1 ob_32.2.1 ob_32.2.2.1 ob_32.2.2.2 ft_6_2 rs_32_2 ?_
          refine Z_aload0 hk dX6_append_24 ?_
          refine Z_getI hk fl_6_31 dX6_append_25 ob_32.1 ob_32.2.1 ob_32.2.2.1 ob_32.2.2.2 ft_6_1 (fun v25 e25 a25 b25 => ?_)
          try simp only [f12_0, e1, e14, and_true, true_and, or_true, true_or, implies_true, upn, reduceIte, Nat.reduceEqDiff, ne_eq, not_false_eq_true, upc] at e25
          refine Z_iconst hk dX6_append_28 ?_
          refine Z_imul hk dX6_append_29 ?_
          refine Z_iload2 hk dX6_append_30 ?_
          refine Z_iadd hk dX6_append_31 ?_
          refine Z_aload1 hk dX6_append_32 ?_
          refine Z_iload2 hk dX6_append_33 ?_
          refine Z_iald hk dX6_append_34 ar_37.1 ar_37.2.1 ar_37.2.2 (by omega) (by omega) (fun v34 e34 a34 b34 => ?_)
          try simp only [f12_0, e1, e14, e25, and_true, true_and, or_true, true_or, implies_true, upn, reduceIte, Nat.reduceEqDiff, ne_eq, not_false_eq_true, upc] at e34
          have g34 := q2 x2_12.toNat (by omega)
          rw [← e34] at g34
          refine Z_iast hk hA dX6_append_35 ar_33.1 ar_33.2.1 ar_33.2.2 (by omega) (by omega) (by omega) (by omega) ?_
          refine Z_nm (fun m35 em35 => ?_)
          refine Z_aload0 hk dX6_append_36 ?_
          refine Z_getR hk fl_6_15 dX6_append_37 ob_32.1 ob_32.2.1 ob_32.2.2.1 ob_32.2.2.2 ft_6_3 rs_32_3 ?_
          refine Z_aload1 hk dX6_append_40 ?_
          refine Z_iload2 hk dX6_append_41 ?_
          refine Z_iald hk dX6_append_42 ar_37.1 ar_37.2.1 ar_37.2.2 (by omega) (by omega) (fun v42 e42 a42 b42 => ?_)
          try simp only [em35, f12_0, e1, e14, e25, e34, and_true, true_and, or_true, true_or, implies_true, upn, reduceIte, Nat.reduceEqDiff, ne_eq, not_false_eq_true, upc] at e42
          have g42 := q2 x2_12.toNat (by omega)
          rw [← e42] at g42
          refine Z_iconst hk dX6_append_43 ?_
          refine Z_imul hk dX6_append_44 ?_
          refine Z_iload2 hk dX6_append_45 ?_
          refine Z_iadd hk dX6_append_46 ?_
          refine Z_dup2 hk rfl rfl dX6_append_47 ?_
          refine Z_iald hk dX6_append_48 ar_34.1 ar_34.2.1 ar_34.2.2 (by omega) (by omega) (fun v48 e48 a48 b48 => ?_)
          try simp only [em35, f12_0, e1, e14, e25, e34, e42, and_true, true_and, or_true, true_or, implies_true, upn, reduceIte, Nat.reduceEqDiff, ne_eq, not_false_eq_true, upc] at e48
          refine Z_iconst hk dX6_append_49 ?_
          refine Z_iadd hk dX6_append_50 ?_
          refine Z_wI (fun w50 a50w b50w g50w => ?_)
          have g48 := h12b (v42 * 5 + x2_12).toNat (by omega)
          try simp only [em35, f12_0, e1, e14, e25, e34, e42, e48, and_true, true_and, or_true, true_or, implies_true, upn, reduceIte, Nat.reduceEqDiff, ne_eq, not_false_eq_true, upc, upc] at g48
          have w50e := g50w (by omega) (by omega)
          refine Z_iast hk hA dX6_append_51 ar_34.1 ar_34.2.1 ar_34.2.2 (by omega) (by omega) (by omega) (by omega) ?_
          refine Z_nm (fun m51 em51 => ?_)
          refine Z_iload2 hk dX6_append_52 ?_
          have J76 : ∀ (m76 : Mem), ((CB (5 * M 32 1 + (x2_12 + 1)) (m76 35) ∧ ∀ a b : Nat, (a : Int) < M 32 0 → (b : Int) < M 32 0 → m76 35 (5 * a + b) = M 35 (5 * a + b) + cA1 (M 37) 0 a b (x2_12 + 1 : Int).toNat) ∧ (∀ c : Nat, c ≠ 35 → m76 c = m51 c)) → Zj κ δ ad rs Q 3 (121, 0, 0) 76 [some (.ref (ad 32)), some (.ref (ad 37)), some (iv x2_12)] [] m76 := by
            intro m76 h76
            obtain ⟨h76, f76_0⟩ := h76
            try simp only [f76_0, em51, em35, f12_0, and_true, true_and, or_true, true_or, implies_true, upn, reduceIte, Nat.reduceEqDiff, ne_eq, not_false_eq_true, upc] at h76
            refine Z_iinc2 hk rfl (by decide) dX6_append_76 ?_
            refine Z_goto hk (tgt := 12) dX6_append_79 (by decide) ?_
            exact ih12 _ _ (by exact ⟨(by (refine ⟨⟨by omega, (by (try simp only [f76_0, em51, em35, f12_0, e1, e14, e25, e34, e42, e48, and_true, true_and, or_true, true_or, implies_true, upn, reduceIte, Nat.reduceEqDiff, ne_eq, not_false_eq_true, upc, upc]); rw [show 5 * M 32 1 + (x2_12 + 1) = 5 * M 32 1 + x2_12 + 1 from by omega]; exact h12b.put (by have := h12b (v42 * 5 + x2_12).toNat (by omega); (try simp only [f76_0, em51, em35, f12_0, e1, e14, e25, e34, e42, e48, and_true, true_and, or_true, true_or, implies_true, upn, reduceIte, Nat.reduceEqDiff, ne_eq, not_false_eq_true, upc, upc] at this); omega)), h76.1⟩, (fun p hp => ?_), (fun j hj => ?_), (fun a b ha hb => ?_), h76.2⟩; (simp only [f76_0, em51, em35, f12_0, e1, e14, e25, e34, e42, e48, and_true, true_and, or_true, true_or, implies_true, upn, reduceIte, Nat.reduceEqDiff, ne_eq, not_false_eq_true, upc, upc]; by_cases c : p = x2_12.toNat; (rw [if_pos (by omega), c]); (rw [if_neg (by omega)]; exact h12d p (by omega))); (simp only [f76_0, em51, em35, f12_0, e1, e14, e25, e34, e42, e48, and_true, true_and, or_true, true_or, implies_true, upn, reduceIte, Nat.reduceEqDiff, ne_eq, not_false_eq_true, upc, upc]; rw [if_neg (by omega)]; exact h12e j hj); (simp only [f76_0, em51, em35, f12_0, e1, e14, e25, e34, e42, e48, and_true, true_and, or_true, true_or, implies_true, upn, reduceIte, Nat.reduceEqDiff, ne_eq, not_false_eq_true, upc, upc]; have y := h12f a b ha hb; by_cases c : 5 * a + b = (M 37 x2_12.toNat * 5 + x2_12).toNat; (have cb : b = x2_12.toNat := (by omega); have ca : M 37 b = a := (by rw [cb]; omega); rw [if_pos c, w50e, e48, ← c, y, if_neg (fun z => by omega), if_pos ⟨by omega, ca⟩]; omega); (rw [if_neg c, y]; by_cases c2 : (b : Int) < x2_12; (by_cases c3 : M 37 b = a; (rw [if_pos ⟨c2, c3⟩, if_pos ⟨by omega, c3⟩]); (rw [if_neg (fun z => c3 z.2), if_neg (fun z => c3 z.2)])); (rw [if_neg (fun z => c2 z.1), if_neg (fun z => by have e5 : b = x2_12.toNat := (by omega); rw [e5] at z; omega)]))))), (by intro c k0 k1 k2; simp only [f76_0, em51, em35, f12_0, upc, upn, k0, k1, k2, reduceIte, Nat.reduceEqDiff, ne_eq, not_false_eq_true])⟩) (by (try simp only [f76_0, em51, em35, f12_0, and_true, true_and, or_true, true_or, implies_true, upn, reduceIte, Nat.reduceEqDiff, ne_eq, not_false_eq_true, upc]) <;> (omega))
          refine Z_if_le hk (tgt := 76) dX6_append_53 (by decide) (by omega) (by omega) (fun h53 => ?_) (fun h53 => ?_)
          · exact J76 _ (by exact ⟨(by (refine ⟨?_, fun a b ha hb => ?_⟩; (simp only [em51, em35, f12_0, e1, e14, e25, e34, e42, e48, and_true, true_and, or_true, true_or, implies_true, upn, reduceIte, Nat.reduceEqDiff, ne_eq, not_false_eq_true, upc, upc]; exact h12c.mono (by omega)); (have y := h12g a b ha hb; rw [show (x2_12 + 1).toNat = x2_12.toNat + 1 from by omega, cA1_0]; simp only [em51, em35, f12_0, e1, e14, e25, e34, e42, e48, and_true, true_and, or_true, true_or, implies_true, upn, reduceIte, Nat.reduceEqDiff, ne_eq, not_false_eq_true, upc, upc]; rw [y, if_neg (fun z => by omega)]; omega))), (by intro c k0; simp only [em51, em35, f12_0, upc, upn, k0, reduceIte, Nat.reduceEqDiff, ne_eq, not_false_eq_true])⟩)
          · refine Z_aload0 hk dX6_append_56 ?_
            refine Z_getR hk fl_6_18 dX6_append_57 ob_32.1 ob_32.2.1 ob_32.2.2.1 ob_32.2.2.2 ft_6_4 rs_32_4 ?_
            refine Z_aload1 hk dX6_append_60 ?_
            refine Z_iload2 hk dX6_append_61 ?_
            refine Z_iconst hk dX6_append_62 ?_
            refine Z_isub hk dX6_append_63 ?_
            refine Z_iald hk dX6_append_64 ar_37.1 ar_37.2.1 ar_37.2.2 (by omega) (by omega) (fun v64 e64 a64 b64 => ?_)
            try simp only [em51, em35, f12_0, e1, e14, e25, e34, e42, e48, and_true, true_and, or_true, true_or, implies_true, upn, reduceIte, Nat.reduceEqDiff, ne_eq, not_false_eq_true, upc] at e64
            have g64 := q2 (x2_12 - 1).toNat (by omega)
            rw [← e64] at g64
            refine Z_iconst hk dX6_append_65 ?_
            refine Z_imul hk dX6_append_66 ?_
            refine Z_aload1 hk dX6_append_67 ?_
            refine Z_iload2 hk dX6_append_68 ?_
            refine Z_iald hk dX6_append_69 ar_37.1 ar_37.2.1 ar_37.2.2 (by omega) (by omega) (fun v69 e69 a69 b69 => ?_)
            try simp only [em51, em35, f12_0, e1, e14, e25, e34, e42, e48, e64, and_true, true_and, or_true, true_or, implies_true, upn, reduceIte, Nat.reduceEqDiff, ne_eq, not_false_eq_true, upc] at e69
            have g69 := q2 x2_12.toNat (by omega)
            rw [← e69] at g69
            refine Z_iadd hk dX6_append_70 ?_
            refine Z_dup2 hk rfl rfl dX6_append_71 ?_
            refine Z_iald hk dX6_append_72 ar_35.1 ar_35.2.1 ar_35.2.2 (by omega) (by omega) (fun v72 e72 a72 b72 => ?_)
            try simp only [em51, em35, f12_0, e1, e14, e25, e34, e42, e48, e64, e69, and_true, true_and, or_true, true_or, implies_true, upn, reduceIte, Nat.reduceEqDiff, ne_eq, not_false_eq_true, upc] at e72
            refine Z_iconst hk dX6_append_73 ?_
            refine Z_iadd hk dX6_append_74 ?_
            refine Z_wI (fun w74 a74w b74w g74w => ?_)
            have g72 := h12c (v64 * 5 + v69).toNat (by omega)
            try simp only [em51, em35, f12_0, e1, e14, e25, e34, e42, e48, e64, e69, e72, and_true, true_and, or_true, true_or, implies_true, upn, reduceIte, Nat.reduceEqDiff, ne_eq, not_false_eq_true, upc, upc] at g72
            have w74e := g74w (by omega) (by omega)
            refine Z_iast hk hA dX6_append_75 ar_35.1 ar_35.2.1 ar_35.2.2 (by omega) (by omega) (by omega) (by omega) ?_
            refine Z_nm (fun m75 em75 => ?_)
            exact J76 _ (by exact ⟨(by (refine ⟨?_, fun a b ha hb => ?_⟩; (simp only [em75, em51, em35, f12_0, e1, e14, e25, e34, e42, e48, e64, e69, e72, and_true, true_and, or_true, true_or, implies_true, upn, reduceIte, Nat.reduceEqDiff, ne_eq, not_false_eq_true, upc, upc]; rw [show 5 * M 32 1 + (x2_12 + 1) = 5 * M 32 1 + x2_12 + 1 from by omega]; exact h12c.put (by have := h12c (v64 * 5 + v69).toNat (by omega); (try simp only [em75, em51, em35, f12_0, e1, e14, e25, e34, e42, e48, e64, e69, e72, and_true, true_and, or_true, true_or, implies_true, upn, reduceIte, Nat.reduceEqDiff, ne_eq, not_false_eq_true, upc, upc] at this); omega)); (have y := h12g a b ha hb; have j1 : (x2_12 - 1).toNat = x2_12.toNat - 1 := (by omega); rw [show (x2_12 + 1).toNat = x2_12.toNat + 1 from by omega, cA1_0]; simp only [em75, em51, em35, f12_0, e1, e14, e25, e34, e42, e48, e64, e69, e72, and_true, true_and, or_true, true_or, implies_true, upn, reduceIte, Nat.reduceEqDiff, ne_eq, not_false_eq_true, upc, upc]; by_cases c : 5 * a + b = (M 37 (x2_12 - 1).toNat * 5 + M 37 x2_12.toNat).toNat; (rw [if_pos c, w74e, e72, ← c, y, if_pos ⟨by omega, by rw [← j1]; omega, by omega⟩]; omega); (rw [if_neg c, y, if_neg (fun z => c (by rw [j1, z.2.1, z.2.2]; omega))]; omega)))), (by intro c k0; simp only [em75, em51, em35, f12_0, upc, upn, k0, reduceIte, Nat.reduceEqDiff, ne_eq, not_false_eq_true])⟩)
    refine Z_istore2 hk rfl (by decide) dX6_append_11 ?_
    exact J12 ((((M 32 0) - 0) : Int).toNat + 1) _ _ (by exact ⟨(by (exact ⟨⟨by omega, q3.mono (by omega), q4.mono (by omega)⟩, (fun p hp => by omega), (fun j _ => rfl), (fun a b ha hb => by rw [if_neg (by omega)]; omega), fun a b ha hb => by show _ = _ + 0; omega⟩)), (by intro c k0 k1 k2; rfl)⟩) (by omega)
  · exact Z_vret hk hA hQ dX6_append_9 ⟨rfl, rfl, rfl, (by exact ⟨(by (omega)), (by intro c k0 k1 k2 k3; rfl), (by intro i k0; rfl), (by exfalso; omega), (by exfalso; omega), (by exfalso; omega), (by exfalso; omega), (by exfalso; omega), (by exfalso; omega)⟩)⟩
set_option maxHeartbeats 2000000 in
set_option maxRecDepth 10000 in
theorem c_X6_append_f36 (l : Launch) (δ : Dp) (ad : Nat → Nat) (M : Mem) (hA : okA δ ad) (q1 : 2 ≤ (M 32 0) ∧ (M 32 0) ≤ 5) (q0 : 0 ≤ (M 32 1) ∧ (M 32 1) < 30) (q2 : RW (M 32 0) (M 36)) (q3 : CB (5 * M 32 1) (M 34)) (q4 : CB (5 * M 32 1) (M 35)) : Mv l δ yX6_append cX6_append 3 none 0 0 ad rs [.ref (ad 32), .ref (ad 36)] M (fun M' => ((M' 32 1) = (M 32 1) + 1) ∧ (∀ c : Nat, c ≠ 32 → c ≠ 33 → c ≠ 34 → c ≠ 35 → M' c = M c) ∧ (∀ i : Nat, i ≠ 1 → M' 32 i = M 32 i) ∧ (CB (5 * M' 32 1) (M' 34)) ∧ (CB (5 * M' 32 1) (M' 35)) ∧ (∀ p : Nat, (p : Int) < M 32 0 → M' 33 (5 * (M 32 1).toNat + p) = M 36 p) ∧ (∀ j : Nat, j < 5 * (M 32 1).toNat → M' 33 j = M 33 j) ∧ (∀ a b : Nat, (a : Int) < M 32 0 → (b : Int) < M 32 0 → M' 34 (5 * a + b) = M 34 (5 * a + b) + if M 36 b = a then 1 else 0) ∧ (∀ a b : Nat, (a : Int) < M 32 0 → (b : Int) < M 32 0 → M' 35 (5 * a + b) = M 35 (5 * a + b) + cA1 (M 36) 0 a b (M 32 0).toNat)) := by
  refine Mg.of (rm := rmN 0 0) (by decide) (Nat.le_of_ble_eq_true rfl) fun κ _ hk _ => ?_
  generalize hQ : Qg κ δ 121 (rmN 0 0).cells (rmN 0 0).slots _ = Q
  show Zj κ δ ad rs Q 3 (121, 0, 0) 0 [some (.ref (ad 32)), some (.ref (ad 36)), none] [] M
  refine Z_aload0 hk dX6_append_0 ?_
  refine Z_getI hk fl_6_31 dX6_append_1 ob_32.1 ob_32.2.1 ob_32.2.2.1 ob_32.2.2.2 ft_6_1 (fun v1 e1 a1 b1 => ?_)
  refine Z_bipush hk dX6_append_4 (by decide) ?_
  refine Z_icmp_lt hk (tgt := 10) dX6_append_6 (by decide) (by omega) (by omega) (by decide) (by decide) (fun h6 => ?_) (fun h6 => ?_)
  · refine Z_iconst hk dX6_append_10 ?_
    have J12 : ∀ (n : Nat) (x2_12 : Int) (m12 : Mem), ((((0 ≤ x2_12 ∧ x2_12 ≤ (M 32 0)) ∧ CB (5 * M 32 1 + x2_12) (m12 34) ∧ CB (5 * M 32 1 + x2_12) (m12 35)) ∧ (∀ p : Nat, (p : Int) < x2_12 → m12 33 (5 * (M 32 1).toNat + p) = M 36 p) ∧ (∀ j : Nat, j < 5 * (M 32 1).toNat → m12 33 j = M 33 j) ∧ (∀ a b : Nat, (a : Int) < M 32 0 → (b : Int) < M 32 0 → m12 34 (5 * a + b) = M 34 (5 * a + b) + if (b : Int) < x2_12 ∧ M 36 b = a then 1 else 0) ∧ (∀ a b : Nat, (a : Int) < M 32 0 → (b : Int) < M 32 0 → m12 35 (5 * a + b) = M 35 (5 * a + b) + cA1 (M 36) 0 a b (x2_12 : Int).toNat)) ∧ (∀ c : Nat, c ≠ 33 → c ≠ 34 → c ≠ 35 → m12 c = M c)) → ((M 32 0) - x2_12) < (n : Int) → Zj κ δ ad rs Q 3 (121, 0, 0) 12 [some (.ref (ad 32)), some (.ref (ad 36)), some (iv x2_12)] [] m12 := by
      intro n
      induction n with
      | zero => intro x2_12 m12 h12 hm12; exfalso; obtain ⟨h12, -⟩ := h12; obtain ⟨⟨h12, -⟩, -⟩ := h12; omega
      | succ n ih12 =>
        intro x2_12 m12 h12 hm12
        obtain ⟨h12, f12_0⟩ := h12
        try simp only [f12_0, and_true, true_and, or_true, true_or, implies_true, upn, reduceIte, Nat.reduceEqDiff, ne_eq, not_false_eq_true, upc] at h12 hm12
        obtain ⟨⟨h12, h12b, h12c⟩, h12d, h12e, h12f, h12g⟩ := h12
        refine Z_iload2 hk dX6_append_12 ?_
        refine Z_aload0 hk dX6_append_13 ?_
        refine Z_getI hk fl_6_27 dX6_append_14 ob_32.1 ob_32.2.1 ob_32.2.2.1 ob_32.2.2.2 ft_6_0 (fun v14 e14 a14 b14 => ?_)
        try simp only [f12_0, e1, and_true, true_and, or_true, true_or, implies_true, upn, reduceIte, Nat.reduceEqDiff, ne_eq, not_false_eq_true, upc] at e14
        refine Z_icmp_ge hk (tgt := 82) dX6_append_17 (by decide) (by omega) (by omega) (by omega) (by omega) (fun h17 => ?_) (fun h17 => ?_)
        · refine Z_aload0 hk dX6_append_82 ?_
          refine Z_dup1 hk rfl dX6_append_83 ?_
          refine Z_getI hk fl_6_31 dX6_append_84 ob_32.1 ob_32.2.1 ob_32.2.2.1 ob_32.2.2.2 ft_6_1 (fun v84 e84 a84 b84 => ?_)
          try simp only [f12_0, e1, e14, and_true, true_and, or_true, true_or, implies_true, upn, reduceIte, Nat.reduceEqDiff, ne_eq, not_false_eq_true, upc] at e84
          refine Z_iconst hk dX6_append_87 ?_
          refine Z_iadd hk dX6_append_88 ?_
          refine Z_putI hk hA fl_6_31 dX6_append_89 ob_32.1 ob_32.2.1 ob_32.2.2.1 ob_32.2.2.2 ft_6_1 (by omega) (by omega) ?_
          refine Z_nm (fun m89 em89 => ?_)
          exact Z_vret hk hA hQ dX6_append_92 ⟨rfl, rfl, rfl, (by exact ⟨(by (try simp only [em89, f12_0, and_true, true_and, or_true, true_or, implies_true, upn, reduceIte, Nat.reduceEqDiff, ne_eq, not_false_eq_true, upc]) <;> (omega)), (by intro c k0 k1 k2 k3; simp only [em89, f12_0, upc, upn, k0, k1, k2, k3, reduceIte, Nat.reduceEqDiff, ne_eq, not_false_eq_true]), (by intro i k0; simp only [em89, f12_0, upc, upn, k0, reduceIte, Nat.reduceEqDiff, ne_eq, not_false_eq_true]), (by simp only [em89, f12_0, e1, e14, e84, and_true, true_and, or_true, true_or, implies_true, upn, reduceIte, Nat.reduceEqDiff, ne_eq, not_false_eq_true, upc, upc]; exact h12b.mono (by omega)), (by simp only [em89, f12_0, e1, e14, e84, and_true, true_and, or_true, true_or, implies_true, upn, reduceIte, Nat.reduceEqDiff, ne_eq, not_false_eq_true, upc, upc]; exact h12c.mono (by omega)), (by intro p hp; simp only [em89, f12_0, e1, e14, e84, and_true, true_and, or_true, true_or, implies_true, upn, reduceIte, Nat.reduceEqDiff, ne_eq, not_false_eq_true, upc, upc]; exact h12d p (by omega)), (by intro j hj; simp only [em89, f12_0, e1, e14, e84, and_true, true_and, or_true, true_or, implies_true, upn, reduceIte, Nat.reduceEqDiff, ne_eq, not_false_eq_true, upc, upc]; exact h12e j hj), (by intro a b ha hb; simp only [em89, f12_0, e1, e14, e84, and_true, true_and, or_true, true_or, implies_true, upn, reduceIte, Nat.reduceEqDiff, ne_eq, not_false_eq_true, upc, upc]; rw [h12f a b ha hb]; by_cases c : M 36 b = a; (rw [if_pos ⟨by omega, c⟩, if_pos c]); (rw [if_neg (fun z => c z.2), if_neg c])), (by intro a b ha hb; simp only [em89, f12_0, e1, e14, e84, and_true, true_and, or_true, true_or, implies_true, upn, reduceIte, Nat.reduceEqDiff, ne_eq, not_false_eq_true, upc, upc]; rw [h12g a b ha hb, show x2_12.toNat = (M 32 0).toNat from by omega])⟩)⟩
        · refine Z_aload0 hk dX6_append_20 ?_
          refine Z_getR hk fl_6_11 dX6_append_21 ob_32.1 ob_32.2.1 ob_32.2.2.1 ob_32.2.2.2 ft_6_2 rs_32_2 ?_
          refine Z_aload0 hk dX6_append_24 ?_
          refine Z_getI hk fl_6_31 dX6_append_25 ob_32.1 ob_32.2.1 ob_32.2.2.1 ob_32.2.2.2 ft_6_1 (fun v25 e25 a25 b25 => ?_)
          try simp only [f12_0, e1, e14, and_true, true_and, or_true, true_or, implies_true, upn, reduceIte, Nat.reduceEqDiff, ne_eq, not_false_eq_true, upc] at e25
          refine Z_iconst hk dX6_append_28 ?_
          refine Z_imul hk dX6_append_29 ?_
          refine Z_iload2 hk dX6_append_30 ?_
          refine Z_iadd hk dX6_append_31 ?_
          refine Z_aload1 hk dX6_append_32 ?_
          refine Z_iload2 hk dX6_append_33 ?_
          refine Z_iald hk dX6_append_34 ar_36.1 ar_36.2.1 ar_36.2.2 (by omega) (by omega) (fun v34 e34 a34 b34 => ?_)
          try simp only [f12_0, e1, e14, e25, and_true, true_and, or_true, true_or, implies_true, upn, reduceIte, Nat.reduceEqDiff, ne_eq, not_false_eq_true, upc] at e34
          have g34 := q2 x2_12.toNat (by omega)
          rw [← e34] at g34
          refine Z_iast hk hA dX6_append_35 ar_33.1 ar_33.2.1 ar_33.2.2 (by omega) (by omega) (by omega) (by omega) ?_
          refine Z_nm (fun m35 em35 => ?_)
          refine Z_aload0 hk dX6_append_36 ?_
          refine Z_getR hk fl_6_15 dX6_append_37 ob_32.1 ob_32.2.1 ob_32.2.2.1 ob_32.2.2.2 ft_6_3 rs_32_3 ?_
          refine Z_aload1 hk dX6_append_40 ?_
          refine Z_iload2 hk dX6_append_41 ?_
          refine Z_iald hk dX6_append_42 ar_36.1 ar_36.2.1 ar_36.2.2 (by omega) (by omega) (fun v42 e42 a42 b42 => ?_)
          try simp only [em35, f12_0, e1, e14, e25, e34, and_true, true_and, or_true, true_or, implies_true, upn, reduceIte, Nat.reduceEqDiff, ne_eq, not_false_eq_true, upc] at e42
          have g42 := q2 x2_12.toNat (by omega)
          rw [← e42] at g42
          refine Z_iconst hk dX6_append_43 ?_
          refine Z_imul hk dX6_append_44 ?_
          refine Z_iload2 hk dX6_append_45 ?_
          refine Z_iadd hk dX6_append_46 ?_
          refine Z_dup2 hk rfl rfl dX6_append_47 ?_
          refine Z_iald hk dX6_append_48 ar_34.1 ar_34.2.1 ar_34.2.2 (by omega) (by omega) (fun v48 e48 a48 b48 => ?_)
          try simp only [em35, f12_0, e1, e14, e25, e34, e42, and_true, true_and, or_true, true_or, implies_true, upn, reduceIte, Nat.reduceEqDiff, ne_eq, not_false_eq_true, upc] at e48
          refine Z_iconst hk dX6_append_49 ?_
          refine Z_iadd hk dX6_append_50 ?_
          refine Z_wI (fun w50 a50w b50w g50w => ?_)
          have g48 := h12b (v42 * 5 + x2_12).toNat (by omega)
          try simp only [em35, f12_0, e1, e14, e25, e34, e42, e48, and_true, true_and, or_true, true_or, implies_true, upn, reduceIte, Nat.reduceEqDiff, ne_eq, not_false_eq_true, upc, upc] at g48
          have w50e := g50w (by omega) (by omega)
          refine Z_iast hk hA dX6_append_51 ar_34.1 ar_34.2.1 ar_34.2.2 (by omega) (by omega) (by omega) (by omega) ?_
          refine Z_nm (fun m51 em51 => ?_)
          refine Z_iload2 hk dX6_append_52 ?_
          have J76 : ∀ (m76 : Mem), ((CB (5 * M 32 1 + (x2_12 + 1)) (m76 35) ∧ ∀ a b : Nat, (a : Int) < M 32 0 → (b : Int) < M 32 0 → m76 35 (5 * a + b) = M 35 (5 * a + b) + cA1 (M 36) 0 a b (x2_12 + 1 : Int).toNat) ∧ (∀ c : Nat, c ≠ 35 → m76 c = m51 c)) → Zj κ δ ad rs Q 3 (121, 0, 0) 76 [some (.ref (ad 32)), some (.ref (ad 36)), some (iv x2_12)] [] m76 := by
            intro m76 h76
            obtain ⟨h76, f76_0⟩ := h76
            try simp only [f76_0, em51, em35, f12_0, and_true, true_and, or_true, true_or, implies_true, upn, reduceIte, Nat.reduceEqDiff, ne_eq, not_false_eq_true, upc] at h76
            refine Z_iinc2 hk rfl (by decide) dX6_append_76 ?_
            refine Z_goto hk (tgt := 12) dX6_append_79 (by decide) ?_
            exact ih12 _ _ (by exact ⟨(by (refine ⟨⟨by omega, (by (try simp only [f76_0, em51, em35, f12_0, e1, e14, e25, e34, e42, e48, and_true, true_and, or_true, true_or, implies_true, upn, reduceIte, Nat.reduceEqDiff, ne_eq, not_false_eq_true, upc, upc]); rw [show 5 * M 32 1 + (x2_12 + 1) = 5 * M 32 1 + x2_12 + 1 from by omega]; exact h12b.put (by have := h12b (v42 * 5 + x2_12).toNat (by omega); (try simp only [f76_0, em51, em35, f12_0, e1, e14, e25, e34, e42, e48, and_true, true_and, or_true, true_or, implies_true, upn, reduceIte, Nat.reduceEqDiff, ne_eq, not_false_eq_true, upc, upc] at this); omega)), h76.1⟩, (fun p hp => ?_), (fun j hj => ?_), (fun a b ha hb => ?_), h76.2⟩; (simp only [f76_0, em51, em35, f12_0, e1, e14, e25, e34, e42, e48, and_true, true_and, or_true, true_or, implies_true, upn, reduceIte, Nat.reduceEqDiff, ne_eq, not_false_eq_true, upc, upc]; by_cases c : p = x2_12.toNat; (rw [if_pos (by omega), c]); (rw [if_neg (by omega)]; exact h12d p (by omega))); (simp only [f76_0, em51, em35, f12_0, e1, e14, e25, e34, e42, e48, and_true, true_and, or_true, true_or, implies_true, upn, reduceIte, Nat.reduceEqDiff, ne_eq, not_false_eq_true, upc, upc]; rw [if_neg (by omega)]; exact h12e j hj); (simp only [f76_0, em51, em35, f12_0, e1, e14, e25, e34, e42, e48, and_true, true_and, or_true, true_or, implies_true, upn, reduceIte, Nat.reduceEqDiff, ne_eq, not_false_eq_true, upc, upc]; have y := h12f a b ha hb; by_cases c : 5 * a + b = (M 36 x2_12.toNat * 5 + x2_12).toNat; (have cb : b = x2_12.toNat := (by omega); have ca : M 36 b = a := (by rw [cb]; omega); rw [if_pos c, w50e, e48, ← c, y, if_neg (fun z => by omega), if_pos ⟨by omega, ca⟩]; omega); (rw [if_neg c, y]; by_cases c2 : (b : Int) < x2_12; (by_cases c3 : M 36 b = a; (rw [if_pos ⟨c2, c3⟩, if_pos ⟨by omega, c3⟩]); (rw [if_neg (fun z => c3 z.2), if_neg (fun z => c3 z.2)])); (rw [if_neg (fun z => c2 z.1), if_neg (fun z => by have e5 : b = x2_12.toNat := (by omega); rw [e5] at z; omega)]))))), (by intro c k0 k1 k2; simp only [f76_0, em51, em35, f12_0, upc, upn, k0, k1, k2, reduceIte, Nat.reduceEqDiff, ne_eq, not_false_eq_true])⟩) (by (try simp only [f76_0, em51, em35, f12_0, and_true, true_and, or_true, true_or, implies_true, upn, reduceIte, Nat.reduceEqDiff, ne_eq, not_false_eq_true, upc]) <;> (omega))
          refine Z_if_le hk (tgt := 76) dX6_append_53 (by decide) (by omega) (by omega) (fun h53 => ?_) (fun h53 => ?_)
          · exact J76 _ (by exact ⟨(by (refine ⟨?_, fun a b ha hb => ?_⟩; (simp only [em51, em35, f12_0, e1, e14, e25, e34, e42, e48, and_true, true_and, or_true, true_or, implies_true, upn, reduceIte, Nat.reduceEqDiff, ne_eq, not_false_eq_true, upc, upc]; exact h12c.mono (by omega)); (have y := h12g a b ha hb; rw [show (x2_12 + 1).toNat = x2_12.toNat + 1 from by omega, cA1_0]; simp only [em51, em35, f12_0, e1, e14, e25, e34, e42, e48, and_true, true_and, or_true, true_or, implies_true, upn, reduceIte, Nat.reduceEqDiff, ne_eq, not_false_eq_true, upc, upc]; rw [y, if_neg (fun z => by omega)]; omega))), (by intro c k0; simp only [em51, em35, f12_0, upc, upn, k0, reduceIte, Nat.reduceEqDiff, ne_eq, not_false_eq_true])⟩)
          · refine Z_aload0 hk dX6_append_56 ?_
            refine Z_getR hk fl_6_18 dX6_append_57 ob_32.1 ob_32.2.1 ob_32.2.2.1 ob_32.2.2.2 ft_6_4 rs_32_4 ?_
            refine Z_aload1 hk dX6_append_60 ?_
            refine Z_iload2 hk dX6_append_61 ?_
            refine Z_iconst hk dX6_append_62 ?_
            refine Z_isub hk dX6_append_63 ?_
            refine Z_iald hk dX6_append_64 ar_36.1 ar_36.2.1 ar_36.2.2 (by omega) (by omega) (fun v64 e64 a64 b64 => ?_)
            try simp only [em51, em35, f12_0, e1, e14, e25, e34, e42, e48, and_true, true_and, or_true, true_or, implies_true, upn, reduceIte, Nat.reduceEqDiff, ne_eq, not_false_eq_true, upc] at e64
            have g64 := q2 (x2_12 - 1).toNat (by omega)
            rw [← e64] at g64
            refine Z_iconst hk dX6_append_65 ?_
            refine Z_imul hk dX6_append_66 ?_
            refine Z_aload1 hk dX6_append_67 ?_
            refine Z_iload2 hk dX6_append_68 ?_
            refine Z_iald hk dX6_append_69 ar_36.1 ar_36.2.1 ar_36.2.2 (by omega) (by omega) (fun v69 e69 a69 b69 => ?_)
            try simp only [em51, em35, f12_0, e1, e14, e25, e34, e42, e48, e64, and_true, true_and, or_true, true_or, implies_true, upn, reduceIte, Nat.reduceEqDiff, ne_eq, not_false_eq_true, upc] at e69
            have g69 := q2 x2_12.toNat (by omega)
            rw [← e69] at g69
            refine Z_iadd hk dX6_append_70 ?_
            refine Z_dup2 hk rfl rfl dX6_append_71 ?_
            refine Z_iald hk dX6_append_72 ar_35.1 ar_35.2.1 ar_35.2.2 (by omega) (by omega) (fun v72 e72 a72 b72 => ?_)
            try simp only [em51, em35, f12_0, e1, e14, e25, e34, e42, e48, e64, e69, and_true, true_and, or_true, true_or, implies_true, upn, reduceIte, Nat.reduceEqDiff, ne_eq, not_false_eq_true, upc] at e72
            refine Z_iconst hk dX6_append_73 ?_
            refine Z_iadd hk dX6_append_74 ?_
            refine Z_wI (fun w74 a74w b74w g74w => ?_)
            have g72 := h12c (v64 * 5 + v69).toNat (by omega)
            try simp only [em51, em35, f12_0, e1, e14, e25, e34, e42, e48, e64, e69, e72, and_true, true_and, or_true, true_or, implies_true, upn, reduceIte, Nat.reduceEqDiff, ne_eq, not_false_eq_true, upc, upc] at g72
            have w74e := g74w (by omega) (by omega)
            refine Z_iast hk hA dX6_append_75 ar_35.1 ar_35.2.1 ar_35.2.2 (by omega) (by omega) (by omega) (by omega) ?_
            refine Z_nm (fun m75 em75 => ?_)
            exact J76 _ (by exact ⟨(by (refine ⟨?_, fun a b ha hb => ?_⟩; (simp only [em75, em51, em35, f12_0, e1, e14, e25, e34, e42, e48, e64, e69, e72, and_true, true_and, or_true, true_or, implies_true, upn, reduceIte, Nat.reduceEqDiff, ne_eq, not_false_eq_true, upc, upc]; rw [show 5 * M 32 1 + (x2_12 + 1) = 5 * M 32 1 + x2_12 + 1 from by omega]; exact h12c.put (by have := h12c (v64 * 5 + v69).toNat (by omega); (try simp only [em75, em51, em35, f12_0, e1, e14, e25, e34, e42, e48, e64, e69, e72, and_true, true_and, or_true, true_or, implies_true, upn, reduceIte, Nat.reduceEqDiff, ne_eq, not_false_eq_true, upc, upc] at this); omega)); (have y := h12g a b ha hb; have j1 : (x2_12 - 1).toNat = x2_12.toNat - 1 := (by omega); rw [show (x2_12 + 1).toNat = x2_12.toNat + 1 from by omega, cA1_0]; simp only [em75, em51, em35, f12_0, e1, e14, e25, e34, e42, e48, e64, e69, e72, and_true, true_and, or_true, true_or, implies_true, upn, reduceIte, Nat.reduceEqDiff, ne_eq, not_false_eq_true, upc, upc]; by_cases c : 5 * a + b = (M 36 (x2_12 - 1).toNat * 5 + M 36 x2_12.toNat).toNat; (rw [if_pos c, w74e, e72, ← c, y, if_pos ⟨by omega, by rw [← j1]; omega, by omega⟩]; omega); (rw [if_neg c, y, if_neg (fun z => c (by rw [j1, z.2.1, z.2.2]; omega))]; omega)))), (by intro c k0; simp only [em75, em51, em35, f12_0, upc, upn, k0, reduceIte, Nat.reduceEqDiff, ne_eq, not_false_eq_true])⟩)
    refine Z_istore2 hk rfl (by decide) dX6_append_11 ?_
    exact J12 ((((M 32 0) - 0) : Int).toNat + 1) _ _ (by exact ⟨(by (exact ⟨⟨by omega, q3.mono (by omega), q4.mono (by omega)⟩, (fun p hp => by omega), (fun j _ => rfl), (fun a b ha hb => by rw [if_neg (by omega)]; omega), fun a b ha hb => by show _ = _ + 0; omega⟩)), (by intro c k0 k1 k2; rfl)⟩) (by omega)
  · exact Z_vret hk hA hQ dX6_append_9 ⟨rfl, rfl, rfl, (by exact ⟨(by (omega)), (by intro c k0 k1 k2 k3; rfl), (by intro i k0; rfl), (by exfalso; omega), (by exfalso; omega), (by exfalso; omega), (by exfalso; omega), (by exfalso; omega), (by exfalso; omega)⟩)⟩
set_option maxRecDepth 10000 in
theorem c_X6_squareOfGap_f (l : Launch) (δ : Dp) (ad : Nat → Nat) (M : Mem) (hA : okA δ ad) (c : Int) : Mi l δ yX6_squareOfGap cX6_squareOfGap 3 (some (.int)) 0 0 ad rs [.ref (ad 32), iv c] M (fun r M' => M = M' ∧ (r = sq (c * M 32 0 - M 32 1))) := by
  refine Mg.of (rm := rmN 0 0) (by decide) (Nat.le_of_ble_eq_true rfl) fun κ _ hk _ => ?_
  generalize hQ : Qg κ δ 121 (rmN 0 0).cells (rmN 0 0).slots _ = Q
  show Zj κ δ ad rs Q 3 (121, 0, 0) 0 [some (.ref (ad 32)), some (iv c), none] [] M
  refine Z_iload1 hk dX6_squareOfGap_0 ?_
  refine Z_aload0 hk dX6_squareOfGap_1 ?_
  refine Z_getI hk fl_6_27 dX6_squareOfGap_2 ob_32.1 ob_32.2.1 ob_32.2.2.1 ob_32.2.2.2 ft_6_0 (fun v2 e2 a2 b2 => ?_)
  refine Z_imul hk dX6_squareOfGap_5 ?_
  refine Z_aload0 hk dX6_squareOfGap_6 ?_
  refine Z_getI hk fl_6_31 dX6_squareOfGap_7 ob_32.1 ob_32.2.1 ob_32.2.2.1 ob_32.2.2.2 ft_6_1 (fun v7 e7 a7 b7 => ?_)
  try simp only [e2, and_true, true_and, or_true, true_or, implies_true, upn, reduceIte, Nat.reduceEqDiff, ne_eq, not_false_eq_true, upc] at e7
  refine Z_isub hk dX6_squareOfGap_10 ?_
  refine Z_istore2 hk rfl (by decide) dX6_squareOfGap_11 ?_
  refine Z_iload2 hk dX6_squareOfGap_12 ?_
  refine Z_iload2 hk dX6_squareOfGap_13 ?_
  refine Z_imul hk dX6_squareOfGap_14 ?_
  exact Z_iret hk hA hQ dX6_squareOfGap_15 ⟨rfl, rfl, _, rfl, (by exact ⟨rfl, (by rw [e2, e7]; rfl)⟩)⟩
set_option maxRecDepth 10000 in
theorem c_X6_unevenness_f (l : Launch) (δ : Dp) (ad : Nat → Nat) (M : Mem) (hA : okA δ ad) (q1 : 2 ≤ (M 32 0) ∧ (M 32 0) ≤ 5) : Mi l δ yX6_unevenness cX6_unevenness 5 (some (.int)) 1 22 ad rs [.ref (ad 32)] M (fun r M' => M = M' ∧ (r = U1 (M 34) (M 35) (M 32 0) (M 32 1) (M 32 0).toNat (M 32 0).toNat)) := by
  refine Mg.of (rm := rmN 1 22) (by decide) (Nat.le_of_ble_eq_true rfl) fun κ _ hk _ => ?_
  generalize hQ : Qg κ δ 121 (rmN 1 22).cells (rmN 1 22).slots _ = Q
  show Zj κ δ ad rs Q 5 (121, 0, 0) 0 [some (.ref (ad 32)), none, none, none, none] [] M
  refine Z_iconst hk dX6_unevenness_0 ?_
  refine Z_istore1 hk rfl (by decide) dX6_unevenness_1 ?_
  refine Z_iconst hk dX6_unevenness_2 ?_
  have J4 : ∀ (n : Nat) (x1_4 : Int) (x2_4 : Int), ((0 ≤ x2_4 ∧ x2_4 ≤ (M 32 0)) ∧ x1_4 = U1 (M 34) (M 35) (M 32 0) (M 32 1) (M 32 0).toNat (x2_4 : Int).toNat) → ((M 32 0) - x2_4) < (n : Int) → Zj κ δ ad rs Q 5 (121, 0, 0) 4 [some (.ref (ad 32)), some (iv x1_4), some (iv x2_4), none, none] [] M := by
    intro n
    induction n with
    | zero => intro x1_4 x2_4 h4 hm4; exfalso; obtain ⟨h4, -⟩ := h4; omega
    | succ n ih4 =>
      intro x1_4 x2_4 h4 hm4
      refine Z_iload2 hk dX6_unevenness_4 ?_
      refine Z_aload0 hk dX6_unevenness_5 ?_
      refine Z_getI hk fl_6_27 dX6_unevenness_6 ob_32.1 ob_32.2.1 ob_32.2.2.1 ob_32.2.2.2 ft_6_0 (fun v6 e6 a6 b6 => ?_)
      refine Z_icmp_ge hk (tgt := 78) dX6_unevenness_9 (by decide) (by omega) (by omega) (by omega) (by omega) (fun h9 => ?_) (fun h9 => ?_)
      · refine Z_iload1 hk dX6_unevenness_78 ?_
        exact Z_iret hk hA hQ dX6_unevenness_79 ⟨rfl, rfl, _, rfl, (by exact ⟨rfl, (by rw [h4.2]; congr 1; omega)⟩)⟩
      · refine Z_iconst hk dX6_unevenness_12 ?_
        have J14 : ∀ (n : Nat) (x1_14 : Int) (x3_14 : Int), ((0 ≤ x3_14 ∧ x3_14 ≤ (M 32 0)) ∧ x1_14 = U1 (M 34) (M 35) (M 32 0) (M 32 1) (M 32 0).toNat x2_4.toNat + U2 (M 34) (M 35) (M 32 0) (M 32 1) x2_4.toNat (x3_14 : Int).toNat) → ((M 32 0) - x3_14) < (n : Int) → Zj κ δ ad rs Q 5 (121, 0, 0) 14 [some (.ref (ad 32)), some (iv x1_14), some (iv x2_4), some (iv x3_14), none] [] M := by
          intro n
          induction n with
          | zero => intro x1_14 x3_14 h14 hm14; exfalso; obtain ⟨h14, -⟩ := h14; omega
          | succ n ih14 =>
            intro x1_14 x3_14 h14 hm14
            refine Z_iload3 hk dX6_unevenness_14 ?_
            refine Z_aload0 hk dX6_unevenness_15 ?_
            refine Z_getI hk fl_6_27 dX6_unevenness_16 ob_32.1 ob_32.2.1 ob_32.2.2.1 ob_32.2.2.2 ft_6_0 (fun v16 e16 a16 b16 => ?_)
            try simp only [e6, and_true, true_and, or_true, true_or, implies_true, upn, reduceIte, Nat.reduceEqDiff, ne_eq, not_false_eq_true, upc] at e16
            refine Z_icmp_ge hk (tgt := 72) dX6_unevenness_19 (by decide) (by omega) (by omega) (by omega) (by omega) (fun h19 => ?_) (fun h19 => ?_)
            · refine Z_iinc2 hk rfl (by decide) dX6_unevenness_72 ?_
              refine Z_goto hk (tgt := 4) dX6_unevenness_75 (by decide) ?_
              refine Z_drop3 ?_
              exact ih4 _ _ (by refine ⟨by omega, ?_⟩; rw [h14.2, show (x2_4 + 1).toNat = x2_4.toNat + 1 from by omega, show x3_14.toNat = (M 32 0).toNat from by omega]; rfl) (by (omega))
            · refine Z_iload2 hk dX6_unevenness_22 ?_
              refine Z_iconst hk dX6_unevenness_23 ?_
              refine Z_imul hk dX6_unevenness_24 ?_
              refine Z_iload3 hk dX6_unevenness_25 ?_
              refine Z_iadd hk dX6_unevenness_26 ?_
              refine Z_istore4 hk rfl (by decide) dX6_unevenness_27 ?_
              refine Z_iload1 hk dX6_unevenness_29 ?_
              refine Z_aload0 hk dX6_unevenness_30 ?_
              refine Z_aload0 hk dX6_unevenness_31 ?_
              refine Z_getR hk fl_6_15 dX6_unevenness_32 ob_32.1 ob_32.2.1 ob_32.2.2.1 ob_32.2.2.2 ft_6_3 rs_32_3 ?_
              refine Z_iload4 hk dX6_unevenness_35 ?_
              refine Z_iald hk dX6_unevenness_37 ar_34.1 ar_34.2.1 ar_34.2.2 (by omega) (by omega) (fun v37 e37 a37 b37 => ?_)
              try simp only [e6, e16, and_true, true_and, or_true, true_or, implies_true, upn, reduceIte, Nat.reduceEqDiff, ne_eq, not_false_eq_true, upc] at e37
              have i37 : (x2_4 * 5 + x3_14).toNat = 5 * x2_4.toNat + x3_14.toNat := by omega
              refine Z_Vi hk (c_X6_squareOfGap_f κ.2.1 δ ad _ hA v37 ) ov_X6_squareOfGap ml_X6_71 dX6_unevenness_38 rfl ⟨by decide, by decide⟩ ob_32.1 (by decide) (by decide) rfl (Nat.le_of_ble_eq_true rfl) (fun r38 m38 p38 => ?_)
              obtain ⟨rfl, p38⟩ := p38
              refine Z_iadd hk dX6_unevenness_41 ?_
              refine Z_istore1 hk rfl (by decide) dX6_unevenness_42 ?_
              refine Z_iload1 hk dX6_unevenness_43 ?_
              refine Z_iload2 hk dX6_unevenness_44 ?_
              refine Z_iload3 hk dX6_unevenness_45 ?_
              have J64 : ∀ (y1_64 : Int), (y1_64 = if x2_4.toNat = x3_14.toNat then 0 else sq (M 35 (5 * x2_4.toNat + x3_14.toNat) * M 32 0 - M 32 1)) → Zj κ δ ad rs Q 5 (121, 0, 0) 64 [some (.ref (ad 32)), some (iv (x1_14 + r38)), some (iv x2_4), some (iv x3_14), some (iv ((x2_4 * 5) + x3_14))] [iv y1_64, iv (x1_14 + r38)] M := by
                intro y1_64 h64
                refine Z_iadd hk dX6_unevenness_64 ?_
                refine Z_istore1 hk rfl (by decide) dX6_unevenness_65 ?_
                refine Z_iinc3 hk rfl (by decide) dX6_unevenness_66 ?_
                refine Z_goto hk (tgt := 14) dX6_unevenness_69 (by decide) ?_
                refine Z_drop4 ?_
                exact ih14 _ _ (by refine ⟨by omega, ?_⟩; rw [h64, h14.2, p38, e37, i37, show (x3_14 + 1).toNat = x3_14.toNat + 1 from by omega]; show _ = _ + (U2 (M 34) (M 35) (M 32 0) (M 32 1) x2_4.toNat x3_14.toNat + sq (M 34 (5 * x2_4.toNat + x3_14.toNat) * M 32 0 - M 32 1) + (if x2_4.toNat = x3_14.toNat then 0 else sq (M 35 (5 * x2_4.toNat + x3_14.toNat) * M 32 0 - M 32 1))); omega) (by (omega))
              refine Z_icmp_ne hk (tgt := 53) dX6_unevenness_46 (by decide) (by omega) (by omega) (by omega) (by omega) (fun h46 => ?_) (fun h46 => ?_)
              · refine Z_aload0 hk dX6_unevenness_53 ?_
                refine Z_aload0 hk dX6_unevenness_54 ?_
                refine Z_getR hk fl_6_18 dX6_unevenness_55 ob_32.1 ob_32.2.1 ob_32.2.2.1 ob_32.2.2.2 ft_6_4 rs_32_4 ?_
                refine Z_iload4 hk dX6_unevenness_58 ?_
                refine Z_iald hk dX6_unevenness_60 ar_35.1 ar_35.2.1 ar_35.2.2 (by omega) (by omega) (fun v60 e60 a60 b60 => ?_)
                try simp only [e6, e16, e37, and_true, true_and, or_true, true_or, implies_true, upn, reduceIte, Nat.reduceEqDiff, ne_eq, not_false_eq_true, upc] at e60
                refine Z_Vi hk (c_X6_squareOfGap_f κ.2.1 δ ad _ hA v60 ) ov_X6_squareOfGap ml_X6_71 dX6_unevenness_61 rfl ⟨by decide, by decide⟩ ob_32.1 (by decide) (by decide) rfl (Nat.le_of_ble_eq_true rfl) (fun r61 m61 p61 => ?_)
                obtain ⟨rfl, p61⟩ := p61
                exact J64 _ (by rw [if_neg (by omega), p61, e60, i37])
              · refine Z_iconst hk dX6_unevenness_49 ?_
                refine Z_goto hk (tgt := 64) dX6_unevenness_50 (by decide) ?_
                exact J64 _ (by rw [if_pos (by omega)])
        refine Z_istore3 hk rfl (by decide) dX6_unevenness_13 ?_
        exact J14 ((((M 32 0) - 0) : Int).toNat + 1) _ _ (by exact ⟨by omega, by rw [h4.2]; show _ = _ + 0; omega⟩) (by omega)
  refine Z_istore2 hk rfl (by decide) dX6_unevenness_3 ?_
  exact J4 ((((M 32 0) - 0) : Int).toNat + 1) _ _ (by exact ⟨by omega, rfl⟩) (by omega)
set_option maxHeartbeats 1000000 in
set_option maxRecDepth 10000 in
theorem c_X6_lay_f (l : Launch) (δ : Dp) (ad : Nat → Nat) (M : Mem) (hA : okA δ ad) (t : Int) (nn : Int) (hz : NS δ) (q0 : 2 ≤ t ∧ t ≤ 5 ∧ 1 ≤ nn ∧ nn ≤ 30) : Mi l δ yX6_lay cX6_lay 4 (some (.int)) 3 71 ad rs [.ref (ad 32), iv t, iv nn] M (fun r M' => ((M' 32 0) = t ∧ (M' 32 1) = nn) ∧ (∀ c : Nat, c ≠ 32 → c ≠ 33 → c ≠ 34 → c ≠ 35 → c ≠ 36 → c ≠ 37 → M' c = M c) ∧ (∀ i : Nat, i ≠ 0 → i ≠ 1 → M' 32 i = M 32 i) ∧ (CB (5 * M' 32 1) (M' 34)) ∧ (CB (5 * M' 32 1) (M' 35)) ∧ (r = UN t.toNat nn.toNat (M' 33)) ∧ (LD t.toNat nn.toNat (M' 33)) ∧ (CC (M' 34) (M' 35) (M' 33) t.toNat nn.toNat)) := by
  refine Mg.of (rm := rmN 3 71) (by decide) (Nat.le_of_ble_eq_true rfl) fun κ _ hk _ => ?_
  generalize hQ : Qg κ δ 121 (rmN 3 71).cells (rmN 3 71).slots _ = Q
  show Zj κ δ ad rs Q 4 (121, 0, 0) 0 [some (.ref (ad 32)), some (iv t), some (iv nn), none] [] M
  refine Z_aload0 hk dX6_lay_0 ?_
  refine Z_iload1 hk dX6_lay_1 ?_
  refine Z_putI hk hA fl_6_27 dX6_lay_2 ob_32.1 ob_32.2.1 ob_32.2.2.1 ob_32.2.2.2 ft_6_0 (by omega) (by omega) ?_
  refine Z_nm (fun m2 em2 => ?_)
  refine Z_aload0 hk dX6_lay_5 ?_
  refine Z_iconst hk dX6_lay_6 ?_
  refine Z_putI hk hA fl_6_31 dX6_lay_7 ob_32.1 ob_32.2.1 ob_32.2.2.1 ob_32.2.2.2 ft_6_1 (by decide) (by decide) ?_
  refine Z_nm (fun m7 em7 => ?_)
  refine Z_aload0 hk dX6_lay_10 ?_
  refine Z_getR hk fl_6_15 dX6_lay_11 ob_32.1 ob_32.2.1 ob_32.2.2.1 ob_32.2.2.2 ft_6_3 rs_32_3 ?_
  refine Z_iconst hk dX6_lay_14 ?_
  refine Z_Sv hk (c_J7_fill_53178 κ.2.1 δ ad _ hA 34 25 ar_34 0 (by (try simp only [em7, em2, and_true, true_and, or_true, true_or, implies_true, upn, reduceIte, Nat.reduceEqDiff, ne_eq, not_false_eq_true, upc]) <;> (first | omega | assumption | exact (h28b.mono (by omega)) | exact (h28c.mono (by omega))))) os_J7_fill_53178 ml_X6_34 dX6_lay_15 rfl ⟨by decide, by decide⟩ rfl (Nat.le_of_ble_eq_true rfl) (fun m15 p15 => ?_)
  obtain ⟨p15, f15_0⟩ := p15
  try simp only [f15_0, em7, em2, and_true, true_and, or_true, true_or, implies_true, upn, reduceIte, Nat.reduceEqDiff, ne_eq, not_false_eq_true, upc] at p15
  refine Z_aload0 hk dX6_lay_18 ?_
  refine Z_getR hk fl_6_18 dX6_lay_19 ob_32.1 ob_32.2.1 ob_32.2.2.1 ob_32.2.2.2 ft_6_4 rs_32_4 ?_
  refine Z_iconst hk dX6_lay_22 ?_
  refine Z_Sv hk (c_J7_fill_53178 κ.2.1 δ ad _ hA 35 25 ar_35 0 (by (try simp only [f15_0, em7, em2, and_true, true_and, or_true, true_or, implies_true, upn, reduceIte, Nat.reduceEqDiff, ne_eq, not_false_eq_true, upc]) <;> (first | omega | assumption | exact (h28b.mono (by omega)) | exact (h28c.mono (by omega))))) os_J7_fill_53178 ml_X6_34 dX6_lay_23 rfl ⟨by decide, by decide⟩ rfl (Nat.le_of_ble_eq_true rfl) (fun m23 p23 => ?_)
  obtain ⟨p23, f23_0⟩ := p23
  try simp only [f23_0, f15_0, em7, em2, and_true, true_and, or_true, true_or, implies_true, upn, reduceIte, Nat.reduceEqDiff, ne_eq, not_false_eq_true, upc] at p23
  refine Z_iconst hk dX6_lay_26 ?_
  have J28 : ∀ (n : Nat) (x3_28 : Int) (m28 : Mem), (((0 ≤ x3_28 ∧ x3_28 ≤ nn ∧ (m28 32 1) = x3_28) ∧ CB (5 * m28 32 1) (m28 34) ∧ CB (5 * m28 32 1) (m28 35) ∧ LD t.toNat (x3_28 : Int).toNat (m28 33) ∧ CC (m28 34) (m28 35) (m28 33) t.toNat (x3_28 : Int).toNat) ∧ (∀ c : Nat, c ≠ 32 → c ≠ 33 → c ≠ 34 → c ≠ 35 → c ≠ 36 → c ≠ 37 → m28 c = m23 c) ∧ (∀ i : Nat, i ≠ 1 → m28 32 i = m23 32 i)) → (nn - x3_28) < (n : Int) → Zj κ δ ad rs Q 4 (121, 0, 0) 28 [some (.ref (ad 32)), some (iv t), some (iv nn), some (iv x3_28)] [] m28 := by
    intro n
    induction n with
    | zero => intro x3_28 m28 h28 hm28; exfalso; obtain ⟨h28, -⟩ := h28; obtain ⟨h28, -⟩ := h28; omega
    | succ n ih28 =>
      intro x3_28 m28 h28 hm28
      obtain ⟨h28, f28_0, f28_1⟩ := h28
      try simp only [f28_0, f28_1, f23_0, f15_0, em7, em2, and_true, true_and, or_true, true_or, implies_true, upn, reduceIte, Nat.reduceEqDiff, ne_eq, not_false_eq_true, upc] at h28 hm28
      obtain ⟨h28, h28b, h28c, h28d, h28e⟩ := h28
      refine Z_iload3 hk dX6_lay_28 ?_
      refine Z_iload2 hk dX6_lay_29 ?_
      refine Z_icmp_ge hk (tgt := 51) dX6_lay_30 (by decide) (by omega) (by omega) (by omega) (by omega) (fun h30 => ?_) (fun h30 => ?_)
      · refine Z_aload0 hk dX6_lay_51 ?_
        refine Z_Vi hk (c_X6_unevenness_f κ.2.1 δ ad _ hA  (by (try simp only [f28_0, f28_1, f23_0, f15_0, em7, em2, and_true, true_and, or_true, true_or, implies_true, upn, reduceIte, Nat.reduceEqDiff, ne_eq, not_false_eq_true, upc]) <;> (first | omega | assumption | exact (h28b.mono (by omega)) | exact (h28c.mono (by omega))))) ov_X6_unevenness ml_X6_47 dX6_lay_52 rfl ⟨by decide, by decide⟩ ob_32.1 (by decide) (by decide) rfl (Nat.le_of_ble_eq_true rfl) (fun r52 m52 p52 => ?_)
        obtain ⟨rfl, p52⟩ := p52
        try simp only [f28_0, f28_1, f23_0, f15_0, em7, em2, and_true, true_and, or_true, true_or, implies_true, upn, reduceIte, Nat.reduceEqDiff, ne_eq, not_false_eq_true, upc] at p52
        exact Z_iret hk hA hQ dX6_lay_55 ⟨rfl, rfl, _, rfl, (by exact ⟨(by (try simp only [f28_0, f28_1, f23_0, f15_0, em7, em2, and_true, true_and, or_true, true_or, implies_true, upn, reduceIte, Nat.reduceEqDiff, ne_eq, not_false_eq_true, upc]) <;> (omega)), (by intro c k0 k1 k2 k3 k4 k5; simp only [f28_0, f28_1, f23_0, f15_0, em7, em2, upc, upn, k0, k1, k2, k3, k4, k5, reduceIte, Nat.reduceEqDiff, ne_eq, not_false_eq_true]), (by intro i k0 k1; simp only [f28_0, f28_1, f23_0, f15_0, em7, em2, upc, upn, k0, k1, reduceIte, Nat.reduceEqDiff, ne_eq, not_false_eq_true]), (by (try simp only [f28_0, f28_1, f23_0, f15_0, em7, em2, and_true, true_and, or_true, true_or, implies_true, upn, reduceIte, Nat.reduceEqDiff, ne_eq, not_false_eq_true, upc, upc]) <;> exact h28b), (by (try simp only [f28_0, f28_1, f23_0, f15_0, em7, em2, and_true, true_and, or_true, true_or, implies_true, upn, reduceIte, Nat.reduceEqDiff, ne_eq, not_false_eq_true, upc, upc]) <;> exact h28c), (by have z := UN_of (by omega) h28e; rw [show ((t.toNat : Nat) : Int) = t from by omega, show ((x3_28.toNat : Nat) : Int) = m28 32 1 from by omega] at z; rw [p52, z, show x3_28.toNat = nn.toNat from by omega]), (by rw [show nn.toNat = x3_28.toNat from by omega]; exact h28d), (by rw [show nn.toNat = x3_28.toNat from by omega]; exact h28e)⟩)⟩
      · refine Z_aload0 hk dX6_lay_33 ?_
        refine Z_Vv hk (c_X6_findBest_f κ.2.1 δ ad _ hA  hz (by (try simp only [f28_0, f28_1, f23_0, f15_0, em7, em2, and_true, true_and, or_true, true_or, implies_true, upn, reduceIte, Nat.reduceEqDiff, ne_eq, not_false_eq_true, upc]) <;> (first | omega | assumption | exact (h28b.mono (by omega)) | exact (h28c.mono (by omega)))) (by (try simp only [f28_0, f28_1, f23_0, f15_0, em7, em2, and_true, true_and, or_true, true_or, implies_true, upn, reduceIte, Nat.reduceEqDiff, ne_eq, not_false_eq_true, upc]) <;> (first | omega | assumption | exact (h28b.mono (by omega)) | exact (h28c.mono (by omega)))) (by (try simp only [f28_0, f28_1, f23_0, f15_0, em7, em2, and_true, true_and, or_true, true_or, implies_true, upn, reduceIte, Nat.reduceEqDiff, ne_eq, not_false_eq_true, upc]) <;> (first | omega | assumption | exact (h28b.mono (by omega)) | exact (h28c.mono (by omega))))) ov_X6_findBest ml_X6_40 dX6_lay_34 rfl ⟨by decide, by decide⟩ ob_32.1 (by decide) (by decide) rfl (Nat.le_of_ble_eq_true rfl) (fun m34 p34 => ?_)
        obtain ⟨p34, f34_0, f34_1⟩ := p34
        try simp only [f34_0, f34_1, f28_0, f28_1, f23_0, f15_0, em7, em2, and_true, true_and, or_true, true_or, implies_true, upn, reduceIte, Nat.reduceEqDiff, ne_eq, not_false_eq_true, upc] at p34
        try simp only [f34_0, f28_0, f28_1, f23_0, f15_0, em7, em2, and_true, true_and, or_true, true_or, implies_true, upn, reduceIte, Nat.reduceEqDiff, ne_eq, not_false_eq_true, upc] at f34_1
        obtain ⟨kb, kb1, kb2⟩ := id f34_1
        refine Z_aload0 hk dX6_lay_37 ?_
        refine Z_aload0 hk dX6_lay_38 ?_
        refine Z_getR hk fl_6_24 dX6_lay_39 ob_32.1 ob_32.2.1 ob_32.2.2.1 ob_32.2.2.2 ft_6_6 rs_32_6 ?_
        refine Z_Vv hk (c_X6_append_f37 κ.2.1 δ ad _ hA  (by (try simp only [f34_0, f34_1, f28_0, f28_1, f23_0, f15_0, em7, em2, and_true, true_and, or_true, true_or, implies_true, upn, reduceIte, Nat.reduceEqDiff, ne_eq, not_false_eq_true, upc]) <;> (first | omega | assumption | exact (h28b.mono (by omega)) | exact (h28c.mono (by omega)))) (by (try simp only [f34_0, f34_1, f28_0, f28_1, f23_0, f15_0, em7, em2, and_true, true_and, or_true, true_or, implies_true, upn, reduceIte, Nat.reduceEqDiff, ne_eq, not_false_eq_true, upc]) <;> (first | omega | assumption | exact (h28b.mono (by omega)) | exact (h28c.mono (by omega)))) (by (try simp only [f34_0, f34_1, f28_0, f28_1, f23_0, f15_0, em7, em2, and_true, true_and, or_true, true_or, implies_true, upn, reduceIte, Nat.reduceEqDiff, ne_eq, not_false_eq_true, upc]) <;> (exact fun j hj => by rw [kb2 j (by omega)]; have := dg_lt (t := t.toNat) (v := kb) (p := j) (by omega); omega)) (by (try simp only [f34_0, f34_1, f28_0, f28_1, f23_0, f15_0, em7, em2, and_true, true_and, or_true, true_or, implies_true, upn, reduceIte, Nat.reduceEqDiff, ne_eq, not_false_eq_true, upc]) <;> (first | omega | assumption | exact (h28b.mono (by omega)) | exact (h28c.mono (by omega)))) (by (try simp only [f34_0, f34_1, f28_0, f28_1, f23_0, f15_0, em7, em2, and_true, true_and, or_true, true_or, implies_true, upn, reduceIte, Nat.reduceEqDiff, ne_eq, not_false_eq_true, upc]) <;> (first | omega | assumption | exact (h28b.mono (by omega)) | exact (h28c.mono (by omega))))) ov_X6_append ml_X6_43 dX6_lay_42 rfl ⟨by decide, by decide⟩ ob_32.1 (by decide) (by decide) rfl (Nat.le_of_ble_eq_true rfl) (fun m42 p42 => ?_)
        obtain ⟨p42, f42_0, f42_1, f42_2, f42_3, f42_4, f42_5, f42_6, f42_7⟩ := p42
        try simp only [f42_0, f42_1, f42_2, f42_3, f42_4, f42_5, f42_6, f42_7, f34_0, f34_1, f28_0, f28_1, f23_0, f15_0, em7, em2, and_true, true_and, or_true, true_or, implies_true, upn, reduceIte, Nat.reduceEqDiff, ne_eq, not_false_eq_true, upc] at p42
        try simp only [f42_0, f42_1, f42_3, f42_4, f42_5, f42_6, f42_7, f34_0, f34_1, f28_0, f28_1, f23_0, f15_0, em7, em2, and_true, true_and, or_true, true_or, implies_true, upn, reduceIte, Nat.reduceEqDiff, ne_eq, not_false_eq_true, upc] at f42_2
        try simp only [f42_0, f42_1, f42_2, f42_4, f42_5, f42_6, f42_7, f34_0, f34_1, f28_0, f28_1, f23_0, f15_0, em7, em2, and_true, true_and, or_true, true_or, implies_true, upn, reduceIte, Nat.reduceEqDiff, ne_eq, not_false_eq_true, upc] at f42_3
        try simp only [f42_0, f42_1, f42_2, f42_3, f42_5, f42_6, f42_7, f34_0, f34_1, f28_0, f28_1, f23_0, f15_0, em7, em2, and_true, true_and, or_true, true_or, implies_true, upn, reduceIte, Nat.reduceEqDiff, ne_eq, not_false_eq_true, upc] at f42_4
        try simp only [f42_0, f42_1, f42_2, f42_3, f42_4, f42_6, f42_7, f34_0, f34_1, f28_0, f28_1, f23_0, f15_0, em7, em2, and_true, true_and, or_true, true_or, implies_true, upn, reduceIte, Nat.reduceEqDiff, ne_eq, not_false_eq_true, upc] at f42_5
        try simp only [f42_0, f42_1, f42_2, f42_3, f42_4, f42_5, f42_7, f34_0, f34_1, f28_0, f28_1, f23_0, f15_0, em7, em2, and_true, true_and, or_true, true_or, implies_true, upn, reduceIte, Nat.reduceEqDiff, ne_eq, not_false_eq_true, upc] at f42_6
        try simp only [f42_0, f42_1, f42_2, f42_3, f42_4, f42_5, f42_6, f34_0, f34_1, f28_0, f28_1, f23_0, f15_0, em7, em2, and_true, true_and, or_true, true_or, implies_true, upn, reduceIte, Nat.reduceEqDiff, ne_eq, not_false_eq_true, upc] at f42_7
        have l28 : (m28 32 1).toNat = x3_28.toNat := by omega
        have n28 : (x3_28 + 1).toNat = x3_28.toNat + 1 := by omega
        have ag : AG t.toNat x3_28.toNat (m28 33) (m42 33) := AG.of (by omega) (fun j hj => (f42_5 j (by omega)).symm)
        have rw42 : ∀ p, p < t.toNat → m42 33 (5 * x3_28.toNat + p) = m34 37 p := fun p hp => by rw [← l28]; exact f42_4 p (by omega)
        have ld42 : LD t.toNat (x3_28.toNat + 1) (m42 33) := LD_step (by omega) (by omega) h28d ag h28e kb1 (fun p hp => by rw [rw42 p hp]; exact kb2 p hp)
        have cc42 : CC (m42 34) (m42 35) (m42 33) t.toNat (x3_28.toNat + 1) := CC_step h28e ag rw42 (fun a b ha hb => f42_6 a b (by omega) (by omega)) (fun a b ha hb => f42_7 a b (by omega) (by omega))
        refine Z_iinc3 hk rfl (by decide) dX6_lay_45 ?_
        refine Z_goto hk (tgt := 28) dX6_lay_48 (by decide) ?_
        exact ih28 _ _ (by exact ⟨(by (exact ⟨(by (try simp only [f42_0, f42_1, f42_2, f42_3, f42_4, f42_5, f42_6, f42_7, f34_0, f34_1, f28_0, f28_1, f23_0, f15_0, em7, em2, and_true, true_and, or_true, true_or, implies_true, upn, reduceIte, Nat.reduceEqDiff, ne_eq, not_false_eq_true, upc, upc]) <;> omega), (by (try simp only [f42_0, f42_1, f42_2, f42_3, f42_4, f42_5, f42_6, f42_7, f34_0, f34_1, f28_0, f28_1, f23_0, f15_0, em7, em2, and_true, true_and, or_true, true_or, implies_true, upn, reduceIte, Nat.reduceEqDiff, ne_eq, not_false_eq_true, upc, upc]) <;> assumption), (by (try simp only [f42_0, f42_1, f42_2, f42_3, f42_4, f42_5, f42_6, f42_7, f34_0, f34_1, f28_0, f28_1, f23_0, f15_0, em7, em2, and_true, true_and, or_true, true_or, implies_true, upn, reduceIte, Nat.reduceEqDiff, ne_eq, not_false_eq_true, upc, upc]) <;> assumption), (by rw [n28]; exact ld42), (by rw [n28]; exact cc42)⟩)), (by intro c k0 k1 k2 k3 k4 k5; simp only [f42_0, f42_1, f42_2, f42_3, f42_4, f42_5, f42_6, f42_7, f34_0, f34_1, f28_0, f28_1, f23_0, f15_0, em7, em2, upc, upn, k0, k1, k2, k3, k4, k5, reduceIte, Nat.reduceEqDiff, ne_eq, not_false_eq_true]), (by intro i k0; simp only [f42_0, f42_1, f42_2, f42_3, f42_4, f42_5, f42_6, f42_7, f34_0, f34_1, f28_0, f28_1, f23_0, f15_0, em7, em2, upc, upn, k0, reduceIte, Nat.reduceEqDiff, ne_eq, not_false_eq_true])⟩) (by (try simp only [f42_0, f42_1, f42_2, f42_3, f42_4, f42_5, f42_6, f42_7, f34_0, f34_1, f28_0, f28_1, f23_0, f15_0, em7, em2, and_true, true_and, or_true, true_or, implies_true, upn, reduceIte, Nat.reduceEqDiff, ne_eq, not_false_eq_true, upc]) <;> (omega))
  refine Z_istore3 hk rfl (by decide) dX6_lay_27 ?_
  exact J28 (((nn - 0) : Int).toNat + 1) _ _ (by exact ⟨(by (exact ⟨(by (try simp only [f23_0, f15_0, em7, em2, and_true, true_and, or_true, true_or, implies_true, upn, reduceIte, Nat.reduceEqDiff, ne_eq, not_false_eq_true, upc, upc]) <;> omega), (fun j hj => by have := p15 j (by omega); (try simp only [f23_0, f15_0, em7, em2, and_true, true_and, or_true, true_or, implies_true, upn, reduceIte, Nat.reduceEqDiff, ne_eq, not_false_eq_true, upc, upc] at this ⊢); omega), (fun j hj => by have := p23 j (by omega); (try simp only [f23_0, f15_0, em7, em2, and_true, true_and, or_true, true_or, implies_true, upn, reduceIte, Nat.reduceEqDiff, ne_eq, not_false_eq_true, upc, upc] at this ⊢); omega), (fun i hi => absurd hi (Nat.not_lt_zero _)), fun a b ha hb => ⟨by have := p15 (5 * a + b) (by omega); (try simp only [f23_0, f15_0, em7, em2, and_true, true_and, or_true, true_or, implies_true, upn, reduceIte, Nat.reduceEqDiff, ne_eq, not_false_eq_true, upc, upc] at this ⊢); show _ = (0 : Int); omega, by have := p23 (5 * a + b) (by omega); (try simp only [f23_0, f15_0, em7, em2, and_true, true_and, or_true, true_or, implies_true, upn, reduceIte, Nat.reduceEqDiff, ne_eq, not_false_eq_true, upc, upc] at this ⊢); show _ = (0 : Int); omega⟩⟩)), (by intro c k0 k1 k2 k3 k4 k5; simp only [f23_0, f15_0, em7, em2, upc, upn, k0, k1, k2, k3, k4, k5, reduceIte, Nat.reduceEqDiff, ne_eq, not_false_eq_true]), (by intro i k0; simp only [f23_0, f15_0, em7, em2, upc, upn, k0, reduceIte, Nat.reduceEqDiff, ne_eq, not_false_eq_true])⟩) (by omega)
set_option maxRecDepth 10000 in
theorem c_X8_orders_f (l : Launch) (δ : Dp) (ad : Nat → Nat) (M : Mem) (hA : okA δ ad) (t : Int) (nn : Int) (hz : NS δ) (i_t : -2147483648 ≤ t ∧ t ≤ 2147483647) (i_nn : -2147483648 ≤ nn ∧ nn ≤ 2147483647) : Mi l δ yX8_orders cX8_orders 3 (some (.int)) 4 94 ad rs [.ref (ad 0), iv t, iv nn] M (fun r M' => ((M' 32 0 = M 32 0 ∧ M' 32 1 = M 32 1) ∨ (2 ≤ M' 32 0 ∧ M' 32 0 ≤ 5 ∧ 0 ≤ M' 32 1 ∧ M' 32 1 ≤ 30)) ∧ (∀ c : Nat, c ≠ 32 → c ≠ 33 → c ≠ 34 → c ≠ 35 → c ≠ 36 → c ≠ 37 → M' c = M c) ∧ (∀ i : Nat, i ≠ 0 → i ≠ 1 → M' 32 i = M 32 i) ∧ (CB (5 * M 32 1) (M 34) → CB (5 * M' 32 1) (M' 34)) ∧ (CB (5 * M 32 1) (M 35) → CB (5 * M' 32 1) (M' 35)) ∧ (OA t nn r)) := by
  refine Mg.of (rm := rmN 4 94) (by decide) (Nat.le_of_ble_eq_true rfl) fun κ _ hk _ => ?_
  generalize hQ : Qg κ δ 121 (rmN 4 94).cells (rmN 4 94).slots _ = Q
  show Zj κ δ ad rs Q 3 (121, 0, 0) 0 [some (.ref (ad 0)), some (iv t), some (iv nn)] [] M
  refine Z_iload1 hk dX8_orders_0 ?_
  refine Z_iconst hk dX8_orders_1 ?_
  refine Z_icmp_lt hk (tgt := 21) dX8_orders_2 (by decide) (by omega) (by omega) (by decide) (by decide) (fun h2 => ?_) (fun h2 => ?_)
  · refine Z_iconst hk dX8_orders_21 ?_
    exact Z_iret hk hA hQ dX8_orders_22 ⟨rfl, rfl, _, rfl, (by exact ⟨(by (omega)), (by intro c k0 k1 k2 k3 k4 k5; rfl), (by intro i k0 k1; rfl), (by first | exact fun h => h | (intro _; (try simp only [and_true, true_and, or_true, true_or, implies_true, upn, reduceIte, Nat.reduceEqDiff, ne_eq, not_false_eq_true, upc, upc]) <;> assumption)), (by first | exact fun h => h | (intro _; (try simp only [and_true, true_and, or_true, true_or, implies_true, upn, reduceIte, Nat.reduceEqDiff, ne_eq, not_false_eq_true, upc, upc]) <;> assumption)), (by first | (right; exact ⟨by omega, rfl⟩) | (left; exact ⟨by omega, by omega, by omega, by omega, _, f29_5, f29_4⟩))⟩)⟩
  · refine Z_iload1 hk dX8_orders_5 ?_
    refine Z_iconst hk dX8_orders_6 ?_
    refine Z_icmp_gt hk (tgt := 21) dX8_orders_7 (by decide) (by omega) (by omega) (by decide) (by decide) (fun h7 => ?_) (fun h7 => ?_)
    · refine Z_iconst hk dX8_orders_21 ?_
      exact Z_iret hk hA hQ dX8_orders_22 ⟨rfl, rfl, _, rfl, (by exact ⟨(by (omega)), (by intro c k0 k1 k2 k3 k4 k5; rfl), (by intro i k0 k1; rfl), (by first | exact fun h => h | (intro _; (try simp only [and_true, true_and, or_true, true_or, implies_true, upn, reduceIte, Nat.reduceEqDiff, ne_eq, not_false_eq_true, upc, upc]) <;> assumption)), (by first | exact fun h => h | (intro _; (try simp only [and_true, true_and, or_true, true_or, implies_true, upn, reduceIte, Nat.reduceEqDiff, ne_eq, not_false_eq_true, upc, upc]) <;> assumption)), (by first | (right; exact ⟨by omega, rfl⟩) | (left; exact ⟨by omega, by omega, by omega, by omega, _, f29_5, f29_4⟩))⟩)⟩
    · refine Z_iload2 hk dX8_orders_10 ?_
      refine Z_iconst hk dX8_orders_11 ?_
      refine Z_icmp_lt hk (tgt := 21) dX8_orders_12 (by decide) (by omega) (by omega) (by decide) (by decide) (fun h12 => ?_) (fun h12 => ?_)
      · refine Z_iconst hk dX8_orders_21 ?_
        exact Z_iret hk hA hQ dX8_orders_22 ⟨rfl, rfl, _, rfl, (by exact ⟨(by (omega)), (by intro c k0 k1 k2 k3 k4 k5; rfl), (by intro i k0 k1; rfl), (by first | exact fun h => h | (intro _; (try simp only [and_true, true_and, or_true, true_or, implies_true, upn, reduceIte, Nat.reduceEqDiff, ne_eq, not_false_eq_true, upc, upc]) <;> assumption)), (by first | exact fun h => h | (intro _; (try simp only [and_true, true_and, or_true, true_or, implies_true, upn, reduceIte, Nat.reduceEqDiff, ne_eq, not_false_eq_true, upc, upc]) <;> assumption)), (by first | (right; exact ⟨by omega, rfl⟩) | (left; exact ⟨by omega, by omega, by omega, by omega, _, f29_5, f29_4⟩))⟩)⟩
      · refine Z_iload2 hk dX8_orders_15 ?_
        refine Z_bipush hk dX8_orders_16 (by decide) ?_
        refine Z_icmp_le hk (tgt := 23) dX8_orders_18 (by decide) (by omega) (by omega) (by decide) (by decide) (fun h18 => ?_) (fun h18 => ?_)
        · refine Z_aload0 hk dX8_orders_23 ?_
          refine Z_getR hk fl_8_65 dX8_orders_24 ob_0.1 ob_0.2.1 ob_0.2.2.1 ob_0.2.2.2 ft_8_6 rs_0_6 ?_
          refine Z_iload1 hk dX8_orders_27 ?_
          refine Z_iload2 hk dX8_orders_28 ?_
          refine Z_Vi hk (c_X6_lay_f κ.2.1 δ ad _ hA t nn hz (by (first | omega | assumption))) ov_X6_lay ml_X8_224 dX8_orders_29 rfl ⟨by decide, by decide⟩ ob_32.1 (by decide) (by decide) rfl (Nat.le_of_ble_eq_true rfl) (fun r29 m29 p29 => ?_)
          obtain ⟨p29, f29_0, f29_1, f29_2, f29_3, f29_4, f29_5, f29_6⟩ := p29
          try simp only [f29_0, f29_1, f29_2, f29_3, f29_4, f29_5, f29_6, and_true, true_and, or_true, true_or, implies_true, upn, reduceIte, Nat.reduceEqDiff, ne_eq, not_false_eq_true, upc] at p29
          try simp only [f29_0, f29_1, f29_3, f29_4, f29_5, f29_6, and_true, true_and, or_true, true_or, implies_true, upn, reduceIte, Nat.reduceEqDiff, ne_eq, not_false_eq_true, upc] at f29_2
          try simp only [f29_0, f29_1, f29_2, f29_4, f29_5, f29_6, and_true, true_and, or_true, true_or, implies_true, upn, reduceIte, Nat.reduceEqDiff, ne_eq, not_false_eq_true, upc] at f29_3
          try simp only [f29_0, f29_1, f29_2, f29_3, f29_5, f29_6, and_true, true_and, or_true, true_or, implies_true, upn, reduceIte, Nat.reduceEqDiff, ne_eq, not_false_eq_true, upc] at f29_4
          try simp only [f29_0, f29_1, f29_2, f29_3, f29_4, f29_6, and_true, true_and, or_true, true_or, implies_true, upn, reduceIte, Nat.reduceEqDiff, ne_eq, not_false_eq_true, upc] at f29_5
          try simp only [f29_0, f29_1, f29_2, f29_3, f29_4, f29_5, and_true, true_and, or_true, true_or, implies_true, upn, reduceIte, Nat.reduceEqDiff, ne_eq, not_false_eq_true, upc] at f29_6
          exact Z_iret hk hA hQ dX8_orders_32 ⟨rfl, rfl, _, rfl, (by exact ⟨(by (try simp only [f29_0, f29_1, f29_2, f29_3, f29_4, f29_5, f29_6, and_true, true_and, or_true, true_or, implies_true, upn, reduceIte, Nat.reduceEqDiff, ne_eq, not_false_eq_true, upc]) <;> (omega)), (by intro c k0 k1 k2 k3 k4 k5; simp only [f29_0, f29_1, f29_2, f29_3, f29_4, f29_5, f29_6, upc, upn, k0, k1, k2, k3, k4, k5, reduceIte, Nat.reduceEqDiff, ne_eq, not_false_eq_true]), (by intro i k0 k1; simp only [f29_0, f29_1, f29_2, f29_3, f29_4, f29_5, f29_6, upc, upn, k0, k1, reduceIte, Nat.reduceEqDiff, ne_eq, not_false_eq_true]), (by first | exact fun h => h | (intro _; (try simp only [f29_0, f29_1, f29_2, f29_3, f29_4, f29_5, f29_6, and_true, true_and, or_true, true_or, implies_true, upn, reduceIte, Nat.reduceEqDiff, ne_eq, not_false_eq_true, upc, upc]) <;> assumption)), (by first | exact fun h => h | (intro _; (try simp only [f29_0, f29_1, f29_2, f29_3, f29_4, f29_5, f29_6, and_true, true_and, or_true, true_or, implies_true, upn, reduceIte, Nat.reduceEqDiff, ne_eq, not_false_eq_true, upc, upc]) <;> assumption)), (by first | (right; exact ⟨by omega, rfl⟩) | (left; exact ⟨by omega, by omega, by omega, by omega, _, f29_5, f29_4⟩))⟩)⟩
        · refine Z_iconst hk dX8_orders_21 ?_
          exact Z_iret hk hA hQ dX8_orders_22 ⟨rfl, rfl, _, rfl, (by exact ⟨(by (omega)), (by intro c k0 k1 k2 k3 k4 k5; rfl), (by intro i k0 k1; rfl), (by first | exact fun h => h | (intro _; (try simp only [and_true, true_and, or_true, true_or, implies_true, upn, reduceIte, Nat.reduceEqDiff, ne_eq, not_false_eq_true, upc, upc]) <;> assumption)), (by first | exact fun h => h | (intro _; (try simp only [and_true, true_and, or_true, true_or, implies_true, upn, reduceIte, Nat.reduceEqDiff, ne_eq, not_false_eq_true, upc, upc]) <;> assumption)), (by first | (right; exact ⟨by omega, rfl⟩) | (left; exact ⟨by omega, by omega, by omega, by omega, _, f29_5, f29_4⟩))⟩)⟩
