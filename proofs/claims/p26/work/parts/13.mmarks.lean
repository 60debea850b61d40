def isMk (c : Int) : Prop := 20 ≤ c ∧ c ≤ 24
theorem bn_ar {c : Int} (h1 : 1 ≤ c) (h2 : c ≤ 4) : bn c = 1 := by unfold bn; rw [if_pos (by omega)]
/-- the uppermost mark from the base on -/
def TopM (M : Mem) (r : Int) : Prop := (r = -1 ∧ ∀ j : Nat, M 48 79 ≤ j → (j : Int) < M 48 45 → ¬ isMk (M 83 j)) ∨ (isMk r ∧ ∃ k : Nat, M 48 79 ≤ k ∧ (k : Int) < M 48 45 ∧ M 83 k = r ∧ ∀ j : Nat, k < j → (j : Int) < M 48 45 → ¬ isMk (M 83 j))
/-- what waits from the base on: signs of arithmetic, and marks -/
def WA (M : Mem) : Prop := ∀ j : Nat, M 48 79 ≤ j → (j : Int) < M 48 45 → (1 ≤ M 83 j ∧ M 83 j ≤ 4) ∨ isMk (M 83 j)
set_option maxRecDepth 10000 in
theorem c_X9_mark (l : Launch) (δ : Dp) (ad : Nat → Nat) (M : Mem) (hA : okA δ ad) (q0 : 0 ≤ (M 48 79) ∧ (M 48 79) ≤ (M 48 45) ∧ (M 48 45) ≤ 800) : Mi l δ yX9_mark cX9_mark 2 (some (.int)) 1 21 ad rs [.ref (ad 48)] M (fun r M' => M = M' ∧ (TopM M r ∧ -1 ≤ r ∧ r ≤ 24)) := by
  refine Mg.of (rm := rmN 1 21) (by decide) (Nat.le_of_ble_eq_true rfl) fun κ _ hk _ => ?_
  generalize hQ : Qg κ δ 121 (rmN 1 21).cells (rmN 1 21).slots _ = Q
  show Zj κ δ ad rs Q 2 (121, 0, 0) 0 [some (.ref (ad 48)), none] [] M
  refine Z_aload0 hk dX9_mark_0 ?_
  refine Z_getI hk fl_9_320 dX9_mark_1 ob_48.1 ob_48.2.1 ob_48.2.2.1 ob_48.2.2.2 ft_9_45 (fun v1 e1 a1 b1 => ?_)
  refine Z_iconst hk dX9_mark_4 ?_
  refine Z_isub hk dX9_mark_5 ?_
  have J7 : ∀ (n : Nat) (x1_7 : Int), (((M 48 79) - 1 ≤ x1_7 ∧ x1_7 < (M 48 45)) ∧ ∀ j : Nat, x1_7 < j → (j : Int) < (M 48 45) → ¬ isMk (M 83 j)) → (x1_7 + 1) < (n : Int) → Zj κ δ ad rs Q 2 (121, 0, 0) 7 [some (.ref (ad 48)), some (iv x1_7)] [] M := by
    intro n
    induction n with
    | zero => intro x1_7 h7 hm7; exfalso; obtain ⟨h7, -⟩ := h7; omega
    | succ n ih7 =>
      intro x1_7 h7 hm7
      obtain ⟨h7, g7⟩ := h7
      refine Z_iload1 hk dX9_mark_7 ?_
      refine Z_aload0 hk dX9_mark_8 ?_
      refine Z_getI hk fl_9_327 dX9_mark_9 ob_48.1 ob_48.2.1 ob_48.2.2.1 ob_48.2.2.2 ft_9_79 (fun v9 e9 a9 b9 => ?_)
      try simp only [e1, and_true, true_and, or_true, true_or, implies_true, upn, reduceIte, Nat.reduceEqDiff, ne_eq, not_false_eq_true] at e9
      have J34 : ∀ (_ : Unit), (((M 48 79) - 1 ≤ x1_7 ∧ x1_7 < (M 48 45) ∧ (x1_7 < (M 48 79) ∨ isMk (M 83 (x1_7).toNat))) ∧ ∀ j : Nat, x1_7 < j → (j : Int) < (M 48 45) → ¬ isMk (M 83 j)) → Zj κ δ ad rs Q 2 (121, 0, 0) 34 [some (.ref (ad 48)), some (iv x1_7)] [] M := by
        intro _ h34
        obtain ⟨⟨h34, h34b, h34c⟩, g34⟩ := h34
        refine Z_iload1 hk dX9_mark_34 ?_
        refine Z_aload0 hk dX9_mark_35 ?_
        refine Z_getI hk fl_9_327 dX9_mark_36 ob_48.1 ob_48.2.1 ob_48.2.2.1 ob_48.2.2.2 ft_9_79 (fun v36 e36 a36 b36 => ?_)
        try simp only [e1, e9, and_true, true_and, or_true, true_or, implies_true, upn, reduceIte, Nat.reduceEqDiff, ne_eq, not_false_eq_true] at e36
        refine Z_icmp_lt hk (tgt := 51) dX9_mark_39 (by decide) (by omega) (by omega) (by omega) (by omega) (fun h39 => ?_) (fun h39 => ?_)
        · refine Z_iconst hk dX9_mark_51 ?_
          exact Z_iret hk hA hQ dX9_mark_52 ⟨rfl, rfl, _, rfl, (by exact ⟨rfl, (by first | exact ⟨Or.inl ⟨rfl, fun j h1 h2 => g34 j (by omega) h2⟩, by omega, by omega⟩ | (have hm := h34c.resolve_left (by omega); rw [e47]; exact ⟨Or.inr ⟨hm, (x1_7).toNat, by omega, by omega, rfl, fun j h1 h2 => g34 j (by omega) h2⟩, by unfold isMk at hm; omega, by unfold isMk at hm; omega⟩))⟩)⟩
        · refine Z_aload0 hk dX9_mark_42 ?_
          refine Z_getR hk fl_9_117 dX9_mark_43 ob_48.1 ob_48.2.1 ob_48.2.2.1 ob_48.2.2.2 ft_9_44 rs_48_44 ?_
          refine Z_iload1 hk dX9_mark_46 ?_
          refine Z_iald hk dX9_mark_47 ar_83.1 ar_83.2.1 ar_83.2.2 (by omega) (by omega) (fun v47 e47 a47 b47 => ?_)
          try simp only [e1, e9, e36, and_true, true_and, or_true, true_or, implies_true, upn, reduceIte, Nat.reduceEqDiff, ne_eq, not_false_eq_true] at e47
          refine Z_goto hk (tgt := 52) dX9_mark_48 (by decide) ?_
          exact Z_iret hk hA hQ dX9_mark_52 ⟨rfl, rfl, _, rfl, (by exact ⟨rfl, (by first | exact ⟨Or.inl ⟨rfl, fun j h1 h2 => g34 j (by omega) h2⟩, by omega, by omega⟩ | (have hm := h34c.resolve_left (by omega); rw [e47]; exact ⟨Or.inr ⟨hm, (x1_7).toNat, by omega, by omega, rfl, fun j h1 h2 => g34 j (by omega) h2⟩, by unfold isMk at hm; omega, by unfold isMk at hm; omega⟩))⟩)⟩
      refine Z_icmp_lt hk (tgt := 34) dX9_mark_12 (by decide) (by omega) (by omega) (by omega) (by omega) (fun h12 => ?_) (fun h12 => ?_)
      · exact J34 () (by exact ⟨⟨by omega, by omega, Or.inl (by omega)⟩, g7⟩)
      · refine Z_aload0 hk dX9_mark_15 ?_
        refine Z_aload0 hk dX9_mark_16 ?_
        refine Z_getR hk fl_9_117 dX9_mark_17 ob_48.1 ob_48.2.1 ob_48.2.2.1 ob_48.2.2.2 ft_9_44 rs_48_44 ?_
        refine Z_iload1 hk dX9_mark_20 ?_
        refine Z_iald hk dX9_mark_21 ar_83.1 ar_83.2.1 ar_83.2.2 (by omega) (by omega) (fun v21 e21 a21 b21 => ?_)
        try simp only [e1, e9, and_true, true_and, or_true, true_or, implies_true, upn, reduceIte, Nat.reduceEqDiff, ne_eq, not_false_eq_true] at e21
        refine Z_Vi hk (c_X9_isMark κ.2.1 δ ad _ hA v21 (by (omega))) ov_X9_isMark ml_X9_330 dX9_mark_22 rfl ⟨by decide, by decide⟩ ob_48.1 (by decide) (by decide) rfl (Nat.le_of_ble_eq_true rfl) (fun r22 m22 p22 => ?_)
        obtain ⟨rfl, p22⟩ := p22
        refine Z_if_ne hk (tgt := 34) dX9_mark_25 (by decide) (by omega) (by omega) (fun h25 => ?_) (fun h25 => ?_)
        · exact J34 () (by exact ⟨⟨by omega, by omega, Or.inr (by unfold isMk; omega)⟩, g7⟩)
        · refine Z_iinc1 hk rfl (by decide) dX9_mark_28 ?_
          refine Z_goto hk (tgt := 7) dX9_mark_31 (by decide) ?_
          exact ih7 _ (by refine ⟨by omega, fun j h1 h2 => ?_⟩; by_cases ej : (j : Int) = x1_7; exact (by have e : j = (x1_7).toNat := (by omega); rw [e]; unfold isMk; omega); exact g7 j (by omega) h2) (by (omega))
  refine Z_istore1 hk rfl (by decide) dX9_mark_6 ?_
  exact J7 ((((v1 - 1) + 1) : Int).toNat + 1) _ (by refine ⟨by omega, fun j h1 h2 => ?_⟩; omega) (by omega)
set_option maxRecDepth 10000 in
theorem c_X9_dropsToMark (l : Launch) (δ : Dp) (ad : Nat → Nat) (M : Mem) (hA : okA δ ad) (a : GA) (s : Int) (q0 : 0 ≤ (M 48 79) ∧ (M 48 79) ≤ (M 48 45) ∧ (M 48 45) ≤ 800) (q1 : 0 ≤ (M 48 43) ∧ (M 48 43) + (M 48 45) ≤ 800) (q2 : 1 ≤ s) (q3 : RP M a s) (q4 : WA M) : Mv l δ yX9_dropsToMark cX9_dropsToMark 1 none 2 41 ad rs [.ref (ad 48)] M (fun M' => ((M 48 79) ≤ (M' 48 45) ∧ (M' 48 45) ≤ (M 48 45) ∧ (M' 48 43) + (M' 48 45) = (M 48 43) + (M 48 45) ∧ 0 ≤ (M' 48 43)) ∧ (∀ c : Nat, c ≠ 48 → c ≠ 82 → M' c = M c) ∧ (∀ i : Nat, i ≠ 43 → i ≠ 45 → M' 48 i = M 48 i) ∧ (RP M' a s) ∧ (∀ j : Nat, (M' 48 45) ≤ j → (j : Int) < (M 48 45) → ¬ isMk (M 83 j)) ∧ ((M' 48 45) = (M 48 79) ∨ isMk (M 83 ((M' 48 45) - 1).toNat)) ∧ (∀ j : Nat, 800 ≤ j → M' 82 j = M 82 j)) := by
  refine Mg.of (rm := rmN 2 41) (by decide) (Nat.le_of_ble_eq_true rfl) fun κ _ hk _ => ?_
  generalize hQ : Qg κ δ 121 (rmN 2 41).cells (rmN 2 41).slots _ = Q
  show Zj κ δ ad rs Q 1 (121, 0, 0) 0 [some (.ref (ad 48))] [] M
  have J0 : ∀ (n : Nat) (m0 : Mem), ((((M 48 79) ≤ (m0 48 45) ∧ (m0 48 45) ≤ (M 48 45) ∧ (m0 48 43) + (m0 48 45) = (M 48 43) + (M 48 45) ∧ 0 ≤ (m0 48 43)) ∧ RP m0 a s ∧ ∀ j : Nat, (m0 48 45) ≤ j → (j : Int) < (M 48 45) → ¬ isMk (M 83 j)) ∧ (∀ c : Nat, c ≠ 48 → c ≠ 82 → m0 c = M c) ∧ (∀ i : Nat, i ≠ 43 → i ≠ 45 → m0 48 i = M 48 i) ∧ (∀ j : Nat, 800 ≤ j → m0 82 j = M 82 j)) → ((m0 48 45) - (M 48 79)) < (n : Int) → Zj κ δ ad rs Q 1 (121, 0, 0) 0 [some (.ref (ad 48))] [] m0 := by
    intro n
    induction n with
    | zero => intro m0 h0 hm0; exfalso; obtain ⟨h0, -⟩ := h0; obtain ⟨h0, -⟩ := h0; omega
    | succ n ih0 =>
      intro m0 h0 hm0
      obtain ⟨h0, f0_0, f0_1, f0_2⟩ := h0
      try simp only [f0_0, f0_1, f0_2, and_true, true_and, or_true, true_or, implies_true, upn, reduceIte, Nat.reduceEqDiff, ne_eq, not_false_eq_true] at h0 hm0
      obtain ⟨h0, h0c, g0⟩ := h0
      refine Z_aload0 hk dX9_dropsToMark_0 ?_
      refine Z_getI hk fl_9_320 dX9_dropsToMark_1 ob_48.1 ob_48.2.1 ob_48.2.2.1 ob_48.2.2.2 ft_9_45 (fun v1 e1 a1 b1 => ?_)
      try simp only [f0_0, f0_1, f0_2, and_true, true_and, or_true, true_or, implies_true, upn, reduceIte, Nat.reduceEqDiff, ne_eq, not_false_eq_true] at e1
      refine Z_aload0 hk dX9_dropsToMark_4 ?_
      refine Z_getI hk fl_9_327 dX9_dropsToMark_5 ob_48.1 ob_48.2.1 ob_48.2.2.1 ob_48.2.2.2 ft_9_79 (fun v5 e5 a5 b5 => ?_)
      try simp only [f0_0, f0_1, f0_2, e1, and_true, true_and, or_true, true_or, implies_true, upn, reduceIte, Nat.reduceEqDiff, ne_eq, not_false_eq_true] at e5
      refine Z_icmp_le hk (tgt := 36) dX9_dropsToMark_8 (by decide) (by omega) (by omega) (by omega) (by omega) (fun h8 => ?_) (fun h8 => ?_)
      · exact Z_vret hk hA hQ dX9_dropsToMark_36 ⟨rfl, rfl, rfl, (by exact ⟨(by (try simp only [f0_0, f0_1, f0_2, and_true, true_and, or_true, true_or, implies_true, upn, reduceIte, Nat.reduceEqDiff, ne_eq, not_false_eq_true]) <;> (omega)), (by intro c k0 k1; simp only [f0_0, f0_1, f0_2, upc, upn, k0, k1, reduceIte, Nat.reduceEqDiff, ne_eq, not_false_eq_true]), (by intro i k0 k1; simp only [f0_0, f0_1, f0_2, upc, upn, k0, k1, reduceIte, Nat.reduceEqDiff, ne_eq, not_false_eq_true]), (by exact h0c), (by exact g0), (by first | exact Or.inl (by omega) | exact Or.inr (by unfold isMk; omega)), (by intro j kj; first | (simp only [f0_0, f0_1, f0_2, upc, upn, kj, reduceIte, Nat.reduceEqDiff, ne_eq, not_false_eq_true]; done) | (simp only [f0_0, f0_1, f0_2, upc, upn, kj, reduceIte, Nat.reduceEqDiff, ne_eq, not_false_eq_true]; split; (exfalso; omega); rfl))⟩)⟩
      · refine Z_aload0 hk dX9_dropsToMark_11 ?_
        refine Z_aload0 hk dX9_dropsToMark_12 ?_
        refine Z_getR hk fl_9_117 dX9_dropsToMark_13 ob_48.1 ob_48.2.1 ob_48.2.2.1 ob_48.2.2.2 ft_9_44 rs_48_44 ?_
        refine Z_aload0 hk dX9_dropsToMark_16 ?_
        refine Z_getI hk fl_9_320 dX9_dropsToMark_17 ob_48.1 ob_48.2.1 ob_48.2.2.1 ob_48.2.2.2 ft_9_45 (fun v17 e17 a17 b17 => ?_)
        try simp only [f0_0, f0_1, f0_2, e1, e5, and_true, true_and, or_true, true_or, implies_true, upn, reduceIte, Nat.reduceEqDiff, ne_eq, not_false_eq_true] at e17
        refine Z_iconst hk dX9_dropsToMark_20 ?_
        refine Z_isub hk dX9_dropsToMark_21 ?_
        refine Z_iald hk dX9_dropsToMark_22 ar_83.1 ar_83.2.1 ar_83.2.2 (by omega) (by omega) (fun v22 e22 a22 b22 => ?_)
        try simp only [f0_0, f0_1, f0_2, e1, e5, e17, and_true, true_and, or_true, true_or, implies_true, upn, reduceIte, Nat.reduceEqDiff, ne_eq, not_false_eq_true] at e22
        refine Z_Vi hk (c_X9_isMark κ.2.1 δ ad _ hA v22 (by (try simp only [f0_0, f0_1, f0_2, and_true, true_and, or_true, true_or, implies_true, upn, reduceIte, Nat.reduceEqDiff, ne_eq, not_false_eq_true]) <;> (omega))) ov_X9_isMark ml_X9_330 dX9_dropsToMark_23 rfl ⟨by decide, by decide⟩ ob_48.1 (by decide) (by decide) rfl (Nat.le_of_ble_eq_true rfl) (fun r23 m23 p23 => ?_)
        obtain ⟨rfl, p23⟩ := p23
        try simp only [f0_0, f0_1, f0_2, e1, e5, e17, e22, and_true, true_and, or_true, true_or, implies_true, upn, reduceIte, Nat.reduceEqDiff, ne_eq, not_false_eq_true] at p23
        refine Z_if_ne hk (tgt := 36) dX9_dropsToMark_26 (by decide) (by omega) (by omega) (fun h26 => ?_) (fun h26 => ?_)
        · exact Z_vret hk hA hQ dX9_dropsToMark_36 ⟨rfl, rfl, rfl, (by exact ⟨(by (try simp only [f0_0, f0_1, f0_2, and_true, true_and, or_true, true_or, implies_true, upn, reduceIte, Nat.reduceEqDiff, ne_eq, not_false_eq_true]) <;> (omega)), (by intro c k0 k1; simp only [f0_0, f0_1, f0_2, upc, upn, k0, k1, reduceIte, Nat.reduceEqDiff, ne_eq, not_false_eq_true]), (by intro i k0 k1; simp only [f0_0, f0_1, f0_2, upc, upn, k0, k1, reduceIte, Nat.reduceEqDiff, ne_eq, not_false_eq_true]), (by exact h0c), (by exact g0), (by first | exact Or.inl (by omega) | exact Or.inr (by unfold isMk; omega)), (by intro j kj; first | (simp only [f0_0, f0_1, f0_2, upc, upn, kj, reduceIte, Nat.reduceEqDiff, ne_eq, not_false_eq_true]; done) | (simp only [f0_0, f0_1, f0_2, upc, upn, kj, reduceIte, Nat.reduceEqDiff, ne_eq, not_false_eq_true]; split; (exfalso; omega); rfl))⟩)⟩
        · refine Z_aload0 hk dX9_dropsToMark_29 ?_
          refine Z_Vv hk (c_X9_drops κ.2.1 δ ad _ hA  (by (try simp only [f0_0, f0_1, f0_2, and_true, true_and, or_true, true_or, implies_true, upn, reduceIte, Nat.reduceEqDiff, ne_eq, not_false_eq_true]) <;> (omega)) (by (try simp only [f0_0, f0_1, f0_2, and_true, true_and, or_true, true_or, implies_true, upn, reduceIte, Nat.reduceEqDiff, ne_eq, not_false_eq_true]) <;> (omega))) ov_X9_drops ml_X9_333 dX9_dropsToMark_30 rfl ⟨by decide, by decide⟩ ob_48.1 (by decide) (by decide) rfl (Nat.le_of_ble_eq_true rfl) (fun m30 p30 => ?_)
          obtain ⟨p30, f30_0, f30_1, f30_2, f30_3⟩ := p30
          try simp only [f30_0, f30_1, f30_2, f30_3, f0_0, f0_1, f0_2, e1, e5, e17, e22, and_true, true_and, or_true, true_or, implies_true, upn, reduceIte, Nat.reduceEqDiff, ne_eq, not_false_eq_true] at p30
          have wa := q4 (m0 48 45 - 1).toNat (by omega) (by omega)
          have hR : RP m30 a s := RP.drop h0c (by omega) (by omega) f30_2 (f30_0 83 (by decide) (by decide)) (by omega) q2 (Or.inl (by rw [f0_0 83 (by decide) (by decide)]; exact bn_ar (by unfold isMk at wa; omega) (by unfold isMk at wa; omega)))
          refine Z_goto hk (tgt := 0) dX9_dropsToMark_33 (by decide) ?_
          exact ih0 _ (by exact ⟨(by (try simp only [f30_0, f30_1, f30_2, f30_3, f0_0, f0_1, f0_2, and_true, true_and, or_true, true_or, implies_true, upn, reduceIte, Nat.reduceEqDiff, ne_eq, not_false_eq_true]) <;> (exact ⟨by omega, hR, fun j h1 h2 => (by by_cases ej : (j : Int) = m0 48 45 - 1; exact (by have e : j = (m0 48 45 - 1).toNat := (by omega); rw [e]; unfold isMk; omega); exact g0 j (by omega) h2)⟩)), (by intro c k0 k1; simp only [f30_0, f30_1, f30_2, f30_3, f0_0, f0_1, f0_2, upc, upn, k0, k1, reduceIte, Nat.reduceEqDiff, ne_eq, not_false_eq_true]), (by intro i k0 k1; simp only [f30_0, f30_1, f30_2, f30_3, f0_0, f0_1, f0_2, upc, upn, k0, k1, reduceIte, Nat.reduceEqDiff, ne_eq, not_false_eq_true]), (by intro j kj; first | (simp only [f30_0, f30_1, f30_2, f30_3, f0_0, f0_1, f0_2, upc, upn, kj, reduceIte, Nat.reduceEqDiff, ne_eq, not_false_eq_true]; done) | (simp only [f30_0, f30_1, f30_2, f30_3, f0_0, f0_1, f0_2, upc, upn, kj, reduceIte, Nat.reduceEqDiff, ne_eq, not_false_eq_true]; split; (exfalso; omega); rfl))⟩) (by (try simp only [f30_0, f30_1, f30_2, f30_3, f0_0, f0_1, f0_2, and_true, true_and, or_true, true_or, implies_true, upn, reduceIte, Nat.reduceEqDiff, ne_eq, not_false_eq_true]) <;> (omega))
  exact J0 ((((M 48 45) - (M 48 79)) : Int).toNat + 1) _ (by exact ⟨(by (exact ⟨by omega, q3, fun j h1 h2 => by omega⟩)), (by intro c k0 k1; rfl), (by intro i k0 k1; rfl), (by intro j kj; rfl)⟩) (by omega)
