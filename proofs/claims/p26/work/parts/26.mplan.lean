def LK (f : Nat → Int) : Prop := ∀ k : Nat, k < 4 → 0 ≤ f k ∧ f k ≤ 5
def KB (f : Nat → Int) : Prop := ∀ k : Nat, k < 20 → 0 ≤ f k ∧ f k ≤ 9999
def cq (e : Nat → Int) (k : Nat) : Int := if k = 0 then 0 else e (k - 1)
/-- the claims of the standing plan: their codes, from 800 on, are good for a stack -/
def CP (n : Int) (e f : Nat → Int) : Prop := ∀ k : Nat, (k : Int) < n → 0 ≤ cq e k ∧ cq e k ≤ e k ∧ e k ≤ 799 ∧ WF f (800 + (cq e k).toNat) ((e k).toNat - (cq e k).toNat)
theorem WF.shift {f g : Nat → Int} {a b n : Nat} (h : WF f a n) (e : ∀ j, j < n → g (b + j) = f (a + j)) : WF g b n := by
  have hd : ∀ m, m ≤ n → dpt g b m = dpt f a m := by
    intro m
    induction m with
    | zero => intro _; rfl
    | succ m ih =>
      intro hm
      show dpt g b m + ef (g (b + m)) = dpt f a m + ef (f (a + m))
      rw [ih (by omega), e _ (by omega)]
  intro j hj
  rw [e _ (by omega), hd j (by omega)]
  exact h j hj
theorem CP.of {M M' : Mem} (h : CS M) (h0 : M 48 43 ≤ 799) (e1 : ∀ k : Nat, (k : Int) < M 48 61 → M' 101 k = M 93 k) (e2 : ∀ j : Nat, (j : Int) < M 48 43 → M' 82 (800 + j) = M 82 j) (e3 : M' 48 77 = M 48 61) : CP (M' 48 77) (M' 101) (M' 82) := by
  rw [e3]
  intro k hk
  obtain ⟨c1, c2, c3, c4⟩ := h.2 k hk
  have q1 : cq (M' 101) k = cst M k := by
    unfold cq cst
    split
    · rfl
    · exact e1 _ (by omega)
  rw [q1, e1 k hk]
  refine ⟨c1, c2, by omega, c4.shift (fun j hj => ?_)⟩
  rw [Nat.add_assoc]
  exact e2 _ (by omega)
/-- how many of the first are not 0 -/
def cn (f : Nat → Int) : Nat → Nat
  | 0 => 0
  | n + 1 => cn f n + (if f n = 0 then 0 else 1)
theorem cn_zero {f : Nat → Int} {n : Nat} (h : ∀ j, j < n → f j = 0) : cn f n = 0 := by
  induction n with
  | zero => rfl
  | succ n ih =>
    show cn f n + (if f n = 0 then 0 else 1) = 0
    rw [ih (fun j hj => h j (by omega)), if_pos (h n (by omega))]
theorem cn_le (f : Nat → Int) (n : Nat) : cn f n ≤ n := by
  induction n with
  | zero => exact Nat.le_refl 0
  | succ n ih =>
    show cn f n + (if f n = 0 then 0 else 1) ≤ n + 1
    split <;> omega
theorem cn_far {f : Nat → Int} {k : Nat} {v : Int} {n : Nat} (h : n ≤ k) : cn (upr f k v) n = cn f n := by
  induction n with
  | zero => rfl
  | succ n ih =>
    show cn (upr f k v) n + (if upr f k v n = 0 then 0 else 1) = cn f n + (if f n = 0 then 0 else 1)
    rw [ih (by omega), upr_ne (by omega)]
theorem cn_set {f : Nat → Int} {k : Nat} {v : Int} {n : Nat} (h : f k = 0) (hv : v ≠ 0) (hk : k < n) : cn (upr f k v) n = cn f n + 1 := by
  induction n with
  | zero => omega
  | succ n ih =>
    show cn (upr f k v) n + (if upr f k v n = 0 then 0 else 1) = cn f n + (if f n = 0 then 0 else 1) + 1
    by_cases e : k = n
    · subst e
      rw [cn_far (Nat.le_refl _), upr_eq, if_neg hv, if_pos h]
    · rw [ih (by omega), upr_ne (by omega)]
      omega
theorem cn_up (f : Nat → Int) (k : Nat) (v : Int) (n : Nat) : cn (upr f k v) n ≤ cn f n + 1 := by
  induction n with
  | zero => exact Nat.zero_le _
  | succ n ih =>
    show cn (upr f k v) n + (if upr f k v n = 0 then 0 else 1) ≤ cn f n + (if f n = 0 then 0 else 1) + 1
    by_cases e : k = n
    · subst e
      rw [cn_far (Nat.le_refl _)]
      split <;> omega
    · rw [upr_ne (by omega)]
      omega
theorem cn_full {f : Nat → Int} {a : Nat} : ∀ n : Nat, (∀ j : Nat, a ≤ j → j < n → f j ≠ 0) → n ≤ cn f n + a := by
  intro n
  induction n with
  | zero => intro _; exact Nat.zero_le _
  | succ n ih =>
    intro h
    have i := ih (fun j h1 h2 => h j h1 (by omega))
    show n + 1 ≤ cn f n + (if f n = 0 then 0 else 1) + a
    by_cases e : a ≤ n
    · rw [if_neg (h n e (by omega))]
      omega
    · omega
theorem ex_free {f : Nat → Int} (h : (cn f 1000 : Int) ≤ 90) : ∃ w : Int, 100 ≤ w ∧ w ≤ 999 ∧ f w.toNat = 0 := by
  apply Classical.byContradiction
  intro c
  have g := cn_full (f := f) (a := 100) 1000 (fun j h1 h2 h3 => c ⟨(j : Int), by omega, by omega, by rw [show ((j : Int)).toNat = j from rfl]; exact h3⟩)
  omega
theorem CP.same {n n' : Int} {e e' f f' : Nat → Int} (h : CP n e f) (e1 : n' = n) (e2 : e' = e) (e3 : ∀ j, 800 ≤ j → f' j = f j) : CP n' e' f' := by
  subst e1 e2
  intro k hk
  obtain ⟨c1, c2, c3, c4⟩ := h k hk
  exact ⟨c1, c2, c3, c4.shift (fun j _ => e3 _ (by omega))⟩
set_option maxRecDepth 10000 in
theorem c_X9_places (l : Launch) (δ : Dp) (ad : Nat → Nat) (M : Mem) (hA : okA δ ad) (t : Int) (q0 : 0 ≤ t ∧ t ≤ 3) : Mi l δ yX9_places cX9_places 2 (some (.int)) 0 0 ad rs [.ref (ad 48), iv t] M (fun r M' => M = M' ∧ ((r = 2 ∨ r = 3) ∧ (r = 3 ↔ M 94 t.toNat ≠ 0))) := by
  refine Mg.of (rm := rmN 0 0) (by decide) (Nat.le_of_ble_eq_true rfl) fun κ _ hk _ => ?_
  generalize hQ : Qg κ δ 121 (rmN 0 0).cells (rmN 0 0).slots _ = Q
  show Zj κ δ ad rs Q 2 (121, 0, 0) 0 [some (.ref (ad 48)), some (iv t)] [] M
  refine Z_aload0 hk dX9_places_0 ?_
  refine Z_getR hk fl_9_152 dX9_places_1 ob_48.1 ob_48.2.1 ob_48.2.2.1 ob_48.2.2.2 ft_9_67 rs_48_67 ?_
  refine Z_iload1 hk dX9_places_4 ?_
  refine Z_zald hk dX9_places_5 ar_94.1 ar_94.2.1 ar_94.2.2 (by omega) (by omega) (fun v5 e5 a5 b5 => ?_)
  refine Z_if_eq hk (tgt := 13) dX9_places_6 (by decide) (by omega) (by omega) (fun h6 => ?_) (fun h6 => ?_)
  · refine Z_iconst hk dX9_places_13 ?_
    exact Z_iret hk hA hQ dX9_places_14 ⟨rfl, rfl, _, rfl, (by exact ⟨rfl, (by omega)⟩)⟩
  · refine Z_iconst hk dX9_places_9 ?_
    refine Z_goto hk (tgt := 14) dX9_places_10 (by decide) ?_
    exact Z_iret hk hA hQ dX9_places_14 ⟨rfl, rfl, _, rfl, (by exact ⟨rfl, (by omega)⟩)⟩
set_option maxRecDepth 10000 in
theorem c_X9_codesOf (l : Launch) (δ : Dp) (ad : Nat → Nat) (M : Mem) (hA : okA δ ad) (t : Int) (q0 : 0 ≤ t ∧ t ≤ 3) (q1 : 0 ≤ (M 48 81)) : Mv l δ yX9_codesOf cX9_codesOf 6 none 1 21 ad rs [.ref (ad 48), iv t] M (fun M' => (True) ∧ (∀ c : Nat, c ≠ 102 → c ≠ 103 → M' c = M c)) := by
  refine Mg.of (rm := rmN 1 21) (by decide) (Nat.le_of_ble_eq_true rfl) fun κ _ hk _ => ?_
  generalize hQ : Qg κ δ 121 (rmN 1 21).cells (rmN 1 21).slots _ = Q
  show Zj κ δ ad rs Q 6 (121, 0, 0) 0 [some (.ref (ad 48)), some (iv t), none, none, none, none] [] M
  refine Z_iconst hk dX9_codesOf_0 ?_
  have J2 : ∀ (n : Nat) (x2_2 : Int) (m2 : Mem), (((0 ≤ x2_2 ∧ x2_2 ≤ 1000) ∧ ∀ j : Nat, (j : Int) < x2_2 → m2 103 j = 0) ∧ (∀ c : Nat, c ≠ 103 → m2 c = M c)) → (1000 - x2_2) < (n : Int) → Zj κ δ ad rs Q 6 (121, 0, 0) 2 [some (.ref (ad 48)), some (iv t), some (iv x2_2), none, none, none] [] m2 := by
    intro n
    induction n with
    | zero => intro x2_2 m2 h2 hm2; exfalso; obtain ⟨h2, -⟩ := h2; omega
    | succ n ih2 =>
      intro x2_2 m2 h2 hm2
      obtain ⟨h2, f2_0⟩ := h2
      try simp only [f2_0, and_true, true_and, or_true, true_or, implies_true, upn, reduceIte, Nat.reduceEqDiff, ne_eq, not_false_eq_true] at h2 hm2
      refine Z_iload2 hk dX9_codesOf_2 ?_
      refine Z_sipush hk dX9_codesOf_3 (by decide) ?_
      refine Z_icmp_ge hk (tgt := 22) dX9_codesOf_6 (by decide) (by omega) (by omega) (by decide) (by decide) (fun h6 => ?_) (fun h6 => ?_)
      · refine Z_aload0 hk dX9_codesOf_22 ?_
        refine Z_getI hk fl_9_424 dX9_codesOf_23 ob_48.1 ob_48.2.1 ob_48.2.2.1 ob_48.2.2.2 ft_9_81 (fun v23 e23 a23 b23 => ?_)
        try simp only [f2_0, and_true, true_and, or_true, true_or, implies_true, upn, reduceIte, Nat.reduceEqDiff, ne_eq, not_false_eq_true] at e23
        refine Z_i2l hk dX9_codesOf_26 (by omega) (by omega) ?_
        refine Z_lstore2 hk rfl (by decide) dX9_codesOf_27 ?_
        refine Z_iconst hk dX9_codesOf_28 ?_
        have J31 : ∀ (n : Nat) (x2_31 : Int) (x4_31 : Int) (m31 : Mem), (((0 ≤ x2_31 ∧ x2_31 ≤ 2147483647 ∧ 0 ≤ x4_31 ∧ x4_31 ≤ 90) ∧ (cn (m31 103) 1000 : Int) ≤ x4_31) ∧ (∀ c : Nat, c ≠ 102 → c ≠ 103 → m31 c = m2 c)) → (90 - x4_31) < (n : Int) → Zj κ δ ad rs Q 6 (121, 0, 0) 31 [some (.ref (ad 48)), some (iv t), some (jv x2_31), none, some (iv x4_31), none] [] m31 := by
          intro n
          induction n with
          | zero => intro x2_31 x4_31 m31 h31 hm31; exfalso; obtain ⟨h31, -⟩ := h31; omega
          | succ n ih31 =>
            intro x2_31 x4_31 m31 h31 hm31
            obtain ⟨h31, f31_0⟩ := h31
            try simp only [f31_0, f2_0, and_true, true_and, or_true, true_or, implies_true, upn, reduceIte, Nat.reduceEqDiff, ne_eq, not_false_eq_true] at h31 hm31
            refine Z_iload4 hk dX9_codesOf_31 ?_
            refine Z_bipush hk dX9_codesOf_33 (by decide) ?_
            refine Z_aload0 hk dX9_codesOf_35 ?_
            refine Z_iload1 hk dX9_codesOf_36 ?_
            refine Z_Vi hk (c_X9_places κ.2.1 δ ad _ hA t (by (try simp only [f31_0, f2_0, and_true, true_and, or_true, true_or, implies_true, upn, reduceIte, Nat.reduceEqDiff, ne_eq, not_false_eq_true]) <;> (omega))) ov_X9_places ml_X9_454 dX9_codesOf_37 rfl ⟨by decide, by decide⟩ ob_48.1 (by decide) (by decide) rfl (Nat.le_of_ble_eq_true rfl) (fun r37 m37 p37 => ?_)
            obtain ⟨rfl, p37⟩ := p37
            try simp only [f31_0, f2_0, e23, and_true, true_and, or_true, true_or, implies_true, upn, reduceIte, Nat.reduceEqDiff, ne_eq, not_false_eq_true] at p37
            refine Z_imul hk dX9_codesOf_40 ?_
            refine Z_icmp_ge hk (tgt := 133) dX9_codesOf_41 (by decide) (by omega) (by omega) (by omega) (by omega) (fun h41 => ?_) (fun h41 => ?_)
            · exact Z_vret hk hA hQ dX9_codesOf_133 ⟨rfl, rfl, rfl, (by exact ⟨(by (try simp only [f31_0, f2_0, and_true, true_and, or_true, true_or, implies_true, upn, reduceIte, Nat.reduceEqDiff, ne_eq, not_false_eq_true]) <;> (trivial)), (by intro c k0 k1; simp only [f31_0, f2_0, upc, upn, k0, k1, reduceIte, Nat.reduceEqDiff, ne_eq, not_false_eq_true])⟩)⟩
            · obtain ⟨w, hw1, hw2, hw3⟩ := ex_free (f := m31 103) (by omega)
              refine Z_ldc2_w hk (n := 1103515245) (mem_g (by decide +kernel)) dX9_codesOf_44 ?_
              refine Z_lload2 hk dX9_codesOf_47 ?_
              refine Z_lmul hk dX9_codesOf_48 ?_
              refine Z_ldc2_w hk (n := 12345) (mem_g (by decide +kernel)) dX9_codesOf_49 ?_
              refine Z_ladd hk dX9_codesOf_52 ?_
              refine Z_ldc2_w hk (n := 2147483648) (mem_g (by decide +kernel)) dX9_codesOf_53 ?_
              refine Z_lrem hk dX9_codesOf_56 (by omega) (by omega) (by omega) (by omega) (by omega) ?_
              have g57 := tm_in (x := 1103515245 * x2_31 + 12345) (y := 2147483648) (by omega) (by decide)
              have g58 := td_in (x := Int.tmod (1103515245 * x2_31 + 12345) 2147483648) (y := 256) (by omega) (by decide)
              have g59 := tm_in (x := Int.tdiv (Int.tmod (1103515245 * x2_31 + 12345) 2147483648) 256) (y := 900) (by omega) (by decide)
              refine Z_lstore2 hk rfl (by decide) dX9_codesOf_57 ?_
              refine Z_bipush hk dX9_codesOf_58 (by decide) ?_
              refine Z_lload2 hk dX9_codesOf_60 ?_
              refine Z_ldc2_w hk (n := 256) (mem_g (by decide +kernel)) dX9_codesOf_61 ?_
              refine Z_ldiv hk dX9_codesOf_64 (by omega) (by omega) (by omega) (by omega) (by omega) ?_
              refine Z_ldc2_w hk (n := 900) (mem_g (by decide +kernel)) dX9_codesOf_65 ?_
              refine Z_lrem hk dX9_codesOf_68 (by omega) (by omega) (by omega) (by omega) (by omega) ?_
              refine Z_l2i hk dX9_codesOf_69 ?_
              refine Z_iadd hk dX9_codesOf_70 ?_
              have J73 : ∀ (n : Nat) (x5_73 : Int), (100 ≤ x5_73 ∧ x5_73 ≤ 999) → ((w - x5_73) % 900) < (n : Int) → Zj κ δ ad rs Q 6 (121, 0, 0) 73 [some (.ref (ad 48)), some (iv t), some (jv (Int.tmod (((1103515245) * x2_31) + (12345)) (2147483648))), none, some (iv x4_31), some (iv x5_73)] [] m31 := by
                intro n
                induction n with
                | zero => intro x5_73 h73 hm73; exfalso; (try simp only [f31_0, f2_0, and_true, true_and, or_true, true_or, implies_true, upn, reduceIte, Nat.reduceEqDiff, ne_eq, not_false_eq_true] at h73 hm73); omega
                | succ n ih73 =>
                  intro x5_73 h73 hm73
                  try simp only [f31_0, f2_0, and_true, true_and, or_true, true_or, implies_true, upn, reduceIte, Nat.reduceEqDiff, ne_eq, not_false_eq_true] at h73 hm73
                  refine Z_aload0 hk dX9_codesOf_73 ?_
                  refine Z_getR hk fl_9_185 dX9_codesOf_74 ob_48.1 ob_48.2.1 ob_48.2.2.1 ob_48.2.2.2 ft_9_83 rs_48_83 ?_
                  refine Z_iload5 hk dX9_codesOf_77 ?_
                  refine Z_zald hk dX9_codesOf_79 ar_103.1 ar_103.2.1 ar_103.2.2 (by omega) (by omega) (fun v79 e79 a79 b79 => ?_)
                  try simp only [f31_0, f2_0, e23, and_true, true_and, or_true, true_or, implies_true, upn, reduceIte, Nat.reduceEqDiff, ne_eq, not_false_eq_true] at e79
                  have hne : v79 ≠ 0 → x5_73 ≠ w := fun a b => by subst b; omega
                  refine Z_if_eq hk (tgt := 105) dX9_codesOf_80 (by decide) (by omega) (by omega) (fun h80 => ?_) (fun h80 => ?_)
                  · refine Z_aload0 hk dX9_codesOf_105 ?_
                    refine Z_getR hk fl_9_185 dX9_codesOf_106 ob_48.1 ob_48.2.1 ob_48.2.2.1 ob_48.2.2.2 ft_9_83 rs_48_83 ?_
                    refine Z_iload5 hk dX9_codesOf_109 ?_
                    refine Z_iconst hk dX9_codesOf_111 ?_
                    refine Z_zast hk hA dX9_codesOf_112 ar_103.1 ar_103.2.1 ar_103.2.2 (by omega) (by omega) (by decide) (by decide) ?_
                    refine Z_nm (fun m112 em112 => ?_)
                    refine Z_aload0 hk dX9_codesOf_113 ?_
                    refine Z_getR hk fl_9_182 dX9_codesOf_114 ob_48.1 ob_48.2.1 ob_48.2.2.1 ob_48.2.2.2 ft_9_82 rs_48_82 ?_
                    refine Z_bipush hk dX9_codesOf_117 (by decide) ?_
                    refine Z_iload1 hk dX9_codesOf_119 ?_
                    refine Z_imul hk dX9_codesOf_120 ?_
                    refine Z_iload4 hk dX9_codesOf_121 ?_
                    refine Z_iadd hk dX9_codesOf_123 ?_
                    refine Z_iload5 hk dX9_codesOf_124 ?_
                    refine Z_iast hk hA dX9_codesOf_126 ar_102.1 ar_102.2.1 ar_102.2.2 (by omega) (by omega) (by omega) (by omega) ?_
                    refine Z_nm (fun m126 em126 => ?_)
                    refine Z_iinc4 hk rfl (by decide) dX9_codesOf_127 ?_
                    refine Z_goto hk (tgt := 31) dX9_codesOf_130 (by decide) ?_
                    refine Z_drop5 ?_
                    exact ih31 _ _ _ (by exact ⟨(by (exact ⟨by omega, by have g := cn_up (m31 103) x5_73.toNat 1 1000; simp only [em126, em112, f31_0, f2_0, e23, e79, and_true, true_and, or_true, true_or, implies_true, upn, reduceIte, Nat.reduceEqDiff, ne_eq, not_false_eq_true, upc]; omega⟩)), (by intro c k0 k1; simp only [em126, em112, f31_0, f2_0, upc, upn, k0, k1, reduceIte, Nat.reduceEqDiff, ne_eq, not_false_eq_true])⟩) (by (try simp only [em126, em112, f31_0, f2_0, and_true, true_and, or_true, true_or, implies_true, upn, reduceIte, Nat.reduceEqDiff, ne_eq, not_false_eq_true]) <;> (omega))
                  · refine Z_iload5 hk dX9_codesOf_83 ?_
                    refine Z_sipush hk dX9_codesOf_85 (by decide) ?_
                    have J100 : ∀ (y0_100 : Int), ((x5_73 = 999 ∧ y0_100 = 100) ∨ (x5_73 ≠ 999 ∧ y0_100 = x5_73 + 1)) → Zj κ δ ad rs Q 6 (121, 0, 0) 100 [some (.ref (ad 48)), some (iv t), some (jv (Int.tmod (((1103515245) * x2_31) + (12345)) (2147483648))), none, some (iv x4_31), some (iv x5_73)] [iv y0_100] m31 := by
                      intro y0_100 h100
                      try simp only [f31_0, f2_0, and_true, true_and, or_true, true_or, implies_true, upn, reduceIte, Nat.reduceEqDiff, ne_eq, not_false_eq_true] at h100
                      refine Z_istore5 hk rfl (by decide) dX9_codesOf_100 ?_
                      refine Z_goto hk (tgt := 73) dX9_codesOf_102 (by decide) ?_
                      exact ih73 _ (by (try simp only [f31_0, f2_0, and_true, true_and, or_true, true_or, implies_true, upn, reduceIte, Nat.reduceEqDiff, ne_eq, not_false_eq_true]) <;> (omega)) (by (try simp only [f31_0, f2_0, and_true, true_and, or_true, true_or, implies_true, upn, reduceIte, Nat.reduceEqDiff, ne_eq, not_false_eq_true]) <;> (omega))
                    refine Z_icmp_ne hk (tgt := 96) dX9_codesOf_88 (by decide) (by omega) (by omega) (by decide) (by decide) (fun h88 => ?_) (fun h88 => ?_)
                    · refine Z_iload5 hk dX9_codesOf_96 ?_
                      refine Z_iconst hk dX9_codesOf_98 ?_
                      refine Z_iadd hk dX9_codesOf_99 ?_
                      exact J100 _ (by (try simp only [f31_0, f2_0, and_true, true_and, or_true, true_or, implies_true, upn, reduceIte, Nat.reduceEqDiff, ne_eq, not_false_eq_true]) <;> (omega))
                    · refine Z_bipush hk dX9_codesOf_91 (by decide) ?_
                      refine Z_goto hk (tgt := 100) dX9_codesOf_93 (by decide) ?_
                      exact J100 _ (by (try simp only [f31_0, f2_0, and_true, true_and, or_true, true_or, implies_true, upn, reduceIte, Nat.reduceEqDiff, ne_eq, not_false_eq_true]) <;> (omega))
              refine Z_istore5 hk rfl (by decide) dX9_codesOf_71 ?_
              exact J73 ((((w - (100 + (Int.tmod (Int.tdiv (Int.tmod (((1103515245) * x2_31) + (12345)) (2147483648)) (256)) (900)))) % 900) : Int).toNat + 1) _ (by (try simp only [f31_0, f2_0, and_true, true_and, or_true, true_or, implies_true, upn, reduceIte, Nat.reduceEqDiff, ne_eq, not_false_eq_true]) <;> (omega)) (by omega)
        refine Z_istore4 hk rfl (by decide) dX9_codesOf_29 ?_
        exact J31 (((90 - 0) : Int).toNat + 1) _ _ _ (by exact ⟨(by (exact ⟨by omega, by rw [cn_zero (fun j hj => h2.2 j (by omega))]; omega⟩)), (by intro c k0 k1; simp only [f2_0, upc, upn, k0, k1, reduceIte, Nat.reduceEqDiff, ne_eq, not_false_eq_true])⟩) (by omega)
      · refine Z_aload0 hk dX9_codesOf_9 ?_
        refine Z_getR hk fl_9_185 dX9_codesOf_10 ob_48.1 ob_48.2.1 ob_48.2.2.1 ob_48.2.2.2 ft_9_83 rs_48_83 ?_
        refine Z_iload2 hk dX9_codesOf_13 ?_
        refine Z_iconst hk dX9_codesOf_14 ?_
        refine Z_zast hk hA dX9_codesOf_15 ar_103.1 ar_103.2.1 ar_103.2.2 (by omega) (by omega) (by decide) (by decide) ?_
        refine Z_nm (fun m15 em15 => ?_)
        refine Z_iinc2 hk rfl (by decide) dX9_codesOf_16 ?_
        refine Z_goto hk (tgt := 2) dX9_codesOf_19 (by decide) ?_
        exact ih2 _ _ (by exact ⟨(by (exact ⟨by omega, fun j hj => by simp only [em15, f2_0, and_true, true_and, or_true, true_or, implies_true, upn, reduceIte, Nat.reduceEqDiff, ne_eq, not_false_eq_true, upc]; split; rfl; exact h2.2 j (by omega)⟩)), (by intro c k0; simp only [em15, f2_0, upc, upn, k0, reduceIte, Nat.reduceEqDiff, ne_eq, not_false_eq_true])⟩) (by (try simp only [em15, f2_0, and_true, true_and, or_true, true_or, implies_true, upn, reduceIte, Nat.reduceEqDiff, ne_eq, not_false_eq_true]) <;> (omega))
  refine Z_istore2 hk rfl (by decide) dX9_codesOf_1 ?_
  exact J2 (((1000 - 0) : Int).toNat + 1) _ _ (by exact ⟨(by (exact ⟨by omega, fun j hj => by omega⟩)), (by intro c k0; rfl)⟩) (by omega)
set_option maxRecDepth 10000 in
theorem c_X9_stands (l : Launch) (δ : Dp) (ad : Nat → Nat) (M : Mem) (hA : okA δ ad) (q1 : 0 ≤ (M 48 50) ∧ (M 48 50) ≤ 4) (q3 : 0 ≤ (M 48 43) ∧ (M 48 43) ≤ 700) (q4 : NL M) (q5 : NK M) (q6 : 0 ≤ (M 48 61) ∧ (M 48 61) ≤ 8) (q7 : CS M) (q8 : 0 ≤ (M 48 81)) (q9 : LK (M 97)) : Mv l δ yX9_stands cX9_stands 2 none 2 46 ad rs [.ref (ad 48)] M (fun M' => ((M' 48 65) = (M 48 48) ∧ (M' 48 66) = (M 48 50) ∧ (M' 48 76) = (M 48 60) ∧ (M' 48 77) = (M 48 61) ∧ (M' 48 84) = 0 ∧ (M' 48 91) = -1) ∧ (∀ c : Nat, c ≠ 100 → c ≠ 101 → c ≠ 102 → c ≠ 103 → c ≠ 48 → c ≠ 82 → c ≠ 94 → c ≠ 95 → c ≠ 96 → c ≠ 97 → c ≠ 98 → c ≠ 99 → M' c = M c) ∧ (∀ i : Nat, i ≠ 64 → i ≠ 65 → i ≠ 66 → i ≠ 74 → i ≠ 75 → i ≠ 76 → i ≠ 77 → i ≠ 84 → i ≠ 91 → i ≠ 92 → M' 48 i = M 48 i) ∧ (LK (M' 97)) ∧ (KB (M' 99)) ∧ (KB (M' 100)) ∧ (CP (M' 48 77) (M' 101) (M' 82))) := by
  refine Mg.of (rm := rmN 2 46) (by decide) (Nat.le_of_ble_eq_true rfl) fun κ _ hk _ => ?_
  generalize hQ : Qg κ δ 121 (rmN 2 46).cells (rmN 2 46).slots _ = Q
  show Zj κ δ ad rs Q 2 (121, 0, 0) 0 [some (.ref (ad 48)), none] [] M
  refine Z_aload0 hk dX9_stands_0 ?_
  refine Z_iconst hk dX9_stands_1 ?_
  refine Z_putZ hk hA fl_9_430 dX9_stands_2 ob_48.1 ob_48.2.1 ob_48.2.2.1 ob_48.2.2.2 ft_9_64 (by decide) (by decide) ?_
  refine Z_nm (fun m2 em2 => ?_)
  refine Z_aload0 hk dX9_stands_5 ?_
  refine Z_aload0 hk dX9_stands_6 ?_
  refine Z_getI hk fl_9_300 dX9_stands_7 ob_48.1 ob_48.2.1 ob_48.2.2.1 ob_48.2.2.2 ft_9_48 (fun v7 e7 a7 b7 => ?_)
  try simp only [em2, and_true, true_and, or_true, true_or, implies_true, upn, reduceIte, Nat.reduceEqDiff, ne_eq, not_false_eq_true] at e7
  refine Z_putI hk hA fl_9_433 dX9_stands_10 ob_48.1 ob_48.2.1 ob_48.2.2.1 ob_48.2.2.2 ft_9_65 (by omega) (by omega) ?_
  refine Z_nm (fun m10 em10 => ?_)
  refine Z_aload0 hk dX9_stands_13 ?_
  refine Z_aload0 hk dX9_stands_14 ?_
  refine Z_getI hk fl_9_346 dX9_stands_15 ob_48.1 ob_48.2.1 ob_48.2.2.1 ob_48.2.2.2 ft_9_50 (fun v15 e15 a15 b15 => ?_)
  try simp only [em10, em2, e7, and_true, true_and, or_true, true_or, implies_true, upn, reduceIte, Nat.reduceEqDiff, ne_eq, not_false_eq_true] at e15
  refine Z_putI hk hA fl_9_436 dX9_stands_18 ob_48.1 ob_48.2.1 ob_48.2.2.1 ob_48.2.2.2 ft_9_66 (by omega) (by omega) ?_
  refine Z_nm (fun m18 em18 => ?_)
  refine Z_aload0 hk dX9_stands_21 ?_
  refine Z_aload0 hk dX9_stands_22 ?_
  refine Z_getI hk fl_9_402 dX9_stands_23 ob_48.1 ob_48.2.1 ob_48.2.2.1 ob_48.2.2.2 ft_9_58 (fun v23 e23 a23 b23 => ?_)
  try simp only [em18, em10, em2, e7, e15, and_true, true_and, or_true, true_or, implies_true, upn, reduceIte, Nat.reduceEqDiff, ne_eq, not_false_eq_true] at e23
  refine Z_putI hk hA fl_9_173 dX9_stands_26 ob_48.1 ob_48.2.1 ob_48.2.2.1 ob_48.2.2.2 ft_9_74 (by omega) (by omega) ?_
  refine Z_nm (fun m26 em26 => ?_)
  refine Z_aload0 hk dX9_stands_29 ?_
  refine Z_aload0 hk dX9_stands_30 ?_
  refine Z_getZ hk fl_9_405 dX9_stands_31 ob_48.1 ob_48.2.1 ob_48.2.2.1 ob_48.2.2.2 ft_9_59 (fun v31 e31 a31 b31 => ?_)
  try simp only [em26, em18, em10, em2, e7, e15, e23, and_true, true_and, or_true, true_or, implies_true, upn, reduceIte, Nat.reduceEqDiff, ne_eq, not_false_eq_true] at e31
  refine Z_putZ hk hA fl_9_439 dX9_stands_34 ob_48.1 ob_48.2.1 ob_48.2.2.1 ob_48.2.2.2 ft_9_75 (by omega) (by omega) ?_
  refine Z_nm (fun m34 em34 => ?_)
  refine Z_aload0 hk dX9_stands_37 ?_
  refine Z_aload0 hk dX9_stands_38 ?_
  refine Z_getI hk fl_9_409 dX9_stands_39 ob_48.1 ob_48.2.1 ob_48.2.2.1 ob_48.2.2.2 ft_9_60 (fun v39 e39 a39 b39 => ?_)
  try simp only [em34, em26, em18, em10, em2, e7, e15, e23, e31, and_true, true_and, or_true, true_or, implies_true, upn, reduceIte, Nat.reduceEqDiff, ne_eq, not_false_eq_true] at e39
  refine Z_putI hk hA fl_9_176 dX9_stands_42 ob_48.1 ob_48.2.1 ob_48.2.2.1 ob_48.2.2.2 ft_9_76 (by omega) (by omega) ?_
  refine Z_nm (fun m42 em42 => ?_)
  refine Z_aload0 hk dX9_stands_45 ?_
  refine Z_aload0 hk dX9_stands_46 ?_
  refine Z_getI hk fl_9_311 dX9_stands_47 ob_48.1 ob_48.2.1 ob_48.2.2.1 ob_48.2.2.2 ft_9_61 (fun v47 e47 a47 b47 => ?_)
  try simp only [em42, em34, em26, em18, em10, em2, e7, e15, e23, e31, e39, and_true, true_and, or_true, true_or, implies_true, upn, reduceIte, Nat.reduceEqDiff, ne_eq, not_false_eq_true] at e47
  refine Z_putI hk hA fl_9_442 dX9_stands_50 ob_48.1 ob_48.2.1 ob_48.2.2.1 ob_48.2.2.2 ft_9_77 (by omega) (by omega) ?_
  refine Z_nm (fun m50 em50 => ?_)
  refine Z_iconst hk dX9_stands_53 ?_
  have J55 : ∀ (n : Nat) (x1_55 : Int) (m55 : Mem), (((0 ≤ x1_55 ∧ x1_55 ≤ (M 48 50)) ∧ ∀ j : Nat, j < 4 → 0 ≤ m55 97 j ∧ m55 97 j ≤ 5) ∧ (∀ c : Nat, c ≠ 94 → c ≠ 95 → c ≠ 96 → c ≠ 97 → m55 c = m50 c)) → ((M 48 50) - x1_55) < (n : Int) → Zj κ δ ad rs Q 2 (121, 0, 0) 55 [some (.ref (ad 48)), some (iv x1_55)] [] m55 := by
    intro n
    induction n with
    | zero => intro x1_55 m55 h55 hm55; exfalso; obtain ⟨h55, -⟩ := h55; omega
    | succ n ih55 =>
      intro x1_55 m55 h55 hm55
      obtain ⟨h55, f55_0⟩ := h55
      try simp only [f55_0, em50, em42, em34, em26, em18, em10, em2, and_true, true_and, or_true, true_or, implies_true, upn, reduceIte, Nat.reduceEqDiff, ne_eq, not_false_eq_true] at h55 hm55
      refine Z_iload1 hk dX9_stands_55 ?_
      refine Z_aload0 hk dX9_stands_56 ?_
      refine Z_getI hk fl_9_436 dX9_stands_57 ob_48.1 ob_48.2.1 ob_48.2.2.1 ob_48.2.2.2 ft_9_66 (fun v57 e57 a57 b57 => ?_)
      try simp only [f55_0, em50, em42, em34, em26, em18, em10, em2, e7, e15, e23, e31, e39, e47, and_true, true_and, or_true, true_or, implies_true, upn, reduceIte, Nat.reduceEqDiff, ne_eq, not_false_eq_true] at e57
      refine Z_icmp_ge hk (tgt := 117) dX9_stands_60 (by decide) (by omega) (by omega) (by omega) (by omega) (fun h60 => ?_) (fun h60 => ?_)
      · refine Z_iconst hk dX9_stands_117 ?_
        have J119 : ∀ (n : Nat) (x1_119 : Int) (m119 : Mem), (((0 ≤ x1_119 ∧ x1_119 ≤ 20) ∧ ∀ j : Nat, (j : Int) < x1_119 → m119 99 j = M 90 j ∧ m119 100 j = M 91 j) ∧ (∀ c : Nat, c ≠ 100 → c ≠ 98 → c ≠ 99 → m119 c = m55 c)) → (20 - x1_119) < (n : Int) → Zj κ δ ad rs Q 2 (121, 0, 0) 119 [some (.ref (ad 48)), some (iv x1_119)] [] m119 := by
          intro n
          induction n with
          | zero => intro x1_119 m119 h119 hm119; exfalso; obtain ⟨h119, -⟩ := h119; omega
          | succ n ih119 =>
            intro x1_119 m119 h119 hm119
            obtain ⟨h119, f119_0⟩ := h119
            try simp only [f119_0, f55_0, em50, em42, em34, em26, em18, em10, em2, and_true, true_and, or_true, true_or, implies_true, upn, reduceIte, Nat.reduceEqDiff, ne_eq, not_false_eq_true] at h119 hm119
            refine Z_iload1 hk dX9_stands_119 ?_
            refine Z_bipush hk dX9_stands_120 (by decide) ?_
            refine Z_icmp_ge hk (tgt := 167) dX9_stands_122 (by decide) (by omega) (by omega) (by decide) (by decide) (fun h122 => ?_) (fun h122 => ?_)
            · refine Z_iconst hk dX9_stands_167 ?_
              have J169 : ∀ (n : Nat) (x1_169 : Int) (m169 : Mem), (((0 ≤ x1_169 ∧ x1_169 ≤ (M 48 61)) ∧ ∀ j : Nat, (j : Int) < x1_169 → m169 101 j = M 93 j) ∧ (∀ c : Nat, c ≠ 101 → m169 c = m119 c)) → ((M 48 61) - x1_169) < (n : Int) → Zj κ δ ad rs Q 2 (121, 0, 0) 169 [some (.ref (ad 48)), some (iv x1_169)] [] m169 := by
                intro n
                induction n with
                | zero => intro x1_169 m169 h169 hm169; exfalso; obtain ⟨h169, -⟩ := h169; omega
                | succ n ih169 =>
                  intro x1_169 m169 h169 hm169
                  obtain ⟨h169, f169_0⟩ := h169
                  try simp only [f169_0, f119_0, f55_0, em50, em42, em34, em26, em18, em10, em2, and_true, true_and, or_true, true_or, implies_true, upn, reduceIte, Nat.reduceEqDiff, ne_eq, not_false_eq_true] at h169 hm169
                  refine Z_iload1 hk dX9_stands_169 ?_
                  refine Z_aload0 hk dX9_stands_170 ?_
                  refine Z_getI hk fl_9_442 dX9_stands_171 ob_48.1 ob_48.2.1 ob_48.2.2.1 ob_48.2.2.2 ft_9_77 (fun v171 e171 a171 b171 => ?_)
                  try simp only [f169_0, f119_0, f55_0, em50, em42, em34, em26, em18, em10, em2, e7, e15, e23, e31, e39, e47, e57, and_true, true_and, or_true, true_or, implies_true, upn, reduceIte, Nat.reduceEqDiff, ne_eq, not_false_eq_true] at e171
                  refine Z_icmp_ge hk (tgt := 195) dX9_stands_174 (by decide) (by omega) (by omega) (by omega) (by omega) (fun h174 => ?_) (fun h174 => ?_)
                  · refine Z_iconst hk dX9_stands_195 ?_
                    have J197 : ∀ (n : Nat) (x1_197 : Int) (m197 : Mem), (((0 ≤ x1_197 ∧ x1_197 ≤ (M 48 43)) ∧ (∀ j : Nat, (j : Int) < x1_197 → m197 82 (800 + j) = M 82 j) ∧ ∀ j : Nat, j < 800 → m197 82 j = M 82 j) ∧ (∀ c : Nat, c ≠ 82 → m197 c = m169 c)) → ((M 48 43) - x1_197) < (n : Int) → Zj κ δ ad rs Q 2 (121, 0, 0) 197 [some (.ref (ad 48)), some (iv x1_197)] [] m197 := by
                      intro n
                      induction n with
                      | zero => intro x1_197 m197 h197 hm197; exfalso; obtain ⟨h197, -⟩ := h197; omega
                      | succ n ih197 =>
                        intro x1_197 m197 h197 hm197
                        obtain ⟨h197, f197_0⟩ := h197
                        try simp only [f197_0, f169_0, f119_0, f55_0, em50, em42, em34, em26, em18, em10, em2, and_true, true_and, or_true, true_or, implies_true, upn, reduceIte, Nat.reduceEqDiff, ne_eq, not_false_eq_true] at h197 hm197
                        refine Z_iload1 hk dX9_stands_197 ?_
                        refine Z_aload0 hk dX9_stands_198 ?_
                        refine Z_getI hk fl_9_314 dX9_stands_199 ob_48.1 ob_48.2.1 ob_48.2.2.1 ob_48.2.2.2 ft_9_43 (fun v199 e199 a199 b199 => ?_)
                        try simp only [f197_0, f169_0, f119_0, f55_0, em50, em42, em34, em26, em18, em10, em2, e7, e15, e23, e31, e39, e47, e57, e171, and_true, true_and, or_true, true_or, implies_true, upn, reduceIte, Nat.reduceEqDiff, ne_eq, not_false_eq_true] at e199
                        refine Z_icmp_ge hk (tgt := 229) dX9_stands_202 (by decide) (by omega) (by omega) (by omega) (by omega) (fun h202 => ?_) (fun h202 => ?_)
                        · refine Z_aload0 hk dX9_stands_229 ?_
                          refine Z_iconst hk dX9_stands_230 ?_
                          refine Z_putI hk hA fl_9_445 dX9_stands_231 ob_48.1 ob_48.2.1 ob_48.2.2.1 ob_48.2.2.2 ft_9_84 (by decide) (by decide) ?_
                          refine Z_nm (fun m231 em231 => ?_)
                          refine Z_aload0 hk dX9_stands_234 ?_
                          refine Z_iconst hk dX9_stands_235 ?_
                          refine Z_putI hk hA fl_9_206 dX9_stands_236 ob_48.1 ob_48.2.1 ob_48.2.2.1 ob_48.2.2.2 ft_9_91 (by decide) (by decide) ?_
                          refine Z_nm (fun m236 em236 => ?_)
                          refine Z_aload0 hk dX9_stands_239 ?_
                          refine Z_iconst hk dX9_stands_240 ?_
                          refine Z_putZ hk hA fl_9_448 dX9_stands_241 ob_48.1 ob_48.2.1 ob_48.2.2.1 ob_48.2.2.2 ft_9_92 (by decide) (by decide) ?_
                          refine Z_nm (fun m241 em241 => ?_)
                          refine Z_iconst hk dX9_stands_244 ?_
                          have J246 : ∀ (n : Nat) (x1_246 : Int) (m246 : Mem), ((0 ≤ x1_246 ∧ x1_246 ≤ (M 48 50)) ∧ (∀ c : Nat, c ≠ 102 → c ≠ 103 → m246 c = m241 c)) → ((M 48 50) - x1_246) < (n : Int) → Zj κ δ ad rs Q 2 (121, 0, 0) 246 [some (.ref (ad 48)), some (iv x1_246)] [] m246 := by
                            intro n
                            induction n with
                            | zero => intro x1_246 m246 h246 hm246; exfalso; obtain ⟨h246, -⟩ := h246; omega
                            | succ n ih246 =>
                              intro x1_246 m246 h246 hm246
                              obtain ⟨h246, f246_0⟩ := h246
                              try simp only [f246_0, em241, em236, em231, f197_0, f169_0, f119_0, f55_0, em50, em42, em34, em26, em18, em10, em2, and_true, true_and, or_true, true_or, implies_true, upn, reduceIte, Nat.reduceEqDiff, ne_eq, not_false_eq_true] at h246 hm246
                              refine Z_iload1 hk dX9_stands_246 ?_
                              refine Z_aload0 hk dX9_stands_247 ?_
                              refine Z_getI hk fl_9_436 dX9_stands_248 ob_48.1 ob_48.2.1 ob_48.2.2.1 ob_48.2.2.2 ft_9_66 (fun v248 e248 a248 b248 => ?_)
                              try simp only [f246_0, em241, em236, em231, f197_0, f169_0, f119_0, f55_0, em50, em42, em34, em26, em18, em10, em2, e7, e15, e23, e31, e39, e47, e57, e171, e199, and_true, true_and, or_true, true_or, implies_true, upn, reduceIte, Nat.reduceEqDiff, ne_eq, not_false_eq_true] at e248
                              refine Z_icmp_ge hk (tgt := 265) dX9_stands_251 (by decide) (by omega) (by omega) (by omega) (by omega) (fun h251 => ?_) (fun h251 => ?_)
                              · have hxa : LK (m246 97) := fun k hk => by (try simp only [f246_0, em241, em236, em231, f197_0, f169_0, f119_0, f55_0, em50, em42, em34, em26, em18, em10, em2, e7, e15, e23, e31, e39, e47, e57, e171, e199, e248, and_true, true_and, or_true, true_or, implies_true, upn, reduceIte, Nat.reduceEqDiff, ne_eq, not_false_eq_true, upc]); exact h55.2 k hk
                                have hxb : KB (m246 99) := fun k hk => by (try simp only [f246_0, em241, em236, em231, f197_0, f169_0, f119_0, f55_0, em50, em42, em34, em26, em18, em10, em2, e7, e15, e23, e31, e39, e47, e57, e171, e199, e248, and_true, true_and, or_true, true_or, implies_true, upn, reduceIte, Nat.reduceEqDiff, ne_eq, not_false_eq_true, upc]); rw [(h119.2 k (by omega)).1]; have := q5 k; omega
                                have hxc : KB (m246 100) := fun k hk => by (try simp only [f246_0, em241, em236, em231, f197_0, f169_0, f119_0, f55_0, em50, em42, em34, em26, em18, em10, em2, e7, e15, e23, e31, e39, e47, e57, e171, e199, e248, and_true, true_and, or_true, true_or, implies_true, upn, reduceIte, Nat.reduceEqDiff, ne_eq, not_false_eq_true, upc]); rw [(h119.2 k (by omega)).2]; have := q5 k; omega
                                have hxd : CP (m246 48 77) (m246 101) (m246 82) := CP.of q7 (by omega) (fun k hk => by (try simp only [f246_0, em241, em236, em231, f197_0, f169_0, f119_0, f55_0, em50, em42, em34, em26, em18, em10, em2, e7, e15, e23, e31, e39, e47, e57, e171, e199, e248, and_true, true_and, or_true, true_or, implies_true, upn, reduceIte, Nat.reduceEqDiff, ne_eq, not_false_eq_true, upc]); exact h169.2 k (by omega)) (fun k hk => by (try simp only [f246_0, em241, em236, em231, f197_0, f169_0, f119_0, f55_0, em50, em42, em34, em26, em18, em10, em2, e7, e15, e23, e31, e39, e47, e57, e171, e199, e248, and_true, true_and, or_true, true_or, implies_true, upn, reduceIte, Nat.reduceEqDiff, ne_eq, not_false_eq_true, upc]); exact h197.2.1 k (by omega)) (by simp only [f246_0, em241, em236, em231, f197_0, f169_0, f119_0, f55_0, em50, em42, em34, em26, em18, em10, em2, e7, e15, e23, e31, e39, e47, e57, e171, e199, e248, and_true, true_and, or_true, true_or, implies_true, upn, reduceIte, Nat.reduceEqDiff, ne_eq, not_false_eq_true, upc])
                                exact Z_vret hk hA hQ dX9_stands_265 ⟨rfl, rfl, rfl, (by exact ⟨(by (try simp only [f246_0, em241, em236, em231, f197_0, f169_0, f119_0, f55_0, em50, em42, em34, em26, em18, em10, em2, and_true, true_and, or_true, true_or, implies_true, upn, reduceIte, Nat.reduceEqDiff, ne_eq, not_false_eq_true]) <;> (omega)), (by intro c k0 k1 k2 k3 k4 k5 k6 k7 k8 k9 k10 k11; simp only [f246_0, em241, em236, em231, f197_0, f169_0, f119_0, f55_0, em50, em42, em34, em26, em18, em10, em2, upc, upn, k0, k1, k2, k3, k4, k5, k6, k7, k8, k9, k10, k11, reduceIte, Nat.reduceEqDiff, ne_eq, not_false_eq_true]), (by intro i k0 k1 k2 k3 k4 k5 k6 k7 k8 k9; simp only [f246_0, em241, em236, em231, f197_0, f169_0, f119_0, f55_0, em50, em42, em34, em26, em18, em10, em2, upc, upn, k0, k1, k2, k3, k4, k5, k6, k7, k8, k9, reduceIte, Nat.reduceEqDiff, ne_eq, not_false_eq_true]), (by exact hxa), (by exact hxb), (by exact hxc), (by exact hxd)⟩)⟩
                              · refine Z_aload0 hk dX9_stands_254 ?_
                                refine Z_iload1 hk dX9_stands_255 ?_
                                refine Z_Vv hk (c_X9_codesOf κ.2.1 δ ad _ hA x1_246 (by (try simp only [f246_0, em241, em236, em231, f197_0, f169_0, f119_0, f55_0, em50, em42, em34, em26, em18, em10, em2, and_true, true_and, or_true, true_or, implies_true, upn, reduceIte, Nat.reduceEqDiff, ne_eq, not_false_eq_true]) <;> (omega)) (by (try simp only [f246_0, em241, em236, em231, f197_0, f169_0, f119_0, f55_0, em50, em42, em34, em26, em18, em10, em2, and_true, true_and, or_true, true_or, implies_true, upn, reduceIte, Nat.reduceEqDiff, ne_eq, not_false_eq_true]) <;> (omega))) ov_X9_codesOf ml_X9_451 dX9_stands_256 rfl ⟨by decide, by decide⟩ ob_48.1 (by decide) (by decide) rfl (Nat.le_of_ble_eq_true rfl) (fun m256 p256 => ?_)
                                obtain ⟨p256, f256_0⟩ := p256
                                try simp only [f256_0, f246_0, em241, em236, em231, f197_0, f169_0, f119_0, f55_0, em50, em42, em34, em26, em18, em10, em2, e7, e15, e23, e31, e39, e47, e57, e171, e199, e248, and_true, true_and, or_true, true_or, implies_true, upn, reduceIte, Nat.reduceEqDiff, ne_eq, not_false_eq_true] at p256
                                refine Z_iinc1 hk rfl (by decide) dX9_stands_259 ?_
                                refine Z_goto hk (tgt := 246) dX9_stands_262 (by decide) ?_
                                exact ih246 _ _ (by exact ⟨(by (try simp only [f256_0, f246_0, em241, em236, em231, f197_0, f169_0, f119_0, f55_0, em50, em42, em34, em26, em18, em10, em2, and_true, true_and, or_true, true_or, implies_true, upn, reduceIte, Nat.reduceEqDiff, ne_eq, not_false_eq_true]) <;> (omega)), (by intro c k0 k1; simp only [f256_0, f246_0, em241, em236, em231, f197_0, f169_0, f119_0, f55_0, em50, em42, em34, em26, em18, em10, em2, upc, upn, k0, k1, reduceIte, Nat.reduceEqDiff, ne_eq, not_false_eq_true])⟩) (by (try simp only [f256_0, f246_0, em241, em236, em231, f197_0, f169_0, f119_0, f55_0, em50, em42, em34, em26, em18, em10, em2, and_true, true_and, or_true, true_or, implies_true, upn, reduceIte, Nat.reduceEqDiff, ne_eq, not_false_eq_true]) <;> (omega))
                          refine Z_istore1 hk rfl (by decide) dX9_stands_245 ?_
                          exact J246 ((((M 48 50) - 0) : Int).toNat + 1) _ _ (by exact ⟨(by (try simp only [em241, em236, em231, f197_0, f169_0, f119_0, f55_0, em50, em42, em34, em26, em18, em10, em2, and_true, true_and, or_true, true_or, implies_true, upn, reduceIte, Nat.reduceEqDiff, ne_eq, not_false_eq_true]) <;> (omega)), (by intro c k0 k1; simp only [em241, em236, em231, f197_0, f169_0, f119_0, f55_0, em50, em42, em34, em26, em18, em10, em2, upc, upn, k0, k1, reduceIte, Nat.reduceEqDiff, ne_eq, not_false_eq_true])⟩) (by omega)
                        · refine Z_aload0 hk dX9_stands_205 ?_
                          refine Z_getR hk fl_9_114 dX9_stands_206 ob_48.1 ob_48.2.1 ob_48.2.2.1 ob_48.2.2.2 ft_9_42 rs_48_42 ?_
                          refine Z_sipush hk dX9_stands_209 (by decide) ?_
                          refine Z_iload1 hk dX9_stands_212 ?_
                          refine Z_iadd hk dX9_stands_213 ?_
                          refine Z_aload0 hk dX9_stands_214 ?_
                          refine Z_getR hk fl_9_114 dX9_stands_215 ob_48.1 ob_48.2.1 ob_48.2.2.1 ob_48.2.2.2 ft_9_42 rs_48_42 ?_
                          refine Z_iconst hk dX9_stands_218 ?_
                          refine Z_iload1 hk dX9_stands_219 ?_
                          refine Z_iadd hk dX9_stands_220 ?_
                          refine Z_iald hk dX9_stands_221 ar_82.1 ar_82.2.1 ar_82.2.2 (by omega) (by omega) (fun v221 e221 a221 b221 => ?_)
                          try simp only [f197_0, f169_0, f119_0, f55_0, em50, em42, em34, em26, em18, em10, em2, e7, e15, e23, e31, e39, e47, e57, e171, e199, and_true, true_and, or_true, true_or, implies_true, upn, reduceIte, Nat.reduceEqDiff, ne_eq, not_false_eq_true] at e221
                          refine Z_iast hk hA dX9_stands_222 ar_82.1 ar_82.2.1 ar_82.2.2 (by omega) (by omega) (by omega) (by omega) ?_
                          refine Z_nm (fun m222 em222 => ?_)
                          refine Z_iinc1 hk rfl (by decide) dX9_stands_223 ?_
                          refine Z_goto hk (tgt := 197) dX9_stands_226 (by decide) ?_
                          exact ih197 _ _ (by exact ⟨(by (exact ⟨by omega, (fun j hj => by simp only [em222, f197_0, f169_0, f119_0, f55_0, em50, em42, em34, em26, em18, em10, em2, e7, e15, e23, e31, e39, e47, e57, e171, e199, e221, and_true, true_and, or_true, true_or, implies_true, upn, reduceIte, Nat.reduceEqDiff, ne_eq, not_false_eq_true, upc]; split; (rename_i hh; rw [h197.2.2 _ (by omega)]; congr 1; omega); exact h197.2.1 j (by omega)), fun j hj => by simp only [em222, f197_0, f169_0, f119_0, f55_0, em50, em42, em34, em26, em18, em10, em2, e7, e15, e23, e31, e39, e47, e57, e171, e199, e221, and_true, true_and, or_true, true_or, implies_true, upn, reduceIte, Nat.reduceEqDiff, ne_eq, not_false_eq_true, upc]; rw [if_neg (by omega)]; exact h197.2.2 j hj⟩)), (by intro c k0; simp only [em222, f197_0, f169_0, f119_0, f55_0, em50, em42, em34, em26, em18, em10, em2, upc, upn, k0, reduceIte, Nat.reduceEqDiff, ne_eq, not_false_eq_true])⟩) (by (try simp only [em222, f197_0, f169_0, f119_0, f55_0, em50, em42, em34, em26, em18, em10, em2, and_true, true_and, or_true, true_or, implies_true, upn, reduceIte, Nat.reduceEqDiff, ne_eq, not_false_eq_true]) <;> (omega))
                    refine Z_istore1 hk rfl (by decide) dX9_stands_196 ?_
                    exact J197 ((((M 48 43) - 0) : Int).toNat + 1) _ _ (by exact ⟨(by (exact ⟨by omega, (fun j hj => by omega), fun j hj => by simp only [f169_0, f119_0, f55_0, em50, em42, em34, em26, em18, em10, em2, e7, e15, e23, e31, e39, e47, e57, e171, and_true, true_and, or_true, true_or, implies_true, upn, reduceIte, Nat.reduceEqDiff, ne_eq, not_false_eq_true, upc]⟩)), (by intro c k0; simp only [f169_0, f119_0, f55_0, em50, em42, em34, em26, em18, em10, em2, upc, upn, k0, reduceIte, Nat.reduceEqDiff, ne_eq, not_false_eq_true])⟩) (by omega)
                  · refine Z_aload0 hk dX9_stands_177 ?_
                    refine Z_getR hk fl_9_179 dX9_stands_178 ob_48.1 ob_48.2.1 ob_48.2.2.1 ob_48.2.2.2 ft_9_78 rs_48_78 ?_
                    refine Z_iload1 hk dX9_stands_181 ?_
                    refine Z_aload0 hk dX9_stands_182 ?_
                    refine Z_getR hk fl_9_149 dX9_stands_183 ob_48.1 ob_48.2.1 ob_48.2.2.1 ob_48.2.2.2 ft_9_63 rs_48_63 ?_
                    refine Z_iload1 hk dX9_stands_186 ?_
                    refine Z_iald hk dX9_stands_187 ar_93.1 ar_93.2.1 ar_93.2.2 (by omega) (by omega) (fun v187 e187 a187 b187 => ?_)
                    try simp only [f169_0, f119_0, f55_0, em50, em42, em34, em26, em18, em10, em2, e7, e15, e23, e31, e39, e47, e57, e171, and_true, true_and, or_true, true_or, implies_true, upn, reduceIte, Nat.reduceEqDiff, ne_eq, not_false_eq_true] at e187
                    refine Z_iast hk hA dX9_stands_188 ar_101.1 ar_101.2.1 ar_101.2.2 (by omega) (by omega) (by omega) (by omega) ?_
                    refine Z_nm (fun m188 em188 => ?_)
                    refine Z_iinc1 hk rfl (by decide) dX9_stands_189 ?_
                    refine Z_goto hk (tgt := 169) dX9_stands_192 (by decide) ?_
                    exact ih169 _ _ (by exact ⟨(by (exact ⟨by omega, fun j hj => by simp only [em188, f169_0, f119_0, f55_0, em50, em42, em34, em26, em18, em10, em2, e7, e15, e23, e31, e39, e47, e57, e171, e187, and_true, true_and, or_true, true_or, implies_true, upn, reduceIte, Nat.reduceEqDiff, ne_eq, not_false_eq_true, upc]; split; (rename_i hh; subst hh; rfl); exact h169.2 j (by omega)⟩)), (by intro c k0; simp only [em188, f169_0, f119_0, f55_0, em50, em42, em34, em26, em18, em10, em2, upc, upn, k0, reduceIte, Nat.reduceEqDiff, ne_eq, not_false_eq_true])⟩) (by (try simp only [em188, f169_0, f119_0, f55_0, em50, em42, em34, em26, em18, em10, em2, and_true, true_and, or_true, true_or, implies_true, upn, reduceIte, Nat.reduceEqDiff, ne_eq, not_false_eq_true]) <;> (omega))
              refine Z_istore1 hk rfl (by decide) dX9_stands_168 ?_
              exact J169 ((((M 48 61) - 0) : Int).toNat + 1) _ _ (by exact ⟨(by (exact ⟨by omega, fun j hj => by omega⟩)), (by intro c k0; simp only [f119_0, f55_0, em50, em42, em34, em26, em18, em10, em2, upc, upn, k0, reduceIte, Nat.reduceEqDiff, ne_eq, not_false_eq_true])⟩) (by omega)
            · refine Z_aload0 hk dX9_stands_125 ?_
              refine Z_getR hk fl_9_164 dX9_stands_126 ob_48.1 ob_48.2.1 ob_48.2.2.1 ob_48.2.2.2 ft_9_71 rs_48_71 ?_
              refine Z_iload1 hk dX9_stands_129 ?_
              refine Z_aload0 hk dX9_stands_130 ?_
              refine Z_getR hk fl_9_137 dX9_stands_131 ob_48.1 ob_48.2.1 ob_48.2.2.1 ob_48.2.2.2 ft_9_55 rs_48_55 ?_
              refine Z_iload1 hk dX9_stands_134 ?_
              refine Z_iald hk dX9_stands_135 ar_89.1 ar_89.2.1 ar_89.2.2 (by omega) (by omega) (fun v135 e135 a135 b135 => ?_)
              try simp only [f119_0, f55_0, em50, em42, em34, em26, em18, em10, em2, e7, e15, e23, e31, e39, e47, e57, and_true, true_and, or_true, true_or, implies_true, upn, reduceIte, Nat.reduceEqDiff, ne_eq, not_false_eq_true] at e135
              refine Z_iast hk hA dX9_stands_136 ar_98.1 ar_98.2.1 ar_98.2.2 (by omega) (by omega) (by omega) (by omega) ?_
              refine Z_nm (fun m136 em136 => ?_)
              refine Z_aload0 hk dX9_stands_137 ?_
              refine Z_getR hk fl_9_167 dX9_stands_138 ob_48.1 ob_48.2.1 ob_48.2.2.1 ob_48.2.2.2 ft_9_72 rs_48_72 ?_
              refine Z_iload1 hk dX9_stands_141 ?_
              refine Z_aload0 hk dX9_stands_142 ?_
              refine Z_getR hk fl_9_140 dX9_stands_143 ob_48.1 ob_48.2.1 ob_48.2.2.1 ob_48.2.2.2 ft_9_56 rs_48_56 ?_
              refine Z_iload1 hk dX9_stands_146 ?_
              refine Z_iald hk dX9_stands_147 ar_90.1 ar_90.2.1 ar_90.2.2 (by omega) (by omega) (fun v147 e147 a147 b147 => ?_)
              try simp only [em136, f119_0, f55_0, em50, em42, em34, em26, em18, em10, em2, e7, e15, e23, e31, e39, e47, e57, e135, and_true, true_and, or_true, true_or, implies_true, upn, reduceIte, Nat.reduceEqDiff, ne_eq, not_false_eq_true] at e147
              refine Z_iast hk hA dX9_stands_148 ar_99.1 ar_99.2.1 ar_99.2.2 (by omega) (by omega) (by omega) (by omega) ?_
              refine Z_nm (fun m148 em148 => ?_)
              refine Z_aload0 hk dX9_stands_149 ?_
              refine Z_getR hk fl_9_170 dX9_stands_150 ob_48.1 ob_48.2.1 ob_48.2.2.1 ob_48.2.2.2 ft_9_73 rs_48_73 ?_
              refine Z_iload1 hk dX9_stands_153 ?_
              refine Z_aload0 hk dX9_stands_154 ?_
              refine Z_getR hk fl_9_143 dX9_stands_155 ob_48.1 ob_48.2.1 ob_48.2.2.1 ob_48.2.2.2 ft_9_57 rs_48_57 ?_
              refine Z_iload1 hk dX9_stands_158 ?_
              refine Z_iald hk dX9_stands_159 ar_91.1 ar_91.2.1 ar_91.2.2 (by omega) (by omega) (fun v159 e159 a159 b159 => ?_)
              try simp only [em148, em136, f119_0, f55_0, em50, em42, em34, em26, em18, em10, em2, e7, e15, e23, e31, e39, e47, e57, e135, e147, and_true, true_and, or_true, true_or, implies_true, upn, reduceIte, Nat.reduceEqDiff, ne_eq, not_false_eq_true] at e159
              refine Z_iast hk hA dX9_stands_160 ar_100.1 ar_100.2.1 ar_100.2.2 (by omega) (by omega) (by omega) (by omega) ?_
              refine Z_nm (fun m160 em160 => ?_)
              refine Z_iinc1 hk rfl (by decide) dX9_stands_161 ?_
              refine Z_goto hk (tgt := 119) dX9_stands_164 (by decide) ?_
              exact ih119 _ _ (by exact ⟨(by (exact ⟨by omega, fun j hj => by simp only [em160, em148, em136, f119_0, f55_0, em50, em42, em34, em26, em18, em10, em2, e7, e15, e23, e31, e39, e47, e57, e135, e147, e159, and_true, true_and, or_true, true_or, implies_true, upn, reduceIte, Nat.reduceEqDiff, ne_eq, not_false_eq_true, upc]; split; (rename_i hh; subst hh; exact ⟨rfl, rfl⟩); exact h119.2 j (by omega)⟩)), (by intro c k0 k1 k2; simp only [em160, em148, em136, f119_0, f55_0, em50, em42, em34, em26, em18, em10, em2, upc, upn, k0, k1, k2, reduceIte, Nat.reduceEqDiff, ne_eq, not_false_eq_true])⟩) (by (try simp only [em160, em148, em136, f119_0, f55_0, em50, em42, em34, em26, em18, em10, em2, and_true, true_and, or_true, true_or, implies_true, upn, reduceIte, Nat.reduceEqDiff, ne_eq, not_false_eq_true]) <;> (omega))
        refine Z_istore1 hk rfl (by decide) dX9_stands_118 ?_
        exact J119 (((20 - 0) : Int).toNat + 1) _ _ (by exact ⟨(by (exact ⟨by omega, fun j hj => by omega⟩)), (by intro c k0 k1 k2; simp only [f55_0, em50, em42, em34, em26, em18, em10, em2, upc, upn, k0, k1, k2, reduceIte, Nat.reduceEqDiff, ne_eq, not_false_eq_true])⟩) (by omega)
      · refine Z_aload0 hk dX9_stands_63 ?_
        refine Z_getR hk fl_9_152 dX9_stands_64 ob_48.1 ob_48.2.1 ob_48.2.2.1 ob_48.2.2.2 ft_9_67 rs_48_67 ?_
        refine Z_iload1 hk dX9_stands_67 ?_
        refine Z_aload0 hk dX9_stands_68 ?_
        refine Z_getR hk fl_9_124 dX9_stands_69 ob_48.1 ob_48.2.1 ob_48.2.2.1 ob_48.2.2.2 ft_9_51 rs_48_51 ?_
        refine Z_iload1 hk dX9_stands_72 ?_
        refine Z_zald hk dX9_stands_73 ar_85.1 ar_85.2.1 ar_85.2.2 (by omega) (by omega) (fun v73 e73 a73 b73 => ?_)
        try simp only [f55_0, em50, em42, em34, em26, em18, em10, em2, e7, e15, e23, e31, e39, e47, e57, and_true, true_and, or_true, true_or, implies_true, upn, reduceIte, Nat.reduceEqDiff, ne_eq, not_false_eq_true] at e73
        refine Z_zast hk hA dX9_stands_74 ar_94.1 ar_94.2.1 ar_94.2.2 (by omega) (by omega) (by omega) (by omega) ?_
        refine Z_nm (fun m74 em74 => ?_)
        refine Z_aload0 hk dX9_stands_75 ?_
        refine Z_getR hk fl_9_155 dX9_stands_76 ob_48.1 ob_48.2.1 ob_48.2.2.1 ob_48.2.2.2 ft_9_68 rs_48_68 ?_
        refine Z_iload1 hk dX9_stands_79 ?_
        refine Z_aload0 hk dX9_stands_80 ?_
        refine Z_getR hk fl_9_128 dX9_stands_81 ob_48.1 ob_48.2.1 ob_48.2.2.1 ob_48.2.2.2 ft_9_52 rs_48_52 ?_
        refine Z_iload1 hk dX9_stands_84 ?_
        refine Z_iald hk dX9_stands_85 ar_86.1 ar_86.2.1 ar_86.2.2 (by omega) (by omega) (fun v85 e85 a85 b85 => ?_)
        try simp only [em74, f55_0, em50, em42, em34, em26, em18, em10, em2, e7, e15, e23, e31, e39, e47, e57, e73, and_true, true_and, or_true, true_or, implies_true, upn, reduceIte, Nat.reduceEqDiff, ne_eq, not_false_eq_true] at e85
        refine Z_iast hk hA dX9_stands_86 ar_95.1 ar_95.2.1 ar_95.2.2 (by omega) (by omega) (by omega) (by omega) ?_
        refine Z_nm (fun m86 em86 => ?_)
        refine Z_aload0 hk dX9_stands_87 ?_
        refine Z_getR hk fl_9_158 dX9_stands_88 ob_48.1 ob_48.2.1 ob_48.2.2.1 ob_48.2.2.2 ft_9_69 rs_48_69 ?_
        refine Z_iload1 hk dX9_stands_91 ?_
        refine Z_aload0 hk dX9_stands_92 ?_
        refine Z_getR hk fl_9_131 dX9_stands_93 ob_48.1 ob_48.2.1 ob_48.2.2.1 ob_48.2.2.2 ft_9_53 rs_48_53 ?_
        refine Z_iload1 hk dX9_stands_96 ?_
        refine Z_iald hk dX9_stands_97 ar_87.1 ar_87.2.1 ar_87.2.2 (by omega) (by omega) (fun v97 e97 a97 b97 => ?_)
        try simp only [em86, em74, f55_0, em50, em42, em34, em26, em18, em10, em2, e7, e15, e23, e31, e39, e47, e57, e73, e85, and_true, true_and, or_true, true_or, implies_true, upn, reduceIte, Nat.reduceEqDiff, ne_eq, not_false_eq_true] at e97
        refine Z_iast hk hA dX9_stands_98 ar_96.1 ar_96.2.1 ar_96.2.2 (by omega) (by omega) (by omega) (by omega) ?_
        refine Z_nm (fun m98 em98 => ?_)
        refine Z_aload0 hk dX9_stands_99 ?_
        refine Z_getR hk fl_9_161 dX9_stands_100 ob_48.1 ob_48.2.1 ob_48.2.2.1 ob_48.2.2.2 ft_9_70 rs_48_70 ?_
        refine Z_iload1 hk dX9_stands_103 ?_
        refine Z_aload0 hk dX9_stands_104 ?_
        refine Z_getR hk fl_9_134 dX9_stands_105 ob_48.1 ob_48.2.1 ob_48.2.2.1 ob_48.2.2.2 ft_9_54 rs_48_54 ?_
        refine Z_iload1 hk dX9_stands_108 ?_
        refine Z_iald hk dX9_stands_109 ar_88.1 ar_88.2.1 ar_88.2.2 (by omega) (by omega) (fun v109 e109 a109 b109 => ?_)
        try simp only [em98, em86, em74, f55_0, em50, em42, em34, em26, em18, em10, em2, e7, e15, e23, e31, e39, e47, e57, e73, e85, e97, and_true, true_and, or_true, true_or, implies_true, upn, reduceIte, Nat.reduceEqDiff, ne_eq, not_false_eq_true] at e109
        refine Z_iast hk hA dX9_stands_110 ar_97.1 ar_97.2.1 ar_97.2.2 (by omega) (by omega) (by omega) (by omega) ?_
        refine Z_nm (fun m110 em110 => ?_)
        refine Z_iinc1 hk rfl (by decide) dX9_stands_111 ?_
        refine Z_goto hk (tgt := 55) dX9_stands_114 (by decide) ?_
        exact ih55 _ _ (by exact ⟨(by (exact ⟨by omega, fun j hj => by have y := q4 j; have z := h55.2 j hj; simp only [em110, em98, em86, em74, f55_0, em50, em42, em34, em26, em18, em10, em2, e7, e15, e23, e31, e39, e47, e57, e73, e85, e97, e109, and_true, true_and, or_true, true_or, implies_true, upn, reduceIte, Nat.reduceEqDiff, ne_eq, not_false_eq_true, upc]; split; (rename_i hh; subst hh; exact y (by omega)); exact z⟩)), (by intro c k0 k1 k2 k3; simp only [em110, em98, em86, em74, f55_0, em50, em42, em34, em26, em18, em10, em2, upc, upn, k0, k1, k2, k3, reduceIte, Nat.reduceEqDiff, ne_eq, not_false_eq_true])⟩) (by (try simp only [em110, em98, em86, em74, f55_0, em50, em42, em34, em26, em18, em10, em2, and_true, true_and, or_true, true_or, implies_true, upn, reduceIte, Nat.reduceEqDiff, ne_eq, not_false_eq_true]) <;> (omega))
  refine Z_istore1 hk rfl (by decide) dX9_stands_54 ?_
  exact J55 ((((M 48 50) - 0) : Int).toNat + 1) _ _ (by exact ⟨(by (exact ⟨by omega, fun j hj => by simp only [em50, em42, em34, em26, em18, em10, em2, e7, e15, e23, e31, e39, e47, and_true, true_and, or_true, true_or, implies_true, upn, reduceIte, Nat.reduceEqDiff, ne_eq, not_false_eq_true, upc]; exact q9 j hj⟩)), (by intro c k0 k1 k2 k3; simp only [em50, em42, em34, em26, em18, em10, em2, upc, upn, k0, k1, k2, k3, reduceIte, Nat.reduceEqDiff, ne_eq, not_false_eq_true])⟩) (by omega)
set_option maxHeartbeats 1000000 in
set_option maxRecDepth 10000 in
theorem c_X9_plan (l : Launch) (δ : Dp) (ad : Nat → Nat) (M : Mem) (hA : okA δ ad) (s : Int) (q0 : 0 ≤ (M 48 1) ∧ (M 48 1) ≤ 700) (q5 : NK M) (q6 : 0 ≤ (M 48 65) ∧ (M 48 65) ≤ 6 ∧ 0 ≤ (M 48 66) ∧ (M 48 66) ≤ 4 ∧ -1 ≤ (M 48 76) ∧ (M 48 76) ≤ 5 ∧ 0 ≤ (M 48 77) ∧ (M 48 77) ≤ 8 ∧ 0 ≤ (M 48 84) ∧ (M 48 84) ≤ 250 ∧ -1 ≤ (M 48 91) ∧ (M 48 91) ≤ (M 48 84)) (q7 : LK (M 97)) (q8 : KB (M 99)) (q9 : KB (M 100)) (qa : CP (M 48 77) (M 101) (M 82)) (i_s : -2147483648 ≤ s ∧ s ≤ 2147483647) : Mi l δ yX9_plan cX9_plan 2 (some (.int)) 11 242 ad rs [.ref (ad 48), iv s] M (fun r M' => (0 ≤ (M' 48 1) ∧ (M' 48 1) ≤ 700 ∧ 0 ≤ (M' 48 65) ∧ (M' 48 65) ≤ 6 ∧ 0 ≤ (M' 48 66) ∧ (M' 48 66) ≤ 4 ∧ -1 ≤ (M' 48 76) ∧ (M' 48 76) ≤ 5 ∧ 0 ≤ (M' 48 77) ∧ (M' 48 77) ≤ 8 ∧ 0 ≤ (M' 48 84) ∧ (M' 48 84) ≤ 250 ∧ -1 ≤ (M' 48 91) ∧ (M' 48 91) ≤ (M' 48 84) ∧ ((M' 48 84) = (M 48 84) ∨ (M' 48 84) = 0)) ∧ (∀ c : Nat, c ≠ 100 → c ≠ 101 → c ≠ 102 → c ≠ 103 → c ≠ 48 → c ≠ 82 → c ≠ 83 → c ≠ 84 → c ≠ 85 → c ≠ 86 → c ≠ 87 → c ≠ 88 → c ≠ 89 → c ≠ 90 → c ≠ 91 → c ≠ 92 → c ≠ 93 → c ≠ 94 → c ≠ 95 → c ≠ 96 → c ≠ 97 → c ≠ 98 → c ≠ 99 → M' c = M c) ∧ (∀ i : Nat, i ≠ 1 → i ≠ 2 → i ≠ 3 → i ≠ 4 → i ≠ 5 → i ≠ 6 → i ≠ 7 → i ≠ 8 → i ≠ 41 → i ≠ 43 → i ≠ 45 → i ≠ 46 → i ≠ 47 → i ≠ 48 → i ≠ 50 → i ≠ 58 → i ≠ 59 → i ≠ 60 → i ≠ 61 → i ≠ 64 → i ≠ 65 → i ≠ 66 → i ≠ 74 → i ≠ 75 → i ≠ 76 → i ≠ 77 → i ≠ 79 → i ≠ 80 → i ≠ 81 → i ≠ 84 → i ≠ 91 → i ≠ 92 → M' 48 i = M 48 i) ∧ (NK M') ∧ (LK (M' 97)) ∧ (KB (M' 99)) ∧ (KB (M' 100)) ∧ (CP (M' 48 77) (M' 101) (M' 82))) := by
  refine Mg.of (rm := rmN 11 242) (by decide) (Nat.le_of_ble_eq_true rfl) fun κ _ hk _ => ?_
  generalize hQ : Qg κ δ 121 (rmN 11 242).cells (rmN 11 242).slots _ = Q
  show Zj κ δ ad rs Q 2 (121, 0, 0) 0 [some (.ref (ad 48)), some (iv s)] [] M
  refine Z_iload1 hk dX9_plan_0 ?_
  refine Z_if_ge hk (tgt := 12) dX9_plan_1 (by decide) (by omega) (by omega) (fun h1 => ?_) (fun h1 => ?_)
  · refine Z_aload0 hk dX9_plan_12 ?_
    refine Z_aload0 hk dX9_plan_13 ?_
    refine Z_getI hk fl_9_242 dX9_plan_14 ob_48.1 ob_48.2.1 ob_48.2.2.1 ob_48.2.2.2 ft_9_1 (fun v14 e14 a14 b14 => ?_)
    refine Z_putI hk hA fl_9_254 dX9_plan_17 ob_48.1 ob_48.2.1 ob_48.2.2.1 ob_48.2.2.2 ft_9_3 (by omega) (by omega) ?_
    refine Z_nm (fun m17 em17 => ?_)
    refine Z_aload0 hk dX9_plan_20 ?_
    refine Z_iconst hk dX9_plan_21 ?_
    refine Z_putI hk hA fl_9_242 dX9_plan_22 ob_48.1 ob_48.2.1 ob_48.2.2.1 ob_48.2.2.2 ft_9_1 (by decide) (by decide) ?_
    refine Z_nm (fun m22 em22 => ?_)
    refine Z_aload0 hk dX9_plan_25 ?_
    refine Z_iconst hk dX9_plan_26 ?_
    refine Z_putI hk hA fl_9_251 dX9_plan_27 ob_48.1 ob_48.2.1 ob_48.2.2.1 ob_48.2.2.2 ft_9_2 (by decide) (by decide) ?_
    refine Z_nm (fun m27 em27 => ?_)
    refine Z_aload0 hk dX9_plan_30 ?_
    refine Z_iconst hk dX9_plan_31 ?_
    refine Z_putI hk hA fl_9_265 dX9_plan_32 ob_48.1 ob_48.2.1 ob_48.2.2.1 ob_48.2.2.2 ft_9_4 (by decide) (by decide) ?_
    refine Z_nm (fun m32 em32 => ?_)
    refine Z_aload0 hk dX9_plan_35 ?_
    refine Z_iconst hk dX9_plan_36 ?_
    refine Z_putI hk hA fl_9_245 dX9_plan_37 ob_48.1 ob_48.2.1 ob_48.2.2.1 ob_48.2.2.2 ft_9_5 (by decide) (by decide) ?_
    refine Z_nm (fun m37 em37 => ?_)
    refine Z_aload0 hk dX9_plan_40 ?_
    refine Z_iconst hk dX9_plan_41 ?_
    refine Z_putI hk hA fl_9_248 dX9_plan_42 ob_48.1 ob_48.2.1 ob_48.2.2.1 ob_48.2.2.2 ft_9_6 (by decide) (by decide) ?_
    refine Z_nm (fun m42 em42 => ?_)
    refine Z_aload0 hk dX9_plan_45 ?_
    refine Z_iconst hk dX9_plan_46 ?_
    refine Z_putI hk hA fl_9_314 dX9_plan_47 ob_48.1 ob_48.2.1 ob_48.2.2.1 ob_48.2.2.2 ft_9_43 (by decide) (by decide) ?_
    refine Z_nm (fun m47 em47 => ?_)
    refine Z_aload0 hk dX9_plan_50 ?_
    refine Z_iconst hk dX9_plan_51 ?_
    refine Z_putI hk hA fl_9_415 dX9_plan_52 ob_48.1 ob_48.2.1 ob_48.2.2.1 ob_48.2.2.2 ft_9_47 (by decide) (by decide) ?_
    refine Z_nm (fun m52 em52 => ?_)
    refine Z_aload0 hk dX9_plan_55 ?_
    refine Z_iconst hk dX9_plan_56 ?_
    refine Z_putI hk hA fl_9_300 dX9_plan_57 ob_48.1 ob_48.2.1 ob_48.2.2.1 ob_48.2.2.2 ft_9_48 (by decide) (by decide) ?_
    refine Z_nm (fun m57 em57 => ?_)
    refine Z_aload0 hk dX9_plan_60 ?_
    refine Z_iconst hk dX9_plan_61 ?_
    refine Z_putI hk hA fl_9_346 dX9_plan_62 ob_48.1 ob_48.2.1 ob_48.2.2.1 ob_48.2.2.2 ft_9_50 (by decide) (by decide) ?_
    refine Z_nm (fun m62 em62 => ?_)
    refine Z_aload0 hk dX9_plan_65 ?_
    refine Z_iconst hk dX9_plan_66 ?_
    refine Z_putI hk hA fl_9_402 dX9_plan_67 ob_48.1 ob_48.2.1 ob_48.2.2.1 ob_48.2.2.2 ft_9_58 (by decide) (by decide) ?_
    refine Z_nm (fun m67 em67 => ?_)
    refine Z_aload0 hk dX9_plan_70 ?_
    refine Z_iconst hk dX9_plan_71 ?_
    refine Z_putZ hk hA fl_9_405 dX9_plan_72 ob_48.1 ob_48.2.1 ob_48.2.2.1 ob_48.2.2.2 ft_9_59 (by decide) (by decide) ?_
    refine Z_nm (fun m72 em72 => ?_)
    refine Z_aload0 hk dX9_plan_75 ?_
    refine Z_iconst hk dX9_plan_76 ?_
    refine Z_putI hk hA fl_9_409 dX9_plan_77 ob_48.1 ob_48.2.1 ob_48.2.2.1 ob_48.2.2.2 ft_9_60 (by decide) (by decide) ?_
    refine Z_nm (fun m77 em77 => ?_)
    refine Z_aload0 hk dX9_plan_80 ?_
    refine Z_iconst hk dX9_plan_81 ?_
    have J85 : ∀ (n : Nat) (m85 : Mem), (((0 ≤ (m85 48 2) ∧ (m85 48 2) ≤ (M 48 1) ∧ 0 ≤ (m85 48 50) ∧ (m85 48 50) ≤ 4 ∧ 0 ≤ (m85 48 48) ∧ ((m85 48 5) = 0 → (m85 48 48) ≤ 6) ∧ 0 ≤ (m85 48 43) ∧ ((m85 48 5) = 0 → (m85 48 43) ≤ (m85 48 2)) ∧ 0 ≤ (m85 48 61) ∧ (m85 48 61) ≤ 8 ∧ 0 ≤ (m85 48 47) ∧ ((m85 48 5) = 0 → (m85 48 47) ≤ (m85 48 2)) ∧ -1 ≤ (m85 48 60) ∧ (m85 48 60) ≤ 5) ∧ NL m85 ∧ NK m85 ∧ Imp ((m85 48 5) = 0) (CS m85)) ∧ (∀ c : Nat, c ≠ 48 → c ≠ 82 → c ≠ 83 → c ≠ 84 → c ≠ 85 → c ≠ 86 → c ≠ 87 → c ≠ 88 → c ≠ 89 → c ≠ 90 → c ≠ 91 → c ≠ 92 → c ≠ 93 → m85 c = m77 c) ∧ (∀ i : Nat, i ≠ 2 → i ≠ 4 → i ≠ 5 → i ≠ 6 → i ≠ 41 → i ≠ 43 → i ≠ 45 → i ≠ 46 → i ≠ 48 → i ≠ 50 → i ≠ 58 → i ≠ 59 → i ≠ 60 → i ≠ 61 → i ≠ 79 → i ≠ 80 → i ≠ 47 → m85 48 i = m77 48 i) ∧ (∀ j : Nat, 800 ≤ j → m85 82 j = m77 82 j)) → (if (m85 48 5) = 0 then (M 48 1) - (m85 48 2) + 1 else 0) < (n : Int) → Zj κ δ ad rs Q 2 (121, 0, 0) 85 [some (.ref (ad 48)), some (iv s)] [] m85 := by
      intro n
      induction n with
      | zero => intro m85 h85 hm85; exfalso; obtain ⟨h85, -⟩ := h85; obtain ⟨h85, -⟩ := h85; revert hm85; split <;> omega
      | succ n ih85 =>
        intro m85 h85 hm85
        obtain ⟨h85, f85_0, f85_1, f85_2⟩ := h85
        try simp only [f85_0, f85_1, f85_2, em77, em72, em67, em62, em57, em52, em47, em42, em37, em32, em27, em22, em17, and_true, true_and, or_true, true_or, implies_true, upn, reduceIte, Nat.reduceEqDiff, ne_eq, not_false_eq_true] at h85 hm85
        obtain ⟨h85, h85l, h85k, h85c⟩ := h85
        refine Z_aload0 hk dX9_plan_85 ?_
        refine Z_getI hk fl_9_245 dX9_plan_86 ob_48.1 ob_48.2.1 ob_48.2.2.1 ob_48.2.2.2 ft_9_5 (fun v86 e86 a86 b86 => ?_)
        try simp only [f85_0, f85_1, f85_2, em77, em72, em67, em62, em57, em52, em47, em42, em37, em32, em27, em22, em17, e14, and_true, true_and, or_true, true_or, implies_true, upn, reduceIte, Nat.reduceEqDiff, ne_eq, not_false_eq_true] at e86
        have J107 : ∀ (m107 : Mem), (((0 ≤ (m107 48 2) ∧ (m107 48 2) ≤ (M 48 1) ∧ 0 ≤ (m107 48 50) ∧ (m107 48 50) ≤ 4 ∧ 0 ≤ (m107 48 48) ∧ ((m107 48 5) = 0 → (m107 48 48) ≤ 6) ∧ 0 ≤ (m107 48 43) ∧ ((m107 48 5) = 0 → (m107 48 43) ≤ (m107 48 2)) ∧ 0 ≤ (m107 48 61) ∧ (m107 48 61) ≤ 8 ∧ -1 ≤ (m107 48 60) ∧ (m107 48 60) ≤ 5) ∧ NL m107 ∧ NK m107 ∧ Imp ((m107 48 5) = 0) (CS m107)) ∧ (∀ c : Nat, c ≠ 48 → m107 c = m85 c) ∧ (∀ i : Nat, i ≠ 2 → m107 48 i = m85 48 i)) → Zj κ δ ad rs Q 2 (121, 0, 0) 107 [some (.ref (ad 48)), some (iv s)] [] m107 := by
          intro m107 h107
          obtain ⟨h107, f107_0, f107_1⟩ := h107
          try simp only [f107_0, f107_1, f85_0, f85_1, f85_2, em77, em72, em67, em62, em57, em52, em47, em42, em37, em32, em27, em22, em17, and_true, true_and, or_true, true_or, implies_true, upn, reduceIte, Nat.reduceEqDiff, ne_eq, not_false_eq_true] at h107
          obtain ⟨h107, h107l, h107k, h107c⟩ := h107
          refine Z_aload0 hk dX9_plan_107 ?_
          refine Z_aload0 hk dX9_plan_108 ?_
          refine Z_getI hk fl_9_245 dX9_plan_109 ob_48.1 ob_48.2.1 ob_48.2.2.1 ob_48.2.2.2 ft_9_5 (fun v109 e109 a109 b109 => ?_)
          try simp only [f107_0, f107_1, f85_0, f85_1, f85_2, em77, em72, em67, em62, em57, em52, em47, em42, em37, em32, em27, em22, em17, e14, e86, and_true, true_and, or_true, true_or, implies_true, upn, reduceIte, Nat.reduceEqDiff, ne_eq, not_false_eq_true] at e109
          refine Z_putI hk hA fl_9_421 dX9_plan_112 ob_48.1 ob_48.2.1 ob_48.2.2.1 ob_48.2.2.2 ft_9_7 (by omega) (by omega) ?_
          refine Z_nm (fun m112 em112 => ?_)
          refine Z_aload0 hk dX9_plan_115 ?_
          refine Z_aload0 hk dX9_plan_116 ?_
          refine Z_getI hk fl_9_248 dX9_plan_117 ob_48.1 ob_48.2.1 ob_48.2.2.1 ob_48.2.2.2 ft_9_6 (fun v117 e117 a117 b117 => ?_)
          try simp only [em112, f107_0, f107_1, f85_0, f85_1, f85_2, em77, em72, em67, em62, em57, em52, em47, em42, em37, em32, em27, em22, em17, e14, e86, e109, and_true, true_and, or_true, true_or, implies_true, upn, reduceIte, Nat.reduceEqDiff, ne_eq, not_false_eq_true] at e117
          refine Z_putI hk hA fl_9_13 dX9_plan_120 ob_48.1 ob_48.2.1 ob_48.2.2.1 ob_48.2.2.2 ft_9_8 (by omega) (by omega) ?_
          refine Z_nm (fun m120 em120 => ?_)
          refine Z_aload0 hk dX9_plan_123 ?_
          refine Z_getI hk fl_9_245 dX9_plan_124 ob_48.1 ob_48.2.1 ob_48.2.2.1 ob_48.2.2.2 ft_9_5 (fun v124 e124 a124 b124 => ?_)
          try simp only [em120, em112, f107_0, f107_1, f85_0, f85_1, f85_2, em77, em72, em67, em62, em57, em52, em47, em42, em37, em32, em27, em22, em17, e14, e86, e109, e117, and_true, true_and, or_true, true_or, implies_true, upn, reduceIte, Nat.reduceEqDiff, ne_eq, not_false_eq_true] at e124
          refine Z_if_eq hk (tgt := 132) dX9_plan_127 (by decide) (by omega) (by omega) (fun h127 => ?_) (fun h127 => ?_)
          · refine Z_aload0 hk dX9_plan_132 ?_
            refine Z_iload1 hk dX9_plan_133 ?_
            refine Z_putI hk hA fl_9_424 dX9_plan_134 ob_48.1 ob_48.2.1 ob_48.2.2.1 ob_48.2.2.2 ft_9_81 (by omega) (by omega) ?_
            refine Z_nm (fun m134 em134 => ?_)
            refine Z_aload0 hk dX9_plan_137 ?_
            refine Z_Vv hk (c_X9_stands κ.2.1 δ ad _ hA  (by (try simp only [em134, em120, em112, f107_0, f107_1, f85_0, f85_1, f85_2, em77, em72, em67, em62, em57, em52, em47, em42, em37, em32, em27, em22, em17, and_true, true_and, or_true, true_or, implies_true, upn, reduceIte, Nat.reduceEqDiff, ne_eq, not_false_eq_true]) <;> (omega)) (by (try simp only [em134, em120, em112, f107_0, f107_1, f85_0, f85_1, f85_2, em77, em72, em67, em62, em57, em52, em47, em42, em37, em32, em27, em22, em17, and_true, true_and, or_true, true_or, implies_true, upn, reduceIte, Nat.reduceEqDiff, ne_eq, not_false_eq_true]) <;> (omega)) (by (exact NL.same h107l (by simp only [em134, em120, em112, f107_0, f107_1, f85_0, f85_1, f85_2, em77, em72, em67, em62, em57, em52, em47, em42, em37, em32, em27, em22, em17, e14, e86, e109, e117, e124, and_true, true_and, or_true, true_or, implies_true, upn, reduceIte, Nat.reduceEqDiff, ne_eq, not_false_eq_true, upc]) (by simp only [em134, em120, em112, f107_0, f107_1, f85_0, f85_1, f85_2, em77, em72, em67, em62, em57, em52, em47, em42, em37, em32, em27, em22, em17, e14, e86, e109, e117, e124, and_true, true_and, or_true, true_or, implies_true, upn, reduceIte, Nat.reduceEqDiff, ne_eq, not_false_eq_true, upc]))) (by (exact NK.same h107k (by simp only [em134, em120, em112, f107_0, f107_1, f85_0, f85_1, f85_2, em77, em72, em67, em62, em57, em52, em47, em42, em37, em32, em27, em22, em17, e14, e86, e109, e117, e124, and_true, true_and, or_true, true_or, implies_true, upn, reduceIte, Nat.reduceEqDiff, ne_eq, not_false_eq_true, upc]) (by simp only [em134, em120, em112, f107_0, f107_1, f85_0, f85_1, f85_2, em77, em72, em67, em62, em57, em52, em47, em42, em37, em32, em27, em22, em17, e14, e86, e109, e117, e124, and_true, true_and, or_true, true_or, implies_true, upn, reduceIte, Nat.reduceEqDiff, ne_eq, not_false_eq_true, upc]) (by simp only [em134, em120, em112, f107_0, f107_1, f85_0, f85_1, f85_2, em77, em72, em67, em62, em57, em52, em47, em42, em37, em32, em27, em22, em17, e14, e86, e109, e117, e124, and_true, true_and, or_true, true_or, implies_true, upn, reduceIte, Nat.reduceEqDiff, ne_eq, not_false_eq_true, upc]))) (by (try simp only [em134, em120, em112, f107_0, f107_1, f85_0, f85_1, f85_2, em77, em72, em67, em62, em57, em52, em47, em42, em37, em32, em27, em22, em17, and_true, true_and, or_true, true_or, implies_true, upn, reduceIte, Nat.reduceEqDiff, ne_eq, not_false_eq_true]) <;> (omega)) (by (exact CS.same (h107c (by omega)) (by simp only [em134, em120, em112, f107_0, f107_1, f85_0, f85_1, f85_2, em77, em72, em67, em62, em57, em52, em47, em42, em37, em32, em27, em22, em17, e14, e86, e109, e117, e124, and_true, true_and, or_true, true_or, implies_true, upn, reduceIte, Nat.reduceEqDiff, ne_eq, not_false_eq_true, upc]) (by simp only [em134, em120, em112, f107_0, f107_1, f85_0, f85_1, f85_2, em77, em72, em67, em62, em57, em52, em47, em42, em37, em32, em27, em22, em17, e14, e86, e109, e117, e124, and_true, true_and, or_true, true_or, implies_true, upn, reduceIte, Nat.reduceEqDiff, ne_eq, not_false_eq_true, upc]) (by simp only [em134, em120, em112, f107_0, f107_1, f85_0, f85_1, f85_2, em77, em72, em67, em62, em57, em52, em47, em42, em37, em32, em27, em22, em17, e14, e86, e109, e117, e124, and_true, true_and, or_true, true_or, implies_true, upn, reduceIte, Nat.reduceEqDiff, ne_eq, not_false_eq_true, upc]) (by simp only [em134, em120, em112, f107_0, f107_1, f85_0, f85_1, f85_2, em77, em72, em67, em62, em57, em52, em47, em42, em37, em32, em27, em22, em17, e14, e86, e109, e117, e124, and_true, true_and, or_true, true_or, implies_true, upn, reduceIte, Nat.reduceEqDiff, ne_eq, not_false_eq_true, upc]))) (by (try simp only [em134, em120, em112, f107_0, f107_1, f85_0, f85_1, f85_2, em77, em72, em67, em62, em57, em52, em47, em42, em37, em32, em27, em22, em17, and_true, true_and, or_true, true_or, implies_true, upn, reduceIte, Nat.reduceEqDiff, ne_eq, not_false_eq_true]) <;> (omega)) (by (simp only [em134, em120, em112, f107_0, f107_1, f85_0, f85_1, f85_2, em77, em72, em67, em62, em57, em52, em47, em42, em37, em32, em27, em22, em17, e14, e86, e109, e117, e124, and_true, true_and, or_true, true_or, implies_true, upn, reduceIte, Nat.reduceEqDiff, ne_eq, not_false_eq_true, upc]; exact q7))) ov_X9_stands ml_X9_427 dX9_plan_138 rfl ⟨by decide, by decide⟩ ob_48.1 (by decide) (by decide) rfl (Nat.le_of_ble_eq_true rfl) (fun m138 p138 => ?_)
            obtain ⟨p138, f138_0, f138_1, f138_2, f138_3, f138_4, f138_5⟩ := p138
            try simp only [f138_0, f138_1, f138_2, f138_3, f138_4, f138_5, em134, em120, em112, f107_0, f107_1, f85_0, f85_1, f85_2, em77, em72, em67, em62, em57, em52, em47, em42, em37, em32, em27, em22, em17, e14, e86, e109, e117, e124, and_true, true_and, or_true, true_or, implies_true, upn, reduceIte, Nat.reduceEqDiff, ne_eq, not_false_eq_true] at p138
            refine Z_aload0 hk dX9_plan_141 ?_
            refine Z_getI hk fl_9_415 dX9_plan_142 ob_48.1 ob_48.2.1 ob_48.2.2.1 ob_48.2.2.2 ft_9_47 (fun v142 e142 a142 b142 => ?_)
            try simp only [f138_0, f138_1, f138_2, f138_3, f138_4, f138_5, em134, em120, em112, f107_0, f107_1, f85_0, f85_1, f85_2, em77, em72, em67, em62, em57, em52, em47, em42, em37, em32, em27, em22, em17, e14, e86, e109, e117, e124, and_true, true_and, or_true, true_or, implies_true, upn, reduceIte, Nat.reduceEqDiff, ne_eq, not_false_eq_true] at e142
            exact Z_iret hk hA hQ dX9_plan_145 ⟨rfl, rfl, _, rfl, (by exact ⟨(by (try simp only [f138_0, f138_1, f138_2, f138_3, f138_4, f138_5, em134, em120, em112, f107_0, f107_1, f85_0, f85_1, f85_2, em77, em72, em67, em62, em57, em52, em47, em42, em37, em32, em27, em22, em17, and_true, true_and, or_true, true_or, implies_true, upn, reduceIte, Nat.reduceEqDiff, ne_eq, not_false_eq_true]) <;> (omega)), (by intro c k0 k1 k2 k3 k4 k5 k6 k7 k8 k9 k10 k11 k12 k13 k14 k15 k16 k17 k18 k19 k20 k21 k22; simp only [f138_0, f138_1, f138_2, f138_3, f138_4, f138_5, em134, em120, em112, f107_0, f107_1, f85_0, f85_1, f85_2, em77, em72, em67, em62, em57, em52, em47, em42, em37, em32, em27, em22, em17, upc, upn, k0, k1, k2, k3, k4, k5, k6, k7, k8, k9, k10, k11, k12, k13, k14, k15, k16, k17, k18, k19, k20, k21, k22, reduceIte, Nat.reduceEqDiff, ne_eq, not_false_eq_true]), (by intro i k0 k1 k2 k3 k4 k5 k6 k7 k8 k9 k10 k11 k12 k13 k14 k15 k16 k17 k18 k19 k20 k21 k22 k23 k24 k25 k26 k27 k28 k29 k30 k31; simp only [f138_0, f138_1, f138_2, f138_3, f138_4, f138_5, em134, em120, em112, f107_0, f107_1, f85_0, f85_1, f85_2, em77, em72, em67, em62, em57, em52, em47, em42, em37, em32, em27, em22, em17, upc, upn, k0, k1, k2, k3, k4, k5, k6, k7, k8, k9, k10, k11, k12, k13, k14, k15, k16, k17, k18, k19, k20, k21, k22, k23, k24, k25, k26, k27, k28, k29, k30, k31, reduceIte, Nat.reduceEqDiff, ne_eq, not_false_eq_true]), (by exact NK.same h107k (by simp only [f138_0, f138_1, f138_2, f138_3, f138_4, f138_5, em134, em120, em112, f107_0, f107_1, f85_0, f85_1, f85_2, em77, em72, em67, em62, em57, em52, em47, em42, em37, em32, em27, em22, em17, e14, e86, e109, e117, e124, e142, and_true, true_and, or_true, true_or, implies_true, upn, reduceIte, Nat.reduceEqDiff, ne_eq, not_false_eq_true, upc]) (by simp only [f138_0, f138_1, f138_2, f138_3, f138_4, f138_5, em134, em120, em112, f107_0, f107_1, f85_0, f85_1, f85_2, em77, em72, em67, em62, em57, em52, em47, em42, em37, em32, em27, em22, em17, e14, e86, e109, e117, e124, e142, and_true, true_and, or_true, true_or, implies_true, upn, reduceIte, Nat.reduceEqDiff, ne_eq, not_false_eq_true, upc]) (by simp only [f138_0, f138_1, f138_2, f138_3, f138_4, f138_5, em134, em120, em112, f107_0, f107_1, f85_0, f85_1, f85_2, em77, em72, em67, em62, em57, em52, em47, em42, em37, em32, em27, em22, em17, e14, e86, e109, e117, e124, e142, and_true, true_and, or_true, true_or, implies_true, upn, reduceIte, Nat.reduceEqDiff, ne_eq, not_false_eq_true, upc])), (by first | assumption | (simp only [f138_0, f138_1, f138_2, f138_3, f138_4, f138_5, em134, em120, em112, f107_0, f107_1, f85_0, f85_1, f85_2, em77, em72, em67, em62, em57, em52, em47, em42, em37, em32, em27, em22, em17, e14, e86, e109, e117, e124, e142, and_true, true_and, or_true, true_or, implies_true, upn, reduceIte, Nat.reduceEqDiff, ne_eq, not_false_eq_true, upc]; exact q7)), (by first | assumption | (simp only [f138_0, f138_1, f138_2, f138_3, f138_4, f138_5, em134, em120, em112, f107_0, f107_1, f85_0, f85_1, f85_2, em77, em72, em67, em62, em57, em52, em47, em42, em37, em32, em27, em22, em17, e14, e86, e109, e117, e124, e142, and_true, true_and, or_true, true_or, implies_true, upn, reduceIte, Nat.reduceEqDiff, ne_eq, not_false_eq_true, upc]; exact q8)), (by first | assumption | (simp only [f138_0, f138_1, f138_2, f138_3, f138_4, f138_5, em134, em120, em112, f107_0, f107_1, f85_0, f85_1, f85_2, em77, em72, em67, em62, em57, em52, em47, em42, em37, em32, em27, em22, em17, e14, e86, e109, e117, e124, e142, and_true, true_and, or_true, true_or, implies_true, upn, reduceIte, Nat.reduceEqDiff, ne_eq, not_false_eq_true, upc]; exact q9)), (by first | assumption | (refine CP.same qa (by simp only [f138_0, f138_1, f138_2, f138_3, f138_4, f138_5, em134, em120, em112, f107_0, f107_1, f85_0, f85_1, f85_2, em77, em72, em67, em62, em57, em52, em47, em42, em37, em32, em27, em22, em17, e14, e86, e109, e117, e124, e142, and_true, true_and, or_true, true_or, implies_true, upn, reduceIte, Nat.reduceEqDiff, ne_eq, not_false_eq_true, upc]) (by simp only [f138_0, f138_1, f138_2, f138_3, f138_4, f138_5, em134, em120, em112, f107_0, f107_1, f85_0, f85_1, f85_2, em77, em72, em67, em62, em57, em52, em47, em42, em37, em32, em27, em22, em17, e14, e86, e109, e117, e124, e142, and_true, true_and, or_true, true_or, implies_true, upn, reduceIte, Nat.reduceEqDiff, ne_eq, not_false_eq_true, upc]) (fun j hj => ?_); simp only [f138_0, f138_1, f138_2, f138_3, f138_4, f138_5, em134, em120, em112, f107_0, f107_1, f85_0, f85_1, f85_2, em77, em72, em67, em62, em57, em52, em47, em42, em37, em32, em27, em22, em17, e14, e86, e109, e117, e124, e142, and_true, true_and, or_true, true_or, implies_true, upn, reduceIte, Nat.reduceEqDiff, ne_eq, not_false_eq_true, upc, hj]))⟩)⟩
          · refine Z_iconst hk dX9_plan_130 ?_
            exact Z_iret hk hA hQ dX9_plan_131 ⟨rfl, rfl, _, rfl, (by exact ⟨(by (try simp only [em120, em112, f107_0, f107_1, f85_0, f85_1, f85_2, em77, em72, em67, em62, em57, em52, em47, em42, em37, em32, em27, em22, em17, and_true, true_and, or_true, true_or, implies_true, upn, reduceIte, Nat.reduceEqDiff, ne_eq, not_false_eq_true]) <;> (omega)), (by intro c k0 k1 k2 k3 k4 k5 k6 k7 k8 k9 k10 k11 k12 k13 k14 k15 k16 k17 k18 k19 k20 k21 k22; simp only [em120, em112, f107_0, f107_1, f85_0, f85_1, f85_2, em77, em72, em67, em62, em57, em52, em47, em42, em37, em32, em27, em22, em17, upc, upn, k0, k1, k2, k3, k4, k5, k6, k7, k8, k9, k10, k11, k12, k13, k14, k15, k16, k17, k18, k19, k20, k21, k22, reduceIte, Nat.reduceEqDiff, ne_eq, not_false_eq_true]), (by intro i k0 k1 k2 k3 k4 k5 k6 k7 k8 k9 k10 k11 k12 k13 k14 k15 k16 k17 k18 k19 k20 k21 k22 k23 k24 k25 k26 k27 k28 k29 k30 k31; simp only [em120, em112, f107_0, f107_1, f85_0, f85_1, f85_2, em77, em72, em67, em62, em57, em52, em47, em42, em37, em32, em27, em22, em17, upc, upn, k0, k1, k2, k3, k4, k5, k6, k7, k8, k9, k10, k11, k12, k13, k14, k15, k16, k17, k18, k19, k20, k21, k22, k23, k24, k25, k26, k27, k28, k29, k30, k31, reduceIte, Nat.reduceEqDiff, ne_eq, not_false_eq_true]), (by exact NK.same h107k (by simp only [em120, em112, f107_0, f107_1, f85_0, f85_1, f85_2, em77, em72, em67, em62, em57, em52, em47, em42, em37, em32, em27, em22, em17, e14, e86, e109, e117, e124, and_true, true_and, or_true, true_or, implies_true, upn, reduceIte, Nat.reduceEqDiff, ne_eq, not_false_eq_true, upc]) (by simp only [em120, em112, f107_0, f107_1, f85_0, f85_1, f85_2, em77, em72, em67, em62, em57, em52, em47, em42, em37, em32, em27, em22, em17, e14, e86, e109, e117, e124, and_true, true_and, or_true, true_or, implies_true, upn, reduceIte, Nat.reduceEqDiff, ne_eq, not_false_eq_true, upc]) (by simp only [em120, em112, f107_0, f107_1, f85_0, f85_1, f85_2, em77, em72, em67, em62, em57, em52, em47, em42, em37, em32, em27, em22, em17, e14, e86, e109, e117, e124, and_true, true_and, or_true, true_or, implies_true, upn, reduceIte, Nat.reduceEqDiff, ne_eq, not_false_eq_true, upc])), (by first | assumption | (simp only [em120, em112, f107_0, f107_1, f85_0, f85_1, f85_2, em77, em72, em67, em62, em57, em52, em47, em42, em37, em32, em27, em22, em17, e14, e86, e109, e117, e124, and_true, true_and, or_true, true_or, implies_true, upn, reduceIte, Nat.reduceEqDiff, ne_eq, not_false_eq_true, upc]; exact q7)), (by first | assumption | (simp only [em120, em112, f107_0, f107_1, f85_0, f85_1, f85_2, em77, em72, em67, em62, em57, em52, em47, em42, em37, em32, em27, em22, em17, e14, e86, e109, e117, e124, and_true, true_and, or_true, true_or, implies_true, upn, reduceIte, Nat.reduceEqDiff, ne_eq, not_false_eq_true, upc]; exact q8)), (by first | assumption | (simp only [em120, em112, f107_0, f107_1, f85_0, f85_1, f85_2, em77, em72, em67, em62, em57, em52, em47, em42, em37, em32, em27, em22, em17, e14, e86, e109, e117, e124, and_true, true_and, or_true, true_or, implies_true, upn, reduceIte, Nat.reduceEqDiff, ne_eq, not_false_eq_true, upc]; exact q9)), (by first | assumption | (refine CP.same qa (by simp only [em120, em112, f107_0, f107_1, f85_0, f85_1, f85_2, em77, em72, em67, em62, em57, em52, em47, em42, em37, em32, em27, em22, em17, e14, e86, e109, e117, e124, and_true, true_and, or_true, true_or, implies_true, upn, reduceIte, Nat.reduceEqDiff, ne_eq, not_false_eq_true, upc]) (by simp only [em120, em112, f107_0, f107_1, f85_0, f85_1, f85_2, em77, em72, em67, em62, em57, em52, em47, em42, em37, em32, em27, em22, em17, e14, e86, e109, e117, e124, and_true, true_and, or_true, true_or, implies_true, upn, reduceIte, Nat.reduceEqDiff, ne_eq, not_false_eq_true, upc]) (fun j hj => ?_); simp only [em120, em112, f107_0, f107_1, f85_0, f85_1, f85_2, em77, em72, em67, em62, em57, em52, em47, em42, em37, em32, em27, em22, em17, e14, e86, e109, e117, e124, and_true, true_and, or_true, true_or, implies_true, upn, reduceIte, Nat.reduceEqDiff, ne_eq, not_false_eq_true, upc, hj]))⟩)⟩
        refine Z_if_ne hk (tgt := 107) dX9_plan_89 (by decide) (by omega) (by omega) (fun h89 => ?_) (fun h89 => ?_)
        · exact J107 _ (by exact ⟨(by (exact ⟨(by (try simp only [f85_0, f85_1, f85_2, em77, em72, em67, em62, em57, em52, em47, em42, em37, em32, em27, em22, em17, e14, e86, and_true, true_and, or_true, true_or, implies_true, upn, reduceIte, Nat.reduceEqDiff, ne_eq, not_false_eq_true, upc]) <;> (repeat' (first | refine And.intro ?_ ?_ | omega))), NL.same h85l (by simp only [f85_0, f85_1, f85_2, em77, em72, em67, em62, em57, em52, em47, em42, em37, em32, em27, em22, em17, e14, e86, and_true, true_and, or_true, true_or, implies_true, upn, reduceIte, Nat.reduceEqDiff, ne_eq, not_false_eq_true, upc]) (by simp only [f85_0, f85_1, f85_2, em77, em72, em67, em62, em57, em52, em47, em42, em37, em32, em27, em22, em17, e14, e86, and_true, true_and, or_true, true_or, implies_true, upn, reduceIte, Nat.reduceEqDiff, ne_eq, not_false_eq_true, upc]), NK.same h85k (by simp only [f85_0, f85_1, f85_2, em77, em72, em67, em62, em57, em52, em47, em42, em37, em32, em27, em22, em17, e14, e86, and_true, true_and, or_true, true_or, implies_true, upn, reduceIte, Nat.reduceEqDiff, ne_eq, not_false_eq_true, upc]) (by simp only [f85_0, f85_1, f85_2, em77, em72, em67, em62, em57, em52, em47, em42, em37, em32, em27, em22, em17, e14, e86, and_true, true_and, or_true, true_or, implies_true, upn, reduceIte, Nat.reduceEqDiff, ne_eq, not_false_eq_true, upc]) (by simp only [f85_0, f85_1, f85_2, em77, em72, em67, em62, em57, em52, em47, em42, em37, em32, em27, em22, em17, e14, e86, and_true, true_and, or_true, true_or, implies_true, upn, reduceIte, Nat.reduceEqDiff, ne_eq, not_false_eq_true, upc]), fun hb => CS.same (h85c (by (try simp only [f85_0, f85_1, f85_2, em77, em72, em67, em62, em57, em52, em47, em42, em37, em32, em27, em22, em17, e14, e86, and_true, true_and, or_true, true_or, implies_true, upn, reduceIte, Nat.reduceEqDiff, ne_eq, not_false_eq_true, upc] at hb); omega)) (by simp only [f85_0, f85_1, f85_2, em77, em72, em67, em62, em57, em52, em47, em42, em37, em32, em27, em22, em17, e14, e86, and_true, true_and, or_true, true_or, implies_true, upn, reduceIte, Nat.reduceEqDiff, ne_eq, not_false_eq_true, upc]) (by simp only [f85_0, f85_1, f85_2, em77, em72, em67, em62, em57, em52, em47, em42, em37, em32, em27, em22, em17, e14, e86, and_true, true_and, or_true, true_or, implies_true, upn, reduceIte, Nat.reduceEqDiff, ne_eq, not_false_eq_true, upc]) (by simp only [f85_0, f85_1, f85_2, em77, em72, em67, em62, em57, em52, em47, em42, em37, em32, em27, em22, em17, e14, e86, and_true, true_and, or_true, true_or, implies_true, upn, reduceIte, Nat.reduceEqDiff, ne_eq, not_false_eq_true, upc]) (by simp only [f85_0, f85_1, f85_2, em77, em72, em67, em62, em57, em52, em47, em42, em37, em32, em27, em22, em17, e14, e86, and_true, true_and, or_true, true_or, implies_true, upn, reduceIte, Nat.reduceEqDiff, ne_eq, not_false_eq_true, upc])⟩)), (by intro c k0; simp only [f85_0, f85_1, f85_2, em77, em72, em67, em62, em57, em52, em47, em42, em37, em32, em27, em22, em17, upc, upn, k0, reduceIte, Nat.reduceEqDiff, ne_eq, not_false_eq_true]), (by intro i k0; simp only [f85_0, f85_1, f85_2, em77, em72, em67, em62, em57, em52, em47, em42, em37, em32, em27, em22, em17, upc, upn, k0, reduceIte, Nat.reduceEqDiff, ne_eq, not_false_eq_true])⟩)
        · refine Z_aload0 hk dX9_plan_92 ?_
          refine Z_Vi hk (c_X9_look κ.2.1 δ ad _ hA  (by (try simp only [f85_0, f85_1, f85_2, em77, em72, em67, em62, em57, em52, em47, em42, em37, em32, em27, em22, em17, and_true, true_and, or_true, true_or, implies_true, upn, reduceIte, Nat.reduceEqDiff, ne_eq, not_false_eq_true]) <;> (omega))) ov_X9_look ml_X9_257 dX9_plan_93 rfl ⟨by decide, by decide⟩ ob_48.1 (by decide) (by decide) rfl (Nat.le_of_ble_eq_true rfl) (fun r93 m93 p93 => ?_)
          obtain ⟨p93, f93_0, f93_1⟩ := p93
          try simp only [f93_0, f93_1, f85_0, f85_1, f85_2, em77, em72, em67, em62, em57, em52, em47, em42, em37, em32, em27, em22, em17, e14, e86, and_true, true_and, or_true, true_or, implies_true, upn, reduceIte, Nat.reduceEqDiff, ne_eq, not_false_eq_true] at p93
          refine Z_iconst hk dX9_plan_96 ?_
          refine Z_icmp_eq hk (tgt := 107) dX9_plan_97 (by decide) (by omega) (by omega) (by decide) (by decide) (fun h97 => ?_) (fun h97 => ?_)
          · exact J107 _ (by exact ⟨(by (exact ⟨(by (try simp only [f93_0, f93_1, f85_0, f85_1, f85_2, em77, em72, em67, em62, em57, em52, em47, em42, em37, em32, em27, em22, em17, e14, e86, and_true, true_and, or_true, true_or, implies_true, upn, reduceIte, Nat.reduceEqDiff, ne_eq, not_false_eq_true, upc]) <;> (repeat' (first | refine And.intro ?_ ?_ | omega))), NL.same h85l (by simp only [f93_0, f93_1, f85_0, f85_1, f85_2, em77, em72, em67, em62, em57, em52, em47, em42, em37, em32, em27, em22, em17, e14, e86, and_true, true_and, or_true, true_or, implies_true, upn, reduceIte, Nat.reduceEqDiff, ne_eq, not_false_eq_true, upc]) (by simp only [f93_0, f93_1, f85_0, f85_1, f85_2, em77, em72, em67, em62, em57, em52, em47, em42, em37, em32, em27, em22, em17, e14, e86, and_true, true_and, or_true, true_or, implies_true, upn, reduceIte, Nat.reduceEqDiff, ne_eq, not_false_eq_true, upc]), NK.same h85k (by simp only [f93_0, f93_1, f85_0, f85_1, f85_2, em77, em72, em67, em62, em57, em52, em47, em42, em37, em32, em27, em22, em17, e14, e86, and_true, true_and, or_true, true_or, implies_true, upn, reduceIte, Nat.reduceEqDiff, ne_eq, not_false_eq_true, upc]) (by simp only [f93_0, f93_1, f85_0, f85_1, f85_2, em77, em72, em67, em62, em57, em52, em47, em42, em37, em32, em27, em22, em17, e14, e86, and_true, true_and, or_true, true_or, implies_true, upn, reduceIte, Nat.reduceEqDiff, ne_eq, not_false_eq_true, upc]) (by simp only [f93_0, f93_1, f85_0, f85_1, f85_2, em77, em72, em67, em62, em57, em52, em47, em42, em37, em32, em27, em22, em17, e14, e86, and_true, true_and, or_true, true_or, implies_true, upn, reduceIte, Nat.reduceEqDiff, ne_eq, not_false_eq_true, upc]), fun hb => CS.same (h85c (by (try simp only [f93_0, f93_1, f85_0, f85_1, f85_2, em77, em72, em67, em62, em57, em52, em47, em42, em37, em32, em27, em22, em17, e14, e86, and_true, true_and, or_true, true_or, implies_true, upn, reduceIte, Nat.reduceEqDiff, ne_eq, not_false_eq_true, upc] at hb); omega)) (by simp only [f93_0, f93_1, f85_0, f85_1, f85_2, em77, em72, em67, em62, em57, em52, em47, em42, em37, em32, em27, em22, em17, e14, e86, and_true, true_and, or_true, true_or, implies_true, upn, reduceIte, Nat.reduceEqDiff, ne_eq, not_false_eq_true, upc]) (by simp only [f93_0, f93_1, f85_0, f85_1, f85_2, em77, em72, em67, em62, em57, em52, em47, em42, em37, em32, em27, em22, em17, e14, e86, and_true, true_and, or_true, true_or, implies_true, upn, reduceIte, Nat.reduceEqDiff, ne_eq, not_false_eq_true, upc]) (by simp only [f93_0, f93_1, f85_0, f85_1, f85_2, em77, em72, em67, em62, em57, em52, em47, em42, em37, em32, em27, em22, em17, e14, e86, and_true, true_and, or_true, true_or, implies_true, upn, reduceIte, Nat.reduceEqDiff, ne_eq, not_false_eq_true, upc]) (by simp only [f93_0, f93_1, f85_0, f85_1, f85_2, em77, em72, em67, em62, em57, em52, em47, em42, em37, em32, em27, em22, em17, e14, e86, and_true, true_and, or_true, true_or, implies_true, upn, reduceIte, Nat.reduceEqDiff, ne_eq, not_false_eq_true, upc])⟩)), (by intro c k0; simp only [f93_0, f93_1, f85_0, f85_1, f85_2, em77, em72, em67, em62, em57, em52, em47, em42, em37, em32, em27, em22, em17, upc, upn, k0, reduceIte, Nat.reduceEqDiff, ne_eq, not_false_eq_true]), (by intro i k0; simp only [f93_0, f93_1, f85_0, f85_1, f85_2, em77, em72, em67, em62, em57, em52, em47, em42, em37, em32, em27, em22, em17, upc, upn, k0, reduceIte, Nat.reduceEqDiff, ne_eq, not_false_eq_true])⟩)
          · refine Z_aload0 hk dX9_plan_100 ?_
            refine Z_Vv hk (c_X9_statement κ.2.1 δ ad _ hA  (by (try simp only [f93_0, f93_1, f85_0, f85_1, f85_2, em77, em72, em67, em62, em57, em52, em47, em42, em37, em32, em27, em22, em17, and_true, true_and, or_true, true_or, implies_true, upn, reduceIte, Nat.reduceEqDiff, ne_eq, not_false_eq_true]) <;> (omega)) (by (try simp only [f93_0, f93_1, f85_0, f85_1, f85_2, em77, em72, em67, em62, em57, em52, em47, em42, em37, em32, em27, em22, em17, and_true, true_and, or_true, true_or, implies_true, upn, reduceIte, Nat.reduceEqDiff, ne_eq, not_false_eq_true]) <;> (omega)) (by (try simp only [f93_0, f93_1, f85_0, f85_1, f85_2, em77, em72, em67, em62, em57, em52, em47, em42, em37, em32, em27, em22, em17, and_true, true_and, or_true, true_or, implies_true, upn, reduceIte, Nat.reduceEqDiff, ne_eq, not_false_eq_true]) <;> (omega)) (by (try simp only [f93_0, f93_1, f85_0, f85_1, f85_2, em77, em72, em67, em62, em57, em52, em47, em42, em37, em32, em27, em22, em17, and_true, true_and, or_true, true_or, implies_true, upn, reduceIte, Nat.reduceEqDiff, ne_eq, not_false_eq_true]) <;> (omega)) (by (exact NL.same h85l (by simp only [f93_0, f93_1, f85_0, f85_1, f85_2, em77, em72, em67, em62, em57, em52, em47, em42, em37, em32, em27, em22, em17, e14, e86, and_true, true_and, or_true, true_or, implies_true, upn, reduceIte, Nat.reduceEqDiff, ne_eq, not_false_eq_true, upc]) (by simp only [f93_0, f93_1, f85_0, f85_1, f85_2, em77, em72, em67, em62, em57, em52, em47, em42, em37, em32, em27, em22, em17, e14, e86, and_true, true_and, or_true, true_or, implies_true, upn, reduceIte, Nat.reduceEqDiff, ne_eq, not_false_eq_true, upc]))) (by (exact NK.same h85k (by simp only [f93_0, f93_1, f85_0, f85_1, f85_2, em77, em72, em67, em62, em57, em52, em47, em42, em37, em32, em27, em22, em17, e14, e86, and_true, true_and, or_true, true_or, implies_true, upn, reduceIte, Nat.reduceEqDiff, ne_eq, not_false_eq_true, upc]) (by simp only [f93_0, f93_1, f85_0, f85_1, f85_2, em77, em72, em67, em62, em57, em52, em47, em42, em37, em32, em27, em22, em17, e14, e86, and_true, true_and, or_true, true_or, implies_true, upn, reduceIte, Nat.reduceEqDiff, ne_eq, not_false_eq_true, upc]) (by simp only [f93_0, f93_1, f85_0, f85_1, f85_2, em77, em72, em67, em62, em57, em52, em47, em42, em37, em32, em27, em22, em17, e14, e86, and_true, true_and, or_true, true_or, implies_true, upn, reduceIte, Nat.reduceEqDiff, ne_eq, not_false_eq_true, upc]))) (by (try simp only [f93_0, f93_1, f85_0, f85_1, f85_2, em77, em72, em67, em62, em57, em52, em47, em42, em37, em32, em27, em22, em17, and_true, true_and, or_true, true_or, implies_true, upn, reduceIte, Nat.reduceEqDiff, ne_eq, not_false_eq_true]) <;> (omega)) (by (exact CS.same (h85c (by omega)) (by simp only [f93_0, f93_1, f85_0, f85_1, f85_2, em77, em72, em67, em62, em57, em52, em47, em42, em37, em32, em27, em22, em17, e14, e86, and_true, true_and, or_true, true_or, implies_true, upn, reduceIte, Nat.reduceEqDiff, ne_eq, not_false_eq_true, upc]) (by simp only [f93_0, f93_1, f85_0, f85_1, f85_2, em77, em72, em67, em62, em57, em52, em47, em42, em37, em32, em27, em22, em17, e14, e86, and_true, true_and, or_true, true_or, implies_true, upn, reduceIte, Nat.reduceEqDiff, ne_eq, not_false_eq_true, upc]) (by simp only [f93_0, f93_1, f85_0, f85_1, f85_2, em77, em72, em67, em62, em57, em52, em47, em42, em37, em32, em27, em22, em17, e14, e86, and_true, true_and, or_true, true_or, implies_true, upn, reduceIte, Nat.reduceEqDiff, ne_eq, not_false_eq_true, upc]) (by simp only [f93_0, f93_1, f85_0, f85_1, f85_2, em77, em72, em67, em62, em57, em52, em47, em42, em37, em32, em27, em22, em17, e14, e86, and_true, true_and, or_true, true_or, implies_true, upn, reduceIte, Nat.reduceEqDiff, ne_eq, not_false_eq_true, upc]))) (by (try simp only [f93_0, f93_1, f85_0, f85_1, f85_2, em77, em72, em67, em62, em57, em52, em47, em42, em37, em32, em27, em22, em17, and_true, true_and, or_true, true_or, implies_true, upn, reduceIte, Nat.reduceEqDiff, ne_eq, not_false_eq_true]) <;> (omega)) (by (try simp only [f93_0, f93_1, f85_0, f85_1, f85_2, em77, em72, em67, em62, em57, em52, em47, em42, em37, em32, em27, em22, em17, and_true, true_and, or_true, true_or, implies_true, upn, reduceIte, Nat.reduceEqDiff, ne_eq, not_false_eq_true]) <;> (omega)) (by (try simp only [f93_0, f93_1, f85_0, f85_1, f85_2, em77, em72, em67, em62, em57, em52, em47, em42, em37, em32, em27, em22, em17, and_true, true_and, or_true, true_or, implies_true, upn, reduceIte, Nat.reduceEqDiff, ne_eq, not_false_eq_true]) <;> (omega))) ov_X9_statement ml_X9_418 dX9_plan_101 rfl ⟨by decide, by decide⟩ ob_48.1 (by decide) (by decide) rfl (Nat.le_of_ble_eq_true rfl) (fun m101 p101 => ?_)
            obtain ⟨p101, f101_0, f101_1, f101_2, f101_3, f101_4, f101_5⟩ := p101
            try simp only [f101_0, f101_1, f101_2, f101_3, f101_4, f101_5, f93_0, f93_1, f85_0, f85_1, f85_2, em77, em72, em67, em62, em57, em52, em47, em42, em37, em32, em27, em22, em17, e14, e86, and_true, true_and, or_true, true_or, implies_true, upn, reduceIte, Nat.reduceEqDiff, ne_eq, not_false_eq_true] at p101
            refine Z_goto hk (tgt := 85) dX9_plan_104 (by decide) ?_
            exact ih85 _ (by exact ⟨(by (exact ⟨(by (try simp only [f101_0, f101_1, f101_2, f101_3, f101_4, f101_5, f93_0, f93_1, f85_0, f85_1, f85_2, em77, em72, em67, em62, em57, em52, em47, em42, em37, em32, em27, em22, em17, e14, e86, and_true, true_and, or_true, true_or, implies_true, upn, reduceIte, Nat.reduceEqDiff, ne_eq, not_false_eq_true, upc]) <;> (repeat' (first | refine And.intro ?_ ?_ | omega))), by assumption, by assumption, by assumption⟩)), (by intro c k0 k1 k2 k3 k4 k5 k6 k7 k8 k9 k10 k11 k12; simp only [f101_0, f101_1, f101_2, f101_3, f101_4, f101_5, f93_0, f93_1, f85_0, f85_1, f85_2, em77, em72, em67, em62, em57, em52, em47, em42, em37, em32, em27, em22, em17, upc, upn, k0, k1, k2, k3, k4, k5, k6, k7, k8, k9, k10, k11, k12, reduceIte, Nat.reduceEqDiff, ne_eq, not_false_eq_true]), (by intro i k0 k1 k2 k3 k4 k5 k6 k7 k8 k9 k10 k11 k12 k13 k14 k15 k16; simp only [f101_0, f101_1, f101_2, f101_3, f101_4, f101_5, f93_0, f93_1, f85_0, f85_1, f85_2, em77, em72, em67, em62, em57, em52, em47, em42, em37, em32, em27, em22, em17, upc, upn, k0, k1, k2, k3, k4, k5, k6, k7, k8, k9, k10, k11, k12, k13, k14, k15, k16, reduceIte, Nat.reduceEqDiff, ne_eq, not_false_eq_true]), (by intro j kj; first | (simp only [f101_0, f101_1, f101_2, f101_3, f101_4, f101_5, f93_0, f93_1, f85_0, f85_1, f85_2, em77, em72, em67, em62, em57, em52, em47, em42, em37, em32, em27, em22, em17, upc, upn, kj, reduceIte, Nat.reduceEqDiff, ne_eq, not_false_eq_true]; done) | (simp only [f101_0, f101_1, f101_2, f101_3, f101_4, f101_5, f93_0, f93_1, f85_0, f85_1, f85_2, em77, em72, em67, em62, em57, em52, em47, em42, em37, em32, em27, em22, em17, upc, upn, kj, reduceIte, Nat.reduceEqDiff, ne_eq, not_false_eq_true]; split; (exfalso; omega); rfl))⟩) (by (try simp only [f101_0, f101_1, f101_2, f101_3, f101_4, f101_5, f93_0, f93_1, f85_0, f85_1, f85_2, em77, em72, em67, em62, em57, em52, em47, em42, em37, em32, em27, em22, em17, and_true, true_and, or_true, true_or, implies_true, upn, reduceIte, Nat.reduceEqDiff, ne_eq, not_false_eq_true]) <;> (rw [if_pos (by omega)] at hm85; split <;> omega))
    refine Z_putI hk hA fl_9_311 dX9_plan_82 ob_48.1 ob_48.2.1 ob_48.2.2.1 ob_48.2.2.2 ft_9_61 (by decide) (by decide) ?_
    refine Z_nm (fun m82 em82 => ?_)
    exact J85 (((if (m82 48 5) = 0 then (M 48 1) - (m82 48 2) + 1 else 0) : Int).toNat + 1) _ (by exact ⟨(by (exact ⟨(by (try simp only [em82, em77, em72, em67, em62, em57, em52, em47, em42, em37, em32, em27, em22, em17, e14, and_true, true_and, or_true, true_or, implies_true, upn, reduceIte, Nat.reduceEqDiff, ne_eq, not_false_eq_true, upc]) <;> (repeat' (first | refine And.intro ?_ ?_ | omega))), (fun k hk => by (try simp only [em82, em77, em72, em67, em62, em57, em52, em47, em42, em37, em32, em27, em22, em17, e14, and_true, true_and, or_true, true_or, implies_true, upn, reduceIte, Nat.reduceEqDiff, ne_eq, not_false_eq_true, upc] at hk); omega), NK.same q5 (by simp only [em82, em77, em72, em67, em62, em57, em52, em47, em42, em37, em32, em27, em22, em17, e14, and_true, true_and, or_true, true_or, implies_true, upn, reduceIte, Nat.reduceEqDiff, ne_eq, not_false_eq_true, upc]) (by simp only [em82, em77, em72, em67, em62, em57, em52, em47, em42, em37, em32, em27, em22, em17, e14, and_true, true_and, or_true, true_or, implies_true, upn, reduceIte, Nat.reduceEqDiff, ne_eq, not_false_eq_true, upc]) (by simp only [em82, em77, em72, em67, em62, em57, em52, em47, em42, em37, em32, em27, em22, em17, e14, and_true, true_and, or_true, true_or, implies_true, upn, reduceIte, Nat.reduceEqDiff, ne_eq, not_false_eq_true, upc]), fun _ => ⟨by simp only [em82, em77, em72, em67, em62, em57, em52, em47, em42, em37, em32, em27, em22, em17, e14, and_true, true_and, or_true, true_or, implies_true, upn, reduceIte, Nat.reduceEqDiff, ne_eq, not_false_eq_true, upc]; rfl, fun k hk => by (try simp only [em82, em77, em72, em67, em62, em57, em52, em47, em42, em37, em32, em27, em22, em17, e14, and_true, true_and, or_true, true_or, implies_true, upn, reduceIte, Nat.reduceEqDiff, ne_eq, not_false_eq_true, upc] at hk); omega⟩⟩)), (by intro c k0 k1 k2 k3 k4 k5 k6 k7 k8 k9 k10 k11 k12; simp only [em82, em77, em72, em67, em62, em57, em52, em47, em42, em37, em32, em27, em22, em17, upc, upn, k0, k1, k2, k3, k4, k5, k6, k7, k8, k9, k10, k11, k12, reduceIte, Nat.reduceEqDiff, ne_eq, not_false_eq_true]), (by intro i k0 k1 k2 k3 k4 k5 k6 k7 k8 k9 k10 k11 k12 k13 k14 k15 k16; simp only [em82, em77, em72, em67, em62, em57, em52, em47, em42, em37, em32, em27, em22, em17, upc, upn, k0, k1, k2, k3, k4, k5, k6, k7, k8, k9, k10, k11, k12, k13, k14, k15, k16, reduceIte, Nat.reduceEqDiff, ne_eq, not_false_eq_true]), (by intro j kj; first | (simp only [em82, em77, em72, em67, em62, em57, em52, em47, em42, em37, em32, em27, em22, em17, upc, upn, kj, reduceIte, Nat.reduceEqDiff, ne_eq, not_false_eq_true]; done) | (simp only [em82, em77, em72, em67, em62, em57, em52, em47, em42, em37, em32, em27, em22, em17, upc, upn, kj, reduceIte, Nat.reduceEqDiff, ne_eq, not_false_eq_true]; split; (exfalso; omega); rfl))⟩) (by omega)
  · refine Z_aload0 hk dX9_plan_4 ?_
    refine Z_iconst hk dX9_plan_5 ?_
    refine Z_putI hk hA fl_9_242 dX9_plan_6 ob_48.1 ob_48.2.1 ob_48.2.2.1 ob_48.2.2.2 ft_9_1 (by decide) (by decide) ?_
    refine Z_nm (fun m6 em6 => ?_)
    refine Z_bipush hk dX9_plan_9 (by decide) ?_
    exact Z_iret hk hA hQ dX9_plan_11 ⟨rfl, rfl, _, rfl, (by exact ⟨(by (try simp only [em6, and_true, true_and, or_true, true_or, implies_true, upn, reduceIte, Nat.reduceEqDiff, ne_eq, not_false_eq_true]) <;> (omega)), (by intro c k0 k1 k2 k3 k4 k5 k6 k7 k8 k9 k10 k11 k12 k13 k14 k15 k16 k17 k18 k19 k20 k21 k22; simp only [em6, upc, upn, k0, k1, k2, k3, k4, k5, k6, k7, k8, k9, k10, k11, k12, k13, k14, k15, k16, k17, k18, k19, k20, k21, k22, reduceIte, Nat.reduceEqDiff, ne_eq, not_false_eq_true]), (by intro i k0 k1 k2 k3 k4 k5 k6 k7 k8 k9 k10 k11 k12 k13 k14 k15 k16 k17 k18 k19 k20 k21 k22 k23 k24 k25 k26 k27 k28 k29 k30 k31; simp only [em6, upc, upn, k0, k1, k2, k3, k4, k5, k6, k7, k8, k9, k10, k11, k12, k13, k14, k15, k16, k17, k18, k19, k20, k21, k22, k23, k24, k25, k26, k27, k28, k29, k30, k31, reduceIte, Nat.reduceEqDiff, ne_eq, not_false_eq_true]), (by exact NK.same q5 (by simp only [em6, and_true, true_and, or_true, true_or, implies_true, upn, reduceIte, Nat.reduceEqDiff, ne_eq, not_false_eq_true, upc]) (by simp only [em6, and_true, true_and, or_true, true_or, implies_true, upn, reduceIte, Nat.reduceEqDiff, ne_eq, not_false_eq_true, upc]) (by simp only [em6, and_true, true_and, or_true, true_or, implies_true, upn, reduceIte, Nat.reduceEqDiff, ne_eq, not_false_eq_true, upc])), (by first | assumption | (simp only [em6, and_true, true_and, or_true, true_or, implies_true, upn, reduceIte, Nat.reduceEqDiff, ne_eq, not_false_eq_true, upc]; exact q7)), (by first | assumption | (simp only [em6, and_true, true_and, or_true, true_or, implies_true, upn, reduceIte, Nat.reduceEqDiff, ne_eq, not_false_eq_true, upc]; exact q8)), (by first | assumption | (simp only [em6, and_true, true_and, or_true, true_or, implies_true, upn, reduceIte, Nat.reduceEqDiff, ne_eq, not_false_eq_true, upc]; exact q9)), (by first | assumption | (refine CP.same qa (by simp only [em6, and_true, true_and, or_true, true_or, implies_true, upn, reduceIte, Nat.reduceEqDiff, ne_eq, not_false_eq_true, upc]) (by simp only [em6, and_true, true_and, or_true, true_or, implies_true, upn, reduceIte, Nat.reduceEqDiff, ne_eq, not_false_eq_true, upc]) (fun j hj => ?_); simp only [em6, and_true, true_and, or_true, true_or, implies_true, upn, reduceIte, Nat.reduceEqDiff, ne_eq, not_false_eq_true, upc, hj]))⟩)⟩
set_option maxRecDepth 10000 in
theorem c_X9_fault (l : Launch) (δ : Dp) (ad : Nat → Nat) (M : Mem) (hA : okA δ ad) (w : Int) (i_w : -2147483648 ≤ w ∧ w ≤ 2147483647) : Mi l δ yX9_fault cX9_fault 2 (some (.int)) 0 0 ad rs [.ref (ad 48), iv w] M (fun r M' => M = M' ∧ (True)) := by
  refine Mg.of (rm := rmN 0 0) (by decide) (Nat.le_of_ble_eq_true rfl) fun κ _ hk _ => ?_
  generalize hQ : Qg κ δ 121 (rmN 0 0).cells (rmN 0 0).slots _ = Q
  show Zj κ δ ad rs Q 2 (121, 0, 0) 0 [some (.ref (ad 48)), some (iv w)] [] M
  refine Z_iload1 hk dX9_fault_0 ?_
  refine Z_if_ne hk (tgt := 11) dX9_fault_1 (by decide) (by omega) (by omega) (fun h1 => ?_) (fun h1 => ?_)
  · refine Z_iload1 hk dX9_fault_11 ?_
    refine Z_iconst hk dX9_fault_12 ?_
    refine Z_icmp_ne hk (tgt := 23) dX9_fault_13 (by decide) (by omega) (by omega) (by decide) (by decide) (fun h13 => ?_) (fun h13 => ?_)
    · refine Z_iconst hk dX9_fault_23 ?_
      exact Z_iret hk hA hQ dX9_fault_24 ⟨rfl, rfl, _, rfl, (by exact ⟨rfl, (by trivial)⟩)⟩
    · refine Z_aload0 hk dX9_fault_16 ?_
      refine Z_getI hk fl_9_13 dX9_fault_17 ob_48.1 ob_48.2.1 ob_48.2.2.1 ob_48.2.2.2 ft_9_8 (fun v17 e17 a17 b17 => ?_)
      refine Z_goto hk (tgt := 24) dX9_fault_20 (by decide) ?_
      exact Z_iret hk hA hQ dX9_fault_24 ⟨rfl, rfl, _, rfl, (by exact ⟨rfl, (by trivial)⟩)⟩
  · refine Z_aload0 hk dX9_fault_4 ?_
    refine Z_getI hk fl_9_421 dX9_fault_5 ob_48.1 ob_48.2.1 ob_48.2.2.1 ob_48.2.2.2 ft_9_7 (fun v5 e5 a5 b5 => ?_)
    refine Z_goto hk (tgt := 24) dX9_fault_8 (by decide) ?_
    exact Z_iret hk hA hQ dX9_fault_24 ⟨rfl, rfl, _, rfl, (by exact ⟨rfl, (by trivial)⟩)⟩
