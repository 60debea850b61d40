/-- the sum of m numbers from k on -/
def asm (f : Nat → Int) (k : Nat) : Nat → Int
  | 0 => 0
  | m + 1 => asm f k m + f (k + m)
theorem asm_left (f : Nat → Int) (k : Nat) : ∀ m, asm f k (m + 1) = f k + asm f (k + 1) m := by
  intro m
  induction m with
  | zero => show 0 + f (k + 0) = f k + 0; rw [Nat.add_zero]; omega
  | succ m ih =>
    show asm f k (m + 1) + f (k + (m + 1)) = f k + (asm f (k + 1) m + f (k + 1 + m))
    rw [ih, show k + (m + 1) = k + 1 + m from by omega]
    omega
theorem asm_congr {f g : Nat → Int} {k : Nat} : ∀ m, (∀ j, k ≤ j → j < k + m → f j = g j) → asm f k m = asm g k m := by
  intro m
  induction m with
  | zero => intro _; rfl
  | succ m ih =>
    intro h
    show asm f k m + f (k + m) = asm g k m + g (k + m)
    rw [ih (fun j h1 h2 => h j h1 (by omega)), h (k + m) (by omega) (by omega)]
theorem asm_in {f : Nat → Int} {k : Nat} : ∀ m, (∀ j, k ≤ j → j < k + m → 0 ≤ f j ∧ f j ≤ 1073741824) → 0 ≤ asm f k m ∧ asm f k m ≤ 1073741824 * m := by
  intro m
  induction m with
  | zero => intro _; exact ⟨Int.le_refl 0, Int.le_refl 0⟩
  | succ m ih =>
    intro h
    have i := ih (fun j h1 h2 => h j h1 (by omega))
    have := h (k + m) (by omega) (by omega)
    show 0 ≤ asm f k m + f (k + m) ∧ asm f k m + f (k + m) ≤ 1073741824 * ((m + 1 : Nat) : Int)
    push_cast
    omega
def isB (z : Int) (n k : Nat) (a : Int) : Prop := ((gsF z n (n - k + 1) : Nat) : Int) * 1000 < (if z = 1 then 3 else 2 : Int) ^ n * a
def EN (z s : Int) (n : Nat) (a p : Int) : Prop := ∃ k, k ≤ n ∧ isB z n k a ∧ p ≤ asm (tb (al z) (rr z s) n) k (n - k + 1)
theorem gs_mono {z : Int} {n m m' : Nat} (h : m ≤ m') : gsF z n m ≤ gsF z n m' := by
  induction m' with
  | zero => have : m = 0 := by omega
            subst this
            exact Nat.le_refl _
  | succ k ih =>
    by_cases e : m = k + 1
    · subst e; exact Nat.le_refl _
    · exact Nat.le_trans (ih (by omega)) (Nat.le_add_right _ _)
theorem isB_mono {z a : Int} {n k k' : Nat} (h : isB z n k a) (hk : k ≤ k') : isB z n k' a := by
  unfold isB at *
  have g := gs_mono (z := z) (n := n) (show n - k' + 1 ≤ n - k + 1 by omega)
  generalize (if z = 1 then 3 else 2 : Int) ^ n * a = y at *
  omega
def ND (z s a p r : Int) : Prop := (1 ≤ r ∧ r ≤ 30 ∧ EN z s r.toNat a p ∧ ∀ m : Nat, 1 ≤ m → (m : Int) < r → ¬ EN z s m a p) ∨ (r = -1 ∧ ∀ m : Nat, 1 ≤ m → m ≤ 30 → ¬ EN z s m a p)
theorem ND.eq {z s a p r r' : Int} (h : ND z s a p r) (h' : ND z s a p r') : r = r' := by
  rcases h with ⟨h1, h2, h3, h4⟩ | ⟨h1, h2⟩ <;> rcases h' with ⟨g1, g2, g3, g4⟩ | ⟨g1, g2⟩
  · rcases Int.lt_trichotomy r r' with c | c | c
    · exact absurd h3 (g4 r.toNat (by omega) (by omega))
    · exact c
    · exact absurd g3 (h4 r'.toNat (by omega) (by omega))
  · exact absurd h3 (g2 r.toNat (by omega) (by omega))
  · exact absurd g3 (h2 r'.toNat (by omega) (by omega))
  · omega
set_option maxRecDepth 10000 in
theorem c_X9_rowSum_f (l : Launch) (δ : Dp) (ad : Nat → Nat) (M : Mem) (hA : okA δ ad) (a : Int) (b : Int) (q0 : 0 ≤ a ∧ a ≤ b + 1 ∧ b ≤ 31) (q1 : ∀ j : Nat, j < 32 → 0 ≤ M 112 j ∧ M 112 j ≤ 1073741824) : Mj l δ yX9_rowSum cX9_rowSum 6 (some (.long)) 0 0 ad rs [.ref (ad 48), iv a, iv b] M (fun r M' => M = M' ∧ (r = asm (M 112) a.toNat (b - a + 1).toNat)) := by
  refine Mg.of (rm := rmN 0 0) (by decide) (Nat.le_of_ble_eq_true rfl) fun κ _ hk _ => ?_
  generalize hQ : Qg κ δ 121 (rmN 0 0).cells (rmN 0 0).slots _ = Q
  show Zj κ δ ad rs Q 6 (121, 0, 0) 0 [some (.ref (ad 48)), some (iv a), some (iv b), none, none, none] [] M
  refine Z_lconst0 hk dX9_rowSum_0 ?_
  refine Z_lstore3 hk rfl (by decide) dX9_rowSum_1 ?_
  refine Z_iload1 hk dX9_rowSum_2 ?_
  have J5 : ∀ (n : Nat) (x3_5 : Int) (x5_5 : Int), ((a ≤ x5_5 ∧ x5_5 ≤ b + 1 ∧ 0 ≤ x3_5 ∧ x3_5 ≤ 1073741824 * (x5_5 - a)) ∧ x3_5 = asm (M 112) a.toNat (x5_5 - a).toNat) → (b + 1 - x5_5) < (n : Int) → Zj κ δ ad rs Q 6 (121, 0, 0) 5 [some (.ref (ad 48)), some (iv a), some (iv b), some (jv x3_5), none, some (iv x5_5)] [] M := by
    intro n
    induction n with
    | zero => intro x3_5 x5_5 h5 hm5; exfalso; obtain ⟨h5, -⟩ := h5; omega
    | succ n ih5 =>
      intro x3_5 x5_5 h5 hm5
      refine Z_iload5 hk dX9_rowSum_5 ?_
      refine Z_iload2 hk dX9_rowSum_7 ?_
      refine Z_icmp_gt hk (tgt := 27) dX9_rowSum_8 (by decide) (by omega) (by omega) (by omega) (by omega) (fun h8 => ?_) (fun h8 => ?_)
      · refine Z_lload3 hk dX9_rowSum_27 ?_
        exact Z_lret hk hA hQ dX9_rowSum_28 ⟨rfl, rfl, _, rfl, (by exact ⟨rfl, (by rw [h5.2]; congr 1; omega)⟩)⟩
      · refine Z_lload3 hk dX9_rowSum_11 ?_
        refine Z_aload0 hk dX9_rowSum_12 ?_
        refine Z_getR hk fl_9_215 dX9_rowSum_13 ob_48.1 ob_48.2.1 ob_48.2.2.1 ob_48.2.2.2 ft_9_100 rs_48_100 ?_
        refine Z_iload5 hk dX9_rowSum_16 ?_
        refine Z_lald hk dX9_rowSum_18 ar_112.1 ar_112.2.1 ar_112.2.2 (by omega) (by omega) (fun v18 e18 a18 b18 => ?_)
        have g18 := q1 x5_5.toNat (by omega)
        rw [← e18] at g18
        refine Z_ladd hk dX9_rowSum_19 ?_
        refine Z_lstore3 hk rfl (by decide) dX9_rowSum_20 ?_
        refine Z_iinc5 hk rfl (by decide) dX9_rowSum_21 ?_
        refine Z_goto hk (tgt := 5) dX9_rowSum_24 (by decide) ?_
        exact ih5 _ _ (by refine ⟨by omega, ?_⟩; rw [h5.2, e18, show (x5_5 + 1 - a).toNat = (x5_5 - a).toNat + 1 from by omega]; show _ = asm (M 112) a.toNat (x5_5 - a).toNat + M 112 (a.toNat + (x5_5 - a).toNat); rw [show a.toNat + (x5_5 - a).toNat = x5_5.toNat from by omega]) (by (omega))
  refine Z_istore5 hk rfl (by decide) dX9_rowSum_3 ?_
  exact J5 (((b + 1 - a) : Int).toNat + 1) _ _ (by exact ⟨by omega, by rw [show (a - a).toNat = 0 from by omega]; rfl⟩) (by omega)
set_option maxRecDepth 10000 in
theorem c_X9_thousandths_f (l : Launch) (δ : Dp) (ad : Nat → Nat) (M : Mem) (hA : okA δ ad) (v : Int) (q0 : 0 ≤ v ∧ v ≤ 1000) : Mj l δ yX9_thousandths cX9_thousandths 1 (some (.long)) 0 0 ad rs [iv v] M (fun r M' => M = M' ∧ (r = 1073741824 * v / 1000)) := by
  refine Mg.of (rm := rmN 0 0) (by decide) (Nat.le_of_ble_eq_true rfl) fun κ _ hk _ => ?_
  generalize hQ : Qg κ δ 121 (rmN 0 0).cells (rmN 0 0).slots _ = Q
  show Zj κ δ ad rs Q 1 (121, 0, 0) 0 [some (iv v)] [] M
  refine Z_ldc2_w hk (n := 1073741824) (mem_g (by decide +kernel)) dX9_thousandths_0 ?_
  refine Z_iload0 hk dX9_thousandths_3 ?_
  refine Z_i2l hk dX9_thousandths_4 (by omega) (by omega) ?_
  refine Z_lmul hk dX9_thousandths_5 ?_
  refine Z_ldc2_w hk (n := 1000) (mem_g (by decide +kernel)) dX9_thousandths_6 ?_
  refine Z_ldiv hk dX9_thousandths_9 (by omega) (by omega) (by omega) (by omega) (by omega) ?_
  exact Z_lret hk hA hQ dX9_thousandths_10 ⟨rfl, rfl, _, rfl, (by exact ⟨rfl, (by rw [Int.tdiv_eq_ediv_of_nonneg (by omega)])⟩)⟩
set_option maxHeartbeats 1000000 in
set_option maxRecDepth 10000 in
theorem c_X9_needed_f (l : Launch) (δ : Dp) (ad : Nat → Nat) (M : Mem) (hA : okA δ ad) (z : Int) (s : Int) (a : Int) (b : Int) (qz : z = 0 ∨ z = 1) (i_s : -2147483648 ≤ s ∧ s ≤ 2147483647) (i_a : -2147483648 ≤ a ∧ a ≤ 2147483647) (i_b : -2147483648 ≤ b ∧ b ≤ 2147483647) : Mi l δ yX9_needed cX9_needed 7 (some (.int)) 3 76 ad rs [.ref (ad 48), iv z, iv s, iv a, iv b] M (fun r M' => ((¬ (0 ≤ s ∧ s ≤ 1000 ∧ 0 ≤ a ∧ a ≤ 1000 ∧ 0 ≤ b ∧ b ≤ 1000) ∧ r = -1) ∨ ((0 ≤ s ∧ s ≤ 1000 ∧ 0 ≤ a ∧ a ≤ 1000 ∧ 0 ≤ b ∧ b ≤ 1000) ∧ ND z s a (1073741824 * (1000 - b) / 1000) r)) ∧ (∀ c : Nat, c ≠ 112 → M' c = M c)) := by
  refine Mg.of (rm := rmN 3 76) (by decide) (Nat.le_of_ble_eq_true rfl) fun κ _ hk _ => ?_
  generalize hQ : Qg κ δ 121 (rmN 3 76).cells (rmN 3 76).slots _ = Q
  show Zj κ δ ad rs Q 7 (121, 0, 0) 0 [some (.ref (ad 48)), some (iv z), some (iv s), some (iv a), some (iv b), none, none] [] M
  refine Z_iload2 hk dX9_needed_0 ?_
  refine Z_i2l hk dX9_needed_1 (by omega) (by omega) ?_
  refine Z_lconst0 hk dX9_needed_2 ?_
  refine Z_ldc2_w hk (n := 1000) (mem_g (by decide +kernel)) dX9_needed_3 ?_
  refine Z_Si hk (c_X9_isIn κ.2.1 δ ad _ hA s 0 (1000) (by (omega)) (by (omega)) (by (omega))) os_X9_isIn ml_X9_285 dX9_needed_6 rfl ⟨by decide, by decide⟩ rfl (Nat.le_of_ble_eq_true rfl) (fun r6 m6 p6 => ?_)
  obtain ⟨rfl, p6⟩ := p6
  refine Z_if_eq hk (tgt := 37) dX9_needed_9 (by decide) (by omega) (by omega) (fun h9 => ?_) (fun h9 => ?_)
  · refine Z_iconst hk dX9_needed_37 ?_
    exact Z_iret hk hA hQ dX9_needed_38 ⟨rfl, rfl, _, rfl, (by exact ⟨(by (exact Or.inl ⟨by omega, rfl⟩)), (by intro c k0; rfl)⟩)⟩
  · refine Z_iload3 hk dX9_needed_12 ?_
    refine Z_i2l hk dX9_needed_13 (by omega) (by omega) ?_
    refine Z_lconst0 hk dX9_needed_14 ?_
    refine Z_ldc2_w hk (n := 1000) (mem_g (by decide +kernel)) dX9_needed_15 ?_
    refine Z_Si hk (c_X9_isIn κ.2.1 δ ad _ hA a 0 (1000) (by (omega)) (by (omega)) (by (omega))) os_X9_isIn ml_X9_285 dX9_needed_18 rfl ⟨by decide, by decide⟩ rfl (Nat.le_of_ble_eq_true rfl) (fun r18 m18 p18 => ?_)
    obtain ⟨rfl, p18⟩ := p18
    refine Z_if_eq hk (tgt := 37) dX9_needed_21 (by decide) (by omega) (by omega) (fun h21 => ?_) (fun h21 => ?_)
    · refine Z_iconst hk dX9_needed_37 ?_
      exact Z_iret hk hA hQ dX9_needed_38 ⟨rfl, rfl, _, rfl, (by exact ⟨(by (exact Or.inl ⟨by omega, rfl⟩)), (by intro c k0; rfl)⟩)⟩
    · refine Z_iload4 hk dX9_needed_24 ?_
      refine Z_i2l hk dX9_needed_26 (by omega) (by omega) ?_
      refine Z_lconst0 hk dX9_needed_27 ?_
      refine Z_ldc2_w hk (n := 1000) (mem_g (by decide +kernel)) dX9_needed_28 ?_
      refine Z_Si hk (c_X9_isIn κ.2.1 δ ad _ hA b 0 (1000) (by (omega)) (by (omega)) (by (omega))) os_X9_isIn ml_X9_285 dX9_needed_31 rfl ⟨by decide, by decide⟩ rfl (Nat.le_of_ble_eq_true rfl) (fun r31 m31 p31 => ?_)
      obtain ⟨rfl, p31⟩ := p31
      refine Z_if_ne hk (tgt := 39) dX9_needed_34 (by decide) (by omega) (by omega) (fun h34 => ?_) (fun h34 => ?_)
      · refine Z_iconst hk dX9_needed_39 ?_
        have J42 : ∀ (n : Nat) (x5_42 : Int) (m42 : Mem), (((1 ≤ x5_42 ∧ x5_42 ≤ 31) ∧ ∀ m : Nat, 1 ≤ m → (m : Int) < x5_42 → ¬ EN z s m a (1073741824 * (1000 - b) / 1000)) ∧ (∀ c : Nat, c ≠ 112 → m42 c = M c)) → (31 - x5_42) < (n : Int) → Zj κ δ ad rs Q 7 (121, 0, 0) 42 [some (.ref (ad 48)), some (iv z), some (iv s), some (iv a), some (iv b), some (iv x5_42), none] [] m42 := by
          intro n
          induction n with
          | zero => intro x5_42 m42 h42 hm42; exfalso; obtain ⟨h42, -⟩ := h42; obtain ⟨h42, -⟩ := h42; omega
          | succ n ih42 =>
            intro x5_42 m42 h42 hm42
            obtain ⟨h42, f42_0⟩ := h42
            try simp only [f42_0, and_true, true_and, or_true, true_or, implies_true, upn, reduceIte, Nat.reduceEqDiff, ne_eq, not_false_eq_true, upc] at h42 hm42
            refine Z_iload5 hk dX9_needed_42 ?_
            refine Z_bipush hk dX9_needed_44 (by decide) ?_
            refine Z_icmp_gt hk (tgt := 119) dX9_needed_46 (by decide) (by omega) (by omega) (by decide) (by decide) (fun h46 => ?_) (fun h46 => ?_)
            · refine Z_iconst hk dX9_needed_119 ?_
              exact Z_iret hk hA hQ dX9_needed_120 ⟨rfl, rfl, _, rfl, (by exact ⟨(by (try simp only [f42_0, and_true, true_and, or_true, true_or, implies_true, upn, reduceIte, Nat.reduceEqDiff, ne_eq, not_false_eq_true, upc]) <;> (refine Or.inr ⟨by omega, Or.inr ⟨rfl, fun m h1 h2 => h42.2 m h1 (by omega)⟩⟩)), (by intro c k0; simp only [f42_0, upc, upn, k0, reduceIte, Nat.reduceEqDiff, ne_eq, not_false_eq_true])⟩)⟩
            · have al0 := al_in (z := z) (s := s) (by omega)
              refine Z_aload0 hk dX9_needed_49 ?_
              refine Z_iload1 hk dX9_needed_50 ?_
              refine Z_iload2 hk dX9_needed_51 ?_
              refine Z_iload5 hk dX9_needed_52 ?_
              refine Z_Vv hk (c_X9_tables_f κ.2.1 δ ad _ hA z s x5_42 (by (try simp only [f42_0, and_true, true_and, or_true, true_or, implies_true, upn, reduceIte, Nat.reduceEqDiff, ne_eq, not_false_eq_true, upc]) <;> (omega)) (by (try simp only [f42_0, and_true, true_and, or_true, true_or, implies_true, upn, reduceIte, Nat.reduceEqDiff, ne_eq, not_false_eq_true, upc]) <;> (omega))) ov_X9_tables ml_X9_560 dX9_needed_54 rfl ⟨by decide, by decide⟩ ob_48.1 (by decide) (by decide) rfl (Nat.le_of_ble_eq_true rfl) (fun m54 p54 => ?_)
              obtain ⟨p54, f54_0⟩ := p54
              try simp only [f54_0, f42_0, and_true, true_and, or_true, true_or, implies_true, upn, reduceIte, Nat.reduceEqDiff, ne_eq, not_false_eq_true, upc] at p54
              refine Z_iconst hk dX9_needed_57 ?_
              have J60 : ∀ (n : Nat) (x6_60 : Int), ((0 ≤ x6_60 ∧ x6_60 ≤ x5_42 + 1) ∧ ∀ k : Nat, (k : Int) < x6_60 → ¬ (isB z x5_42.toNat k a ∧ (1073741824 * (1000 - b) / 1000) ≤ asm (tb (al z) (rr z s) x5_42.toNat) k (x5_42.toNat - k + 1))) → (x5_42 + 1 - x6_60) < (n : Int) → Zj κ δ ad rs Q 7 (121, 0, 0) 60 [some (.ref (ad 48)), some (iv z), some (iv s), some (iv a), some (iv b), some (iv x5_42), some (iv x6_60)] [] m54 := by
                intro n
                induction n with
                | zero => intro x6_60 h60 hm60; exfalso; (try simp only [f54_0, f42_0, and_true, true_and, or_true, true_or, implies_true, upn, reduceIte, Nat.reduceEqDiff, ne_eq, not_false_eq_true, upc] at h60 hm60); obtain ⟨h60, -⟩ := h60; omega
                | succ n ih60 =>
                  intro x6_60 h60 hm60
                  try simp only [f54_0, f42_0, and_true, true_and, or_true, true_or, implies_true, upn, reduceIte, Nat.reduceEqDiff, ne_eq, not_false_eq_true, upc] at h60 hm60
                  refine Z_iload6 hk dX9_needed_60 ?_
                  refine Z_iload5 hk dX9_needed_62 ?_
                  refine Z_icmp_gt hk (tgt := 113) dX9_needed_64 (by decide) (by omega) (by omega) (by omega) (by omega) (fun h64 => ?_) (fun h64 => ?_)
                  · refine Z_iinc5 hk rfl (by decide) dX9_needed_113 ?_
                    refine Z_goto hk (tgt := 42) dX9_needed_116 (by decide) ?_
                    refine Z_drop6 ?_
                    exact ih42 _ _ (by exact ⟨(by (refine ⟨by omega, fun m h1 h2 hE => ?_⟩; by_cases c : (m : Int) = x5_42; (obtain ⟨k, k1, k2, k3⟩ := hE; rw [show m = x5_42.toNat from by omega] at k1 k2 k3; exact h60.2 k (by omega) ⟨k2, k3⟩); exact h42.2 m h1 (by omega) hE)), (by intro c k0; simp only [f54_0, f42_0, upc, upn, k0, reduceIte, Nat.reduceEqDiff, ne_eq, not_false_eq_true])⟩) (by (try simp only [f54_0, f42_0, and_true, true_and, or_true, true_or, implies_true, upn, reduceIte, Nat.reduceEqDiff, ne_eq, not_false_eq_true, upc]) <;> (omega))
                  · refine Z_iload1 hk dX9_needed_67 ?_
                    refine Z_iload6 hk dX9_needed_68 ?_
                    refine Z_iload5 hk dX9_needed_70 ?_
                    refine Z_iload3 hk dX9_needed_72 ?_
                    refine Z_i2l hk dX9_needed_73 (by omega) (by omega) ?_
                    refine Z_ldc2_w hk (n := 1000) (mem_g (by decide +kernel)) dX9_needed_74 ?_
                    refine Z_Si hk (c_X9_isBelow κ.2.1 δ ad _ hA z x6_60 x5_42 a (1000) (by (try simp only [f54_0, f42_0, and_true, true_and, or_true, true_or, implies_true, upn, reduceIte, Nat.reduceEqDiff, ne_eq, not_false_eq_true, upc]) <;> (omega)) (by (try simp only [f54_0, f42_0, and_true, true_and, or_true, true_or, implies_true, upn, reduceIte, Nat.reduceEqDiff, ne_eq, not_false_eq_true, upc]) <;> (omega)) (by (try simp only [f54_0, f42_0, and_true, true_and, or_true, true_or, implies_true, upn, reduceIte, Nat.reduceEqDiff, ne_eq, not_false_eq_true, upc]) <;> (omega))) os_X9_isBelow ml_X9_526 dX9_needed_77 rfl ⟨by decide, by decide⟩ rfl (Nat.le_of_ble_eq_true rfl) (fun r77 m77 p77 => ?_)
                    obtain ⟨rfl, p77⟩ := p77
                    try simp only [f54_0, f42_0, and_true, true_and, or_true, true_or, implies_true, upn, reduceIte, Nat.reduceEqDiff, ne_eq, not_false_eq_true, upc] at p77
                    have ib77 : r77 = 1 ↔ isB z x5_42.toNat x6_60.toNat a := by
                      unfold isB
                      rw [show x5_42.toNat - x6_60.toNat + 1 = (x5_42 - x6_60 + 1).toNat from by omega]
                      exact p77.2.2
                    have J107 : ∀ (_ : Unit), (¬ (isB z x5_42.toNat x6_60.toNat a ∧ (1073741824 * (1000 - b) / 1000) ≤ asm (tb (al z) (rr z s) x5_42.toNat) x6_60.toNat (x5_42.toNat - x6_60.toNat + 1))) → Zj κ δ ad rs Q 7 (121, 0, 0) 107 [some (.ref (ad 48)), some (iv z), some (iv s), some (iv a), some (iv b), some (iv x5_42), some (iv x6_60)] [] m54 := by
                      intro _ h107
                      try simp only [f54_0, f42_0, and_true, true_and, or_true, true_or, implies_true, upn, reduceIte, Nat.reduceEqDiff, ne_eq, not_false_eq_true, upc] at h107
                      refine Z_iinc6 hk rfl (by decide) dX9_needed_107 ?_
                      refine Z_goto hk (tgt := 60) dX9_needed_110 (by decide) ?_
                      exact ih60 _ (by refine ⟨by omega, fun k h1 h2 => ?_⟩; by_cases c : (k : Int) = x6_60; (rw [show k = x6_60.toNat from by omega] at h2; exact h107 h2); exact h60.2 k (by omega) h2) (by (try simp only [f54_0, f42_0, and_true, true_and, or_true, true_or, implies_true, upn, reduceIte, Nat.reduceEqDiff, ne_eq, not_false_eq_true, upc]) <;> (omega))
                    refine Z_if_eq hk (tgt := 107) dX9_needed_80 (by decide) (by omega) (by omega) (fun h80 => ?_) (fun h80 => ?_)
                    · exact J107 () (by intro hh; exact absurd (ib77.mpr hh.1) (by omega))
                    · refine Z_aload0 hk dX9_needed_83 ?_
                      refine Z_iload6 hk dX9_needed_84 ?_
                      refine Z_iload5 hk dX9_needed_86 ?_
                      refine Z_Vj hk (c_X9_rowSum_f κ.2.1 δ ad _ hA x6_60 x5_42 (by (try simp only [f54_0, f42_0, and_true, true_and, or_true, true_or, implies_true, upn, reduceIte, Nat.reduceEqDiff, ne_eq, not_false_eq_true, upc]) <;> (omega)) (by (intro j hj; rw [p54 j hj]; exact tb_in (by omega) (by omega) (by omega) _ _))) ov_X9_rowSum ml_X9_564 dX9_needed_88 rfl ⟨by decide, by decide⟩ ob_48.1 (by decide) (by decide) rfl (Nat.le_of_ble_eq_true rfl) (fun r88 m88 p88 => ?_)
                      obtain ⟨rfl, p88⟩ := p88
                      try simp only [f54_0, f42_0, and_true, true_and, or_true, true_or, implies_true, upn, reduceIte, Nat.reduceEqDiff, ne_eq, not_false_eq_true, upc] at p88
                      have ib60 := ib77.mp (by omega)
                      have sm88 : r88 = asm (tb (al z) (rr z s) x5_42.toNat) x6_60.toNat (x5_42.toNat - x6_60.toNat + 1) := by
                        rw [p88, show (x5_42 - x6_60 + 1).toNat = x5_42.toNat - x6_60.toNat + 1 from by omega]
                        exact asm_congr _ (fun j h1 h2 => p54 j (by omega))
                      have sb88 := asm_in (f := tb (al z) (rr z s) x5_42.toNat) (k := x6_60.toNat) (x5_42.toNat - x6_60.toNat + 1) (fun j _ _ => tb_in (by omega) (by omega) (by omega) _ _)
                      rw [← sm88] at sb88
                      refine Z_sipush hk dX9_needed_91 (by decide) ?_
                      refine Z_iload4 hk dX9_needed_94 ?_
                      refine Z_isub hk dX9_needed_96 ?_
                      refine Z_Sj hk (c_X9_thousandths_f κ.2.1 δ ad _ hA (1000 - b) (by (try simp only [f54_0, f42_0, and_true, true_and, or_true, true_or, implies_true, upn, reduceIte, Nat.reduceEqDiff, ne_eq, not_false_eq_true, upc]) <;> (omega))) os_X9_thousandths ml_X9_567 dX9_needed_97 rfl ⟨by decide, by decide⟩ rfl (Nat.le_of_ble_eq_true rfl) (fun r97 m97 p97 => ?_)
                      obtain ⟨rfl, p97⟩ := p97
                      try simp only [f54_0, f42_0, and_true, true_and, or_true, true_or, implies_true, upn, reduceIte, Nat.reduceEqDiff, ne_eq, not_false_eq_true, upc] at p97
                      refine Z_lcmp hk dX9_needed_100 (by omega) (by omega) (by omega) (by omega) (fun v100 e100 => ?_)
                      refine Z_if_lt hk (tgt := 107) dX9_needed_101 (by decide) (by omega) (by omega) (fun h101 => ?_) (fun h101 => ?_)
                      · exact J107 () (by intro hh; have h9 := hh.2; rw [← sm88] at h9; omega)
                      · refine Z_iload5 hk dX9_needed_104 ?_
                        exact Z_iret hk hA hQ dX9_needed_106 ⟨rfl, rfl, _, rfl, (by exact ⟨(by (try simp only [f54_0, f42_0, and_true, true_and, or_true, true_or, implies_true, upn, reduceIte, Nat.reduceEqDiff, ne_eq, not_false_eq_true, upc]) <;> (refine Or.inr ⟨by omega, Or.inl ⟨by omega, by omega, ⟨x6_60.toNat, by omega, ib60, by rw [← sm88]; omega⟩, fun m h1 h2 => h42.2 m h1 h2⟩⟩)), (by intro c k0; simp only [f54_0, f42_0, upc, upn, k0, reduceIte, Nat.reduceEqDiff, ne_eq, not_false_eq_true])⟩)⟩
              refine Z_istore6 hk rfl (by decide) dX9_needed_58 ?_
              exact J60 (((x5_42 + 1 - 0) : Int).toNat + 1) _ (by exact ⟨by omega, fun k h => by omega⟩) (by omega)
        refine Z_istore5 hk rfl (by decide) dX9_needed_40 ?_
        exact J42 (((31 - 1) : Int).toNat + 1) _ _ (by exact ⟨(by (exact ⟨by omega, fun m h1 h2 => by omega⟩)), (by intro c k0; rfl)⟩) (by omega)
      · refine Z_iconst hk dX9_needed_37 ?_
        exact Z_iret hk hA hQ dX9_needed_38 ⟨rfl, rfl, _, rfl, (by exact ⟨(by (exact Or.inl ⟨by omega, rfl⟩)), (by intro c k0; rfl)⟩)⟩
set_option maxRecDepth 10000 in
theorem c_X0_isBelow_f (l : Launch) (δ : Dp) (ad : Nat → Nat) (M : Mem) (hA : okA δ ad) (z : Int) (k : Int) (nn : Int) (a : Int) (b : Int) (q0 : 0 ≤ nn ∧ nn ≤ 30 ∧ 0 ≤ k ∧ k ≤ nn) (q1 : z = 0 ∨ z = 1) (q2 : 0 ≤ a ∧ a ≤ 9999 ∧ 0 ≤ b ∧ b ≤ 9999) : Mi l δ yX0_isBelow cX0_isBelow 6 (some (.boolean)) 1 28 ad rs [.ref (ad 8), iv z, iv k, iv nn, iv a, iv b] M (fun r M' => M = M' ∧ (0 ≤ r ∧ r ≤ 1 ∧ (r = 1 ↔ ((gsF z nn.toNat (nn - k + 1).toNat : Nat) : Int) * b < (if z = 1 then 3 else 2 : Int) ^ nn.toNat * a))) := by
  refine Mg.of (rm := rmN 1 28) (by decide) (Nat.le_of_ble_eq_true rfl) fun κ _ hk _ => ?_
  generalize hQ : Qg κ δ 121 (rmN 1 28).cells (rmN 1 28).slots _ = Q
  show Zj κ δ ad rs Q 6 (121, 0, 0) 0 [some (.ref (ad 8)), some (iv z), some (iv k), some (iv nn), some (iv a), some (iv b)] [] M
  refine Z_aload0 hk dX0_isBelow_0 ?_
  refine Z_iload1 hk dX0_isBelow_1 ?_
  refine Z_iload2 hk dX0_isBelow_2 ?_
  refine Z_iload3 hk dX0_isBelow_3 ?_
  refine Z_Vj hk (c_X0_above κ.2.1 δ ad _ hA z k nn (by (omega)) (by (omega))) ov_X0_above ml_X0_19 dX0_isBelow_4 rfl ⟨by decide, by decide⟩ ob_8.1 (by decide) (by decide) rfl (Nat.le_of_ble_eq_true rfl) (fun r4 m4 p4 => ?_)
  obtain ⟨rfl, p4⟩ := p4
  refine Z_iload5 hk dX0_isBelow_7 ?_
  refine Z_i2l hk dX0_isBelow_9 (by omega) (by omega) ?_
  refine Z_lmul hk dX0_isBelow_10 ?_
  refine Z_aload0 hk dX0_isBelow_11 ?_
  refine Z_iload1 hk dX0_isBelow_12 ?_
  refine Z_iload3 hk dX0_isBelow_13 ?_
  refine Z_Vj hk (c_X0_below κ.2.1 δ ad _ hA z nn (by (omega)) (by (omega))) ov_X0_below ml_X0_23 dX0_isBelow_14 rfl ⟨by decide, by decide⟩ ob_8.1 (by decide) (by decide) rfl (Nat.le_of_ble_eq_true rfl) (fun r14 m14 p14 => ?_)
  obtain ⟨rfl, p14⟩ := p14
  refine Z_iload4 hk dX0_isBelow_17 ?_
  refine Z_i2l hk dX0_isBelow_19 (by omega) (by omega) ?_
  refine Z_lmul hk dX0_isBelow_20 ?_
  have g4 := gs_le (z := z) q1 (n := nn.toNat) (m := (nn - k + 1).toNat) (by omega) (by omega)
  have w14 := pw_in (b := (if z = 1 then 3 else 2 : Int)) (k := nn.toNat) (by split <;> omega) (by omega)
  rw [← p14] at w14
  have k1 : 0 ≤ r4 * b := Int.mul_nonneg (by omega) (by omega)
  have k2 : r4 * b ≤ 281474976710656 * 9999 := Int.mul_le_mul (by omega) (by omega) (by omega) (by omega)
  have k3 : 0 ≤ r14 * a := Int.mul_nonneg (by omega) (by omega)
  have k4 : r14 * a ≤ 205891132094649 * 9999 := Int.mul_le_mul (by omega) (by omega) (by omega) (by omega)
  refine Z_lcmp hk dX0_isBelow_21 (by omega) (by omega) (by omega) (by omega) (fun v21 e21 => ?_)
  refine Z_if_ge hk (tgt := 29) dX0_isBelow_22 (by decide) (by omega) (by omega) (fun h22 => ?_) (fun h22 => ?_)
  · refine Z_iconst hk dX0_isBelow_29 ?_
    exact Z_zret hk hA hQ dX0_isBelow_30 (by decide) (by decide) ⟨rfl, rfl, _, rfl, (by exact ⟨rfl, (by rw [← p4, ← p14]; omega)⟩)⟩
  · refine Z_iconst hk dX0_isBelow_25 ?_
    refine Z_goto hk (tgt := 30) dX0_isBelow_26 (by decide) ?_
    exact Z_zret hk hA hQ dX0_isBelow_30 (by decide) (by decide) ⟨rfl, rfl, _, rfl, (by exact ⟨rfl, (by rw [← p4, ← p14]; omega)⟩)⟩
set_option maxHeartbeats 1000000 in
set_option maxRecDepth 10000 in
theorem c_X0_isEnough_f (l : Launch) (δ : Dp) (ad : Nat → Nat) (M : Mem) (hA : okA δ ad) (z : Int) (nn : Int) (a : Int) (p : Int) (s : Int) (q0 : 0 ≤ nn ∧ nn ≤ 30 ∧ 0 ≤ a ∧ a ≤ 1000 ∧ 0 ≤ s ∧ s ≤ 1000) (q1 : z = 0 ∨ z = 1) (q2 : ∀ j : Nat, j < 31 → M 9 j = (tb (al z) (rr z s) nn.toNat) j) (i_p : -9223372036854775808 ≤ p ∧ p ≤ 9223372036854775807) : Mi l δ yX0_isEnough cX0_isEnough 9 (some (.boolean)) 2 53 ad rs [.ref (ad 8), iv z, iv nn, iv a, jv p] M (fun r M' => M = M' ∧ (0 ≤ r ∧ r ≤ 1 ∧ (r = 1 ↔ EN z s nn.toNat a p))) := by
  refine Mg.of (rm := rmN 2 53) (by decide) (Nat.le_of_ble_eq_true rfl) fun κ _ hk _ => ?_
  generalize hQ : Qg κ δ 121 (rmN 2 53).cells (rmN 2 53).slots _ = Q
  show Zj κ δ ad rs Q 9 (121, 0, 0) 0 [some (.ref (ad 8)), some (iv z), some (iv nn), some (iv a), some (jv p), none, none, none, none] [] M
  refine Z_lconst0 hk dX0_isEnough_0 ?_
  refine Z_lstore6 hk rfl (by decide) dX0_isEnough_1 ?_
  refine Z_iload2 hk dX0_isEnough_3 ?_
  have J6 : ∀ (n : Nat) (x6_6 : Int) (x8_6 : Int), ((-1 ≤ x8_6 ∧ x8_6 ≤ nn ∧ 0 ≤ x6_6 ∧ x6_6 ≤ 1073741824 * (nn - x8_6)) ∧ x6_6 = asm (tb (al z) (rr z s) nn.toNat) (x8_6 + 1).toNat (nn - x8_6).toNat ∧ ∀ k : Nat, x8_6 < (k : Int) → k ≤ nn.toNat → ¬ p ≤ asm (tb (al z) (rr z s) nn.toNat) k (nn.toNat - k + 1)) → (x8_6 + 1) < (n : Int) → Zj κ δ ad rs Q 9 (121, 0, 0) 6 [some (.ref (ad 8)), some (iv z), some (iv nn), some (iv a), some (jv p), none, some (jv x6_6), none, some (iv x8_6)] [] M := by
    intro n
    induction n with
    | zero => intro x6_6 x8_6 h6 hm6; exfalso; obtain ⟨h6, -⟩ := h6; omega
    | succ n ih6 =>
      intro x6_6 x8_6 h6 hm6
      refine Z_iload8 hk dX0_isEnough_6 ?_
      refine Z_if_lt hk (tgt := 54) dX0_isEnough_8 (by decide) (by omega) (by omega) (fun h8 => ?_) (fun h8 => ?_)
      · refine Z_iconst hk dX0_isEnough_54 ?_
        exact Z_zret hk hA hQ dX0_isEnough_55 (by decide) (by decide) ⟨rfl, rfl, _, rfl, (by exact ⟨rfl, (by refine ⟨by omega, by omega, (fun h => by omega), fun hE => ?_⟩; exfalso; obtain ⟨k, k1, k2, k3⟩ := hE; by_cases c : x8_6 < (k : Int); exact h6.2.2 k c k1 k3; first | (have b2 := isB_mono k2 (show k ≤ x8_6.toNat by omega); exact absurd (ib20.mpr b2) (by omega)) | omega)⟩)⟩
      · refine Z_aload0 hk dX0_isEnough_11 ?_
        refine Z_iload1 hk dX0_isEnough_12 ?_
        refine Z_iload8 hk dX0_isEnough_13 ?_
        refine Z_iload2 hk dX0_isEnough_15 ?_
        refine Z_iload3 hk dX0_isEnough_16 ?_
        refine Z_sipush hk dX0_isEnough_17 (by decide) ?_
        refine Z_Vi hk (c_X0_isBelow_f κ.2.1 δ ad _ hA z x8_6 nn a 1000 (by (omega)) (by (omega)) (by (omega))) ov_X0_isBelow ml_X0_66 dX0_isEnough_20 rfl ⟨by decide, by decide⟩ ob_8.1 (by decide) (by decide) rfl (Nat.le_of_ble_eq_true rfl) (fun r20 m20 p20 => ?_)
        obtain ⟨rfl, p20⟩ := p20
        have ib20 : r20 = 1 ↔ isB z nn.toNat x8_6.toNat a := by
          unfold isB
          rw [show nn.toNat - x8_6.toNat + 1 = (nn - x8_6 + 1).toNat from by omega]
          exact p20.2.2
        refine Z_if_eq hk (tgt := 54) dX0_isEnough_23 (by decide) (by omega) (by omega) (fun h23 => ?_) (fun h23 => ?_)
        · refine Z_iconst hk dX0_isEnough_54 ?_
          exact Z_zret hk hA hQ dX0_isEnough_55 (by decide) (by decide) ⟨rfl, rfl, _, rfl, (by exact ⟨rfl, (by refine ⟨by omega, by omega, (fun h => by omega), fun hE => ?_⟩; exfalso; obtain ⟨k, k1, k2, k3⟩ := hE; by_cases c : x8_6 < (k : Int); exact h6.2.2 k c k1 k3; first | (have b2 := isB_mono k2 (show k ≤ x8_6.toNat by omega); exact absurd (ib20.mpr b2) (by omega)) | omega)⟩)⟩
        · refine Z_lload6 hk dX0_isEnough_26 ?_
          refine Z_aload0 hk dX0_isEnough_28 ?_
          refine Z_getR hk fl_0_11 dX0_isEnough_29 ob_8.1 ob_8.2.1 ob_8.2.2.1 ob_8.2.2.2 ft_0_0 rs_8_0 ?_
          refine Z_iload8 hk dX0_isEnough_32 ?_
          refine Z_lald hk dX0_isEnough_34 ar_9.1 ar_9.2.1 ar_9.2.2 (by omega) (by omega) (fun v34 e34 a34 b34 => ?_)
          have al0 := al_in (z := z) (s := s) (by omega)
          have g34 := tb_in (a := al z) (r := rr z s) (by omega) (by omega) (by omega) nn.toNat x8_6.toNat
          have t34 : v34 = (tb (al z) (rr z s) nn.toNat) x8_6.toNat := by rw [e34]; exact q2 _ (by omega)
          have sm34 : x6_6 + v34 = asm (tb (al z) (rr z s) nn.toNat) x8_6.toNat (nn.toNat - x8_6.toNat + 1) := by
            rw [show nn.toNat - x8_6.toNat + 1 = (nn - x8_6).toNat + 1 from by omega, asm_left, t34, h6.2.1, show (x8_6 + 1).toNat = x8_6.toNat + 1 from by omega]
            omega
          refine Z_ladd hk dX0_isEnough_35 ?_
          refine Z_lstore6 hk rfl (by decide) dX0_isEnough_36 ?_
          refine Z_lload6 hk dX0_isEnough_38 ?_
          refine Z_lload4 hk dX0_isEnough_40 ?_
          refine Z_lcmp hk dX0_isEnough_42 (by omega) (by omega) (by omega) (by omega) (fun v42 e42 => ?_)
          refine Z_if_lt hk (tgt := 48) dX0_isEnough_43 (by decide) (by omega) (by omega) (fun h43 => ?_) (fun h43 => ?_)
          · refine Z_iinc8 hk rfl (by decide) dX0_isEnough_48 ?_
            refine Z_goto hk (tgt := 6) dX0_isEnough_51 (by decide) ?_
            exact ih6 _ _ (by refine ⟨by omega, (by rw [sm34]; congr 1 <;> omega), fun k h1 h2 h3 => ?_⟩; by_cases c : (k : Int) = x8_6; (rw [show k = x8_6.toNat from by omega, ← sm34] at h3; omega); exact h6.2.2 k (by omega) h2 h3) (by (omega))
          · refine Z_iconst hk dX0_isEnough_46 ?_
            exact Z_zret hk hA hQ dX0_isEnough_47 (by decide) (by decide) ⟨rfl, rfl, _, rfl, (by exact ⟨rfl, (by refine ⟨by omega, by omega, fun _ => ⟨x8_6.toNat, by omega, ib20.mp (by omega), ?_⟩, fun _ => rfl⟩; rw [← sm34]; omega)⟩)⟩
  refine Z_istore8 hk rfl (by decide) dX0_isEnough_4 ?_
  exact J6 (((nn + 1) : Int).toNat + 1) _ _ (by exact ⟨by omega, (by rw [show (nn - nn).toNat = 0 from by omega]; rfl), fun k h1 h2 => by omega⟩) (by omega)
set_option maxRecDepth 10000 in
theorem c_X0_tastersFor_f (l : Launch) (δ : Dp) (ad : Nat → Nat) (M : Mem) (hA : okA δ ad) (z : Int) (s : Int) (a : Int) (b : Int) (q0 : 0 ≤ s ∧ s ≤ 1000 ∧ 0 ≤ a ∧ a ≤ 1000 ∧ 0 ≤ b ∧ b ≤ 1000) (q1 : z = 0 ∨ z = 1) : Mi l δ yX0_tastersFor cX0_tastersFor 8 (some (.int)) 3 81 ad rs [.ref (ad 8), iv z, iv s, iv a, iv b] M (fun r M' => (ND z s a (1073741824 * (1000 - b) / 1000) r) ∧ (∀ c : Nat, c ≠ 9 → M' c = M c)) := by
  refine Mg.of (rm := rmN 3 81) (by decide) (Nat.le_of_ble_eq_true rfl) fun κ _ hk _ => ?_
  generalize hQ : Qg κ δ 121 (rmN 3 81).cells (rmN 3 81).slots _ = Q
  show Zj κ δ ad rs Q 8 (121, 0, 0) 0 [some (.ref (ad 8)), some (iv z), some (iv s), some (iv a), some (iv b), none, none, none] [] M
  refine Z_ldc2_w hk (n := 1073741824) (mem_g (by decide +kernel)) dX0_tastersFor_0 ?_
  refine Z_sipush hk dX0_tastersFor_3 (by decide) ?_
  refine Z_iload4 hk dX0_tastersFor_6 ?_
  refine Z_isub hk dX0_tastersFor_8 ?_
  refine Z_i2l hk dX0_tastersFor_9 (by omega) (by omega) ?_
  refine Z_lmul hk dX0_tastersFor_10 ?_
  refine Z_ldc2_w hk (n := 1000) (mem_g (by decide +kernel)) dX0_tastersFor_11 ?_
  refine Z_ldiv hk dX0_tastersFor_14 (by omega) (by omega) (by omega) (by omega) (by omega) ?_
  have d14 : Int.tdiv (1073741824 * (1000 - b)) 1000 = 1073741824 * (1000 - b) / 1000 := Int.tdiv_eq_ediv_of_nonneg (by omega)
  refine Z_lstore5 hk rfl (by decide) dX0_tastersFor_15 ?_
  refine Z_iconst hk dX0_tastersFor_17 ?_
  have J20 : ∀ (n : Nat) (x7_20 : Int) (m20 : Mem), (((1 ≤ x7_20 ∧ x7_20 ≤ 31) ∧ ∀ m : Nat, 1 ≤ m → (m : Int) < x7_20 → ¬ EN z s m a (1073741824 * (1000 - b) / 1000)) ∧ (∀ c : Nat, c ≠ 9 → m20 c = M c)) → (31 - x7_20) < (n : Int) → Zj κ δ ad rs Q 8 (121, 0, 0) 20 [some (.ref (ad 8)), some (iv z), some (iv s), some (iv a), some (iv b), some (jv (Int.tdiv ((1073741824) * (1000 - b)) (1000))), none, some (iv x7_20)] [] m20 := by
    intro n
    induction n with
    | zero => intro x7_20 m20 h20 hm20; exfalso; obtain ⟨h20, -⟩ := h20; obtain ⟨h20, -⟩ := h20; omega
    | succ n ih20 =>
      intro x7_20 m20 h20 hm20
      obtain ⟨h20, f20_0⟩ := h20
      try simp only [f20_0, and_true, true_and, or_true, true_or, implies_true, upn, reduceIte, Nat.reduceEqDiff, ne_eq, not_false_eq_true, upc] at h20 hm20
      refine Z_iload7 hk dX0_tastersFor_20 ?_
      refine Z_bipush hk dX0_tastersFor_22 (by decide) ?_
      refine Z_icmp_gt hk (tgt := 57) dX0_tastersFor_24 (by decide) (by omega) (by omega) (by decide) (by decide) (fun h24 => ?_) (fun h24 => ?_)
      · refine Z_iconst hk dX0_tastersFor_57 ?_
        exact Z_iret hk hA hQ dX0_tastersFor_58 ⟨rfl, rfl, _, rfl, (by exact ⟨(by (try simp only [f20_0, and_true, true_and, or_true, true_or, implies_true, upn, reduceIte, Nat.reduceEqDiff, ne_eq, not_false_eq_true, upc]) <;> (exact Or.inr ⟨rfl, fun m h1 h2 => h20.2 m h1 (by omega)⟩)), (by intro c k0; simp only [f20_0, upc, upn, k0, reduceIte, Nat.reduceEqDiff, ne_eq, not_false_eq_true])⟩)⟩
      · refine Z_aload0 hk dX0_tastersFor_27 ?_
        refine Z_iload1 hk dX0_tastersFor_28 ?_
        refine Z_iload2 hk dX0_tastersFor_29 ?_
        refine Z_iload7 hk dX0_tastersFor_30 ?_
        refine Z_Vv hk (c_X0_fillRow_f κ.2.1 δ ad _ hA z s x7_20 (by (try simp only [f20_0, and_true, true_and, or_true, true_or, implies_true, upn, reduceIte, Nat.reduceEqDiff, ne_eq, not_false_eq_true, upc]) <;> (omega)) (by (try simp only [f20_0, and_true, true_and, or_true, true_or, implies_true, upn, reduceIte, Nat.reduceEqDiff, ne_eq, not_false_eq_true, upc]) <;> (omega))) ov_X0_fillRow ml_X0_47 dX0_tastersFor_32 rfl ⟨by decide, by decide⟩ ob_8.1 (by decide) (by decide) rfl (Nat.le_of_ble_eq_true rfl) (fun m32 p32 => ?_)
        obtain ⟨p32, f32_0⟩ := p32
        try simp only [f32_0, f20_0, and_true, true_and, or_true, true_or, implies_true, upn, reduceIte, Nat.reduceEqDiff, ne_eq, not_false_eq_true, upc] at p32
        refine Z_aload0 hk dX0_tastersFor_35 ?_
        refine Z_iload1 hk dX0_tastersFor_36 ?_
        refine Z_iload7 hk dX0_tastersFor_37 ?_
        refine Z_iload3 hk dX0_tastersFor_39 ?_
        refine Z_lload5 hk dX0_tastersFor_40 ?_
        refine Z_Vi hk (c_X0_isEnough_f κ.2.1 δ ad _ hA z x7_20 a (Int.tdiv ((1073741824) * (1000 - b)) (1000)) s (by (try simp only [f32_0, f20_0, and_true, true_and, or_true, true_or, implies_true, upn, reduceIte, Nat.reduceEqDiff, ne_eq, not_false_eq_true, upc]) <;> (omega)) (by (try simp only [f32_0, f20_0, and_true, true_and, or_true, true_or, implies_true, upn, reduceIte, Nat.reduceEqDiff, ne_eq, not_false_eq_true, upc]) <;> (omega)) (by (exact p32)) (by (try simp only [f32_0, f20_0, and_true, true_and, or_true, true_or, implies_true, upn, reduceIte, Nat.reduceEqDiff, ne_eq, not_false_eq_true, upc]) <;> (omega))) ov_X0_isEnough ml_X0_62 dX0_tastersFor_42 rfl ⟨by decide, by decide⟩ ob_8.1 (by decide) (by decide) rfl (Nat.le_of_ble_eq_true rfl) (fun r42 m42 p42 => ?_)
        obtain ⟨rfl, p42⟩ := p42
        try simp only [f32_0, f20_0, and_true, true_and, or_true, true_or, implies_true, upn, reduceIte, Nat.reduceEqDiff, ne_eq, not_false_eq_true, upc] at p42
        refine Z_if_eq hk (tgt := 51) dX0_tastersFor_45 (by decide) (by omega) (by omega) (fun h45 => ?_) (fun h45 => ?_)
        · refine Z_iinc7 hk rfl (by decide) dX0_tastersFor_51 ?_
          refine Z_goto hk (tgt := 20) dX0_tastersFor_54 (by decide) ?_
          exact ih20 _ _ (by exact ⟨(by (refine ⟨by omega, fun m h1 h2 hE => ?_⟩; by_cases c : (m : Int) = x7_20; (rw [show m = x7_20.toNat from by omega, ← d14] at hE; exact absurd (p42.2.2.mpr hE) (by omega)); exact h20.2 m h1 (by omega) hE)), (by intro c k0; simp only [f32_0, f20_0, upc, upn, k0, reduceIte, Nat.reduceEqDiff, ne_eq, not_false_eq_true])⟩) (by (try simp only [f32_0, f20_0, and_true, true_and, or_true, true_or, implies_true, upn, reduceIte, Nat.reduceEqDiff, ne_eq, not_false_eq_true, upc]) <;> (omega))
        · refine Z_iload7 hk dX0_tastersFor_48 ?_
          exact Z_iret hk hA hQ dX0_tastersFor_50 ⟨rfl, rfl, _, rfl, (by exact ⟨(by (try simp only [f32_0, f20_0, and_true, true_and, or_true, true_or, implies_true, upn, reduceIte, Nat.reduceEqDiff, ne_eq, not_false_eq_true, upc]) <;> (refine Or.inl ⟨by omega, by omega, (by rw [← d14]; exact p42.2.2.mp (by omega)), fun m h1 h2 => h20.2 m h1 h2⟩)), (by intro c k0; simp only [f32_0, f20_0, upc, upn, k0, reduceIte, Nat.reduceEqDiff, ne_eq, not_false_eq_true])⟩)⟩
  refine Z_istore7 hk rfl (by decide) dX0_tastersFor_18 ?_
  exact J20 (((31 - 1) : Int).toNat + 1) _ _ (by exact ⟨(by (exact ⟨by omega, fun m h1 h2 => by omega⟩)), (by intro c k0; rfl)⟩) (by omega)
set_option maxRecDepth 10000 in
theorem c_X8_needed_f (l : Launch) (δ : Dp) (ad : Nat → Nat) (M : Mem) (hA : okA δ ad) (z : Int) (s : Int) (a : Int) (b : Int) (qz : z = 0 ∨ z = 1) (i_s : -2147483648 ≤ s ∧ s ≤ 2147483647) (i_a : -2147483648 ≤ a ∧ a ≤ 2147483647) (i_b : -2147483648 ≤ b ∧ b ≤ 2147483647) : Mi l δ yX8_needed cX8_needed 5 (some (.int)) 4 108 ad rs [.ref (ad 0), iv z, iv s, iv a, iv b] M (fun r M' => ((¬ (0 ≤ s ∧ s ≤ 1000 ∧ 0 ≤ a ∧ a ≤ 1000 ∧ 0 ≤ b ∧ b ≤ 1000) ∧ r = -1) ∨ ((0 ≤ s ∧ s ≤ 1000 ∧ 0 ≤ a ∧ a ≤ 1000 ∧ 0 ≤ b ∧ b ≤ 1000) ∧ ND z s a (1073741824 * (1000 - b) / 1000) r)) ∧ (∀ c : Nat, c ≠ 9 → M' c = M c)) := by
  refine Mg.of (rm := rmN 4 108) (by decide) (Nat.le_of_ble_eq_true rfl) fun κ _ hk _ => ?_
  generalize hQ : Qg κ δ 121 (rmN 4 108).cells (rmN 4 108).slots _ = Q
  show Zj κ δ ad rs Q 5 (121, 0, 0) 0 [some (.ref (ad 0)), some (iv z), some (iv s), some (iv a), some (iv b)] [] M
  refine Z_iload2 hk dX8_needed_0 ?_
  refine Z_Si hk (c_X8_isInThousand κ.2.1 δ ad _ hA s (by (omega))) os_X8_isInThousand ml_X8_191 dX8_needed_1 rfl ⟨by decide, by decide⟩ rfl (Nat.le_of_ble_eq_true rfl) (fun r1 m1 p1 => ?_)
  obtain ⟨rfl, p1⟩ := p1
  refine Z_if_eq hk (tgt := 22) dX8_needed_4 (by decide) (by omega) (by omega) (fun h4 => ?_) (fun h4 => ?_)
  · refine Z_iconst hk dX8_needed_22 ?_
    exact Z_iret hk hA hQ dX8_needed_23 ⟨rfl, rfl, _, rfl, (by exact ⟨(by (first | exact Or.inr ⟨by omega, p33⟩ | exact Or.inl ⟨by omega, rfl⟩)), (by intro c k0; rfl)⟩)⟩
  · refine Z_iload3 hk dX8_needed_7 ?_
    refine Z_Si hk (c_X8_isInThousand κ.2.1 δ ad _ hA a (by (omega))) os_X8_isInThousand ml_X8_191 dX8_needed_8 rfl ⟨by decide, by decide⟩ rfl (Nat.le_of_ble_eq_true rfl) (fun r8 m8 p8 => ?_)
    obtain ⟨rfl, p8⟩ := p8
    refine Z_if_eq hk (tgt := 22) dX8_needed_11 (by decide) (by omega) (by omega) (fun h11 => ?_) (fun h11 => ?_)
    · refine Z_iconst hk dX8_needed_22 ?_
      exact Z_iret hk hA hQ dX8_needed_23 ⟨rfl, rfl, _, rfl, (by exact ⟨(by (first | exact Or.inr ⟨by omega, p33⟩ | exact Or.inl ⟨by omega, rfl⟩)), (by intro c k0; rfl)⟩)⟩
    · refine Z_iload4 hk dX8_needed_14 ?_
      refine Z_Si hk (c_X8_isInThousand κ.2.1 δ ad _ hA b (by (omega))) os_X8_isInThousand ml_X8_191 dX8_needed_16 rfl ⟨by decide, by decide⟩ rfl (Nat.le_of_ble_eq_true rfl) (fun r16 m16 p16 => ?_)
      obtain ⟨rfl, p16⟩ := p16
      refine Z_if_ne hk (tgt := 24) dX8_needed_19 (by decide) (by omega) (by omega) (fun h19 => ?_) (fun h19 => ?_)
      · refine Z_aload0 hk dX8_needed_24 ?_
        refine Z_getR hk fl_8_29 dX8_needed_25 ob_0.1 ob_0.2.1 ob_0.2.2.1 ob_0.2.2.2 ft_8_2 rs_0_2 ?_
        refine Z_iload1 hk dX8_needed_28 ?_
        refine Z_iload2 hk dX8_needed_29 ?_
        refine Z_iload3 hk dX8_needed_30 ?_
        refine Z_iload4 hk dX8_needed_31 ?_
        refine Z_Vi hk (c_X0_tastersFor_f κ.2.1 δ ad _ hA z s a b (by (omega)) (by (omega))) ov_X0_tastersFor ml_X8_198 dX8_needed_33 rfl ⟨by decide, by decide⟩ ob_8.1 (by decide) (by decide) rfl (Nat.le_of_ble_eq_true rfl) (fun r33 m33 p33 => ?_)
        obtain ⟨p33, f33_0⟩ := p33
        try simp only [f33_0, and_true, true_and, or_true, true_or, implies_true, upn, reduceIte, Nat.reduceEqDiff, ne_eq, not_false_eq_true, upc] at p33
        exact Z_iret hk hA hQ dX8_needed_36 ⟨rfl, rfl, _, rfl, (by exact ⟨(by (try simp only [f33_0, and_true, true_and, or_true, true_or, implies_true, upn, reduceIte, Nat.reduceEqDiff, ne_eq, not_false_eq_true, upc]) <;> (first | exact Or.inr ⟨by omega, p33⟩ | exact Or.inl ⟨by omega, rfl⟩)), (by intro c k0; simp only [f33_0, upc, upn, k0, reduceIte, Nat.reduceEqDiff, ne_eq, not_false_eq_true])⟩)⟩
      · refine Z_iconst hk dX8_needed_22 ?_
        exact Z_iret hk hA hQ dX8_needed_23 ⟨rfl, rfl, _, rfl, (by exact ⟨(by (first | exact Or.inr ⟨by omega, p33⟩ | exact Or.inl ⟨by omega, rfl⟩)), (by intro c k0; rfl)⟩)⟩
