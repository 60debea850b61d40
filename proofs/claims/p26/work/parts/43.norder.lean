def MB (f : Nat → Int) (t i b k : Nat) (l : Int) : Prop := (l = -1 ∧ ∀ w, w < b → pm t w = false) ∨ (BB (VK f t i) t b k ∧ l = VK f t i k ∧ 0 ≤ l)
theorem MB_no {f : Nat → Int} {t i b k : Nat} {l : Int} (h : MB f t i b k l) (hp : pm t b = false) : MB f t i (b + 1) k l := by
  rcases h with ⟨a, z⟩ | ⟨a, z⟩
  · refine Or.inl ⟨a, fun w hw => ?_⟩
    by_cases c : w < b
    · exact z w c
    · rw [show w = b from by omega]; exact hp
  · exact Or.inr ⟨a.skip (by omega) (fun w h1 h2 => by rw [show w = b from by omega]; exact hp), z⟩
theorem MB_new {f : Nat → Int} {t i b k : Nat} {l : Int} (h : MB f t i b k l) (hp : pm t b = true) (hl : l = -1 ∨ VK f t i b < l) (h0 : 0 ≤ VK f t i b) : MB f t i (b + 1) b (VK f t i b) := by
  refine Or.inr ⟨?_, rfl, h0⟩
  rcases h with ⟨a, z⟩ | ⟨a, e, z⟩
  · exact BB.first hp z
  · exact a.better hp (by omega)
theorem MB_old {f : Nat → Int} {t i b k : Nat} {l : Int} (h : MB f t i b k l) (hn : l ≠ -1) (hl : l ≤ VK f t i b) : MB f t i (b + 1) k l := by
  rcases h with ⟨a, z⟩ | ⟨a, e, z⟩
  · exact absurd a hn
  · exact Or.inr ⟨a.keep (by omega), e, z⟩
theorem MB_end {f : Nat → Int} {t i k : Nat} {l : Int} (ht : t = 2 ∨ t = 3 ∨ t = 4 ∨ t = 5) (h : MB f t i (t ^ t) k l) : BB (VK f t i) t (t ^ t) k ∧ l = VK f t i k := by
  rcases h with ⟨-, z⟩ | ⟨a, b, -⟩
  · have := z _ (it_0 ht).1
    rw [(it_0 ht).2.1] at this
    cases this
  · exact ⟨a, b⟩
set_option maxHeartbeats 2000000 in
set_option maxRecDepth 10000 in
theorem c_X9_orders_f (l : Launch) (δ : Dp) (ad : Nat → Nat) (M : Mem) (hA : okA δ ad) (t : Int) (nn : Int) (q1 : TH (M 118)) (i_t : -2147483648 ≤ t ∧ t ≤ 2147483647) (i_nn : -2147483648 ≤ nn ∧ nn ≤ 2147483647) : Mi l δ yX9_orders cX9_orders 10 (some (.int)) 2 45 ad rs [.ref (ad 48), iv t, iv nn] M (fun r M' => (((M' 48 108) = (M 48 108) ∧ (M' 48 109) = (M 48 109)) ∨ (2 ≤ (M' 48 108) ∧ (M' 48 108) ≤ 5 ∧ 1 ≤ (M' 48 109) ∧ (M' 48 109) ≤ 30)) ∧ (∀ c : Nat, c ≠ 118 → c ≠ 119 → c ≠ 120 → c ≠ 48 → M' c = M c) ∧ (∀ i : Nat, i ≠ 108 → i ≠ 109 → M' 48 i = M 48 i) ∧ (TH (M' 118)) ∧ (OA t nn r)) := by
  refine Mg.of (rm := rmN 2 45) (by decide) (Nat.le_of_ble_eq_true rfl) fun κ _ hk _ => ?_
  generalize hQ : Qg κ δ 121 (rmN 2 45).cells (rmN 2 45).slots _ = Q
  show Zj κ δ ad rs Q 10 (121, 0, 0) 0 [some (.ref (ad 48)), some (iv t), some (iv nn), none, none, none, none, none, none, none] [] M
  refine Z_iload1 hk dX9_orders_0 ?_
  refine Z_i2l hk dX9_orders_1 (by omega) (by omega) ?_
  refine Z_ldc2_w hk (n := 2) (mem_g (by decide +kernel)) dX9_orders_2 ?_
  refine Z_ldc2_w hk (n := 5) (mem_g (by decide +kernel)) dX9_orders_5 ?_
  refine Z_Si hk (c_X9_isIn κ.2.1 δ ad _ hA t (2) (5) (by (omega)) (by (omega)) (by (omega))) os_X9_isIn ml_X9_285 dX9_orders_8 rfl ⟨by decide, by decide⟩ rfl (Nat.le_of_ble_eq_true rfl) (fun r8 m8 p8 => ?_)
  obtain ⟨rfl, p8⟩ := p8
  refine Z_if_eq hk (tgt := 26) dX9_orders_11 (by decide) (by omega) (by omega) (fun h11 => ?_) (fun h11 => ?_)
  · refine Z_iconst hk dX9_orders_26 ?_
    exact Z_iret hk hA hQ dX9_orders_27 ⟨rfl, rfl, _, rfl, (by exact ⟨(by (omega)), (by intro c k0 k1 k2 k3; rfl), (by intro i k0 k1; rfl), (by (try simp only [and_true, true_and, or_true, true_or, implies_true, upn, reduceIte, Nat.reduceEqDiff, ne_eq, not_false_eq_true, upc, upc]); first | exact h42a | exact q1), (by first | (right; exact ⟨by omega, rfl⟩) | (left; exact ⟨by omega, by omega, by omega, by omega, m42 118, (by rw [show nn.toNat = x5_42.toNat from by omega]; exact h42b), (by rw [show nn.toNat = x5_42.toNat from by omega]; exact h42c (by omega))⟩))⟩)⟩
  · refine Z_iload2 hk dX9_orders_14 ?_
    refine Z_i2l hk dX9_orders_15 (by omega) (by omega) ?_
    refine Z_lconst1 hk dX9_orders_16 ?_
    refine Z_ldc2_w hk (n := 30) (mem_g (by decide +kernel)) dX9_orders_17 ?_
    refine Z_Si hk (c_X9_isIn κ.2.1 δ ad _ hA nn 1 (30) (by (omega)) (by (omega)) (by (omega))) os_X9_isIn ml_X9_285 dX9_orders_20 rfl ⟨by decide, by decide⟩ rfl (Nat.le_of_ble_eq_true rfl) (fun r20 m20 p20 => ?_)
    obtain ⟨rfl, p20⟩ := p20
    refine Z_if_ne hk (tgt := 28) dX9_orders_23 (by decide) (by omega) (by omega) (fun h23 => ?_) (fun h23 => ?_)
    · refine Z_iload1 hk dX9_orders_28 ?_
      refine Z_i2l hk dX9_orders_29 (by omega) (by omega) ?_
      refine Z_iload1 hk dX9_orders_30 ?_
      refine Z_Sj hk (c_X9_power κ.2.1 δ ad _ hA t t (by (omega))) os_X9_power ml_X9_540 dX9_orders_31 rfl ⟨by decide, by decide⟩ rfl (Nat.le_of_ble_eq_true rfl) (fun r31 m31 p31 => ?_)
      obtain ⟨rfl, p31⟩ := p31
      refine Z_l2i hk dX9_orders_34 ?_
      refine Z_wI (fun w34 a34w b34w g34w => ?_)
      have ht := t_in (t := t.toNat) (by omega) (by omega)
      have pn := pw_n ht
      have ep : r31 = ((t.toNat ^ t.toNat : Nat) : Int) := by
        rw [p31, Int.natCast_pow, show ((t.toNat : Nat) : Int) = t from by omega]
      obtain ⟨Nt, hN⟩ : ∃ N : Nat, N = t.toNat ^ t.toNat := ⟨_, rfl⟩
      rw [← hN] at pn ep
      have w34e := g34w (by omega) (by omega)
      refine Z_istore3 hk rfl (by decide) dX9_orders_35 ?_
      refine Z_iconst hk dX9_orders_36 ?_
      refine Z_istore4 hk rfl (by decide) dX9_orders_37 ?_
      refine Z_iconst hk dX9_orders_39 ?_
      have J42 : ∀ (n : Nat) (x4_42 : Int) (x5_42 : Int) (m42 : Mem), (((0 ≤ x5_42 ∧ x5_42 ≤ nn ∧ -2147483648 ≤ x4_42 ∧ x4_42 ≤ 2147483647) ∧ TH (m42 118) ∧ LD t.toNat (x5_42 : Int).toNat (m42 118) ∧ Imp (1 ≤ x5_42) (x4_42 = UN t.toNat (x5_42 : Int).toNat (m42 118))) ∧ (∀ c : Nat, c ≠ 118 → c ≠ 119 → c ≠ 120 → m42 c = M c)) → (nn - x5_42) < (n : Int) → Zj κ δ ad rs Q 10 (121, 0, 0) 42 [some (.ref (ad 48)), some (iv t), some (iv nn), some (iv w34), some (iv x4_42), some (iv x5_42), none, none, none, none] [] m42 := by
        intro n
        induction n with
        | zero => intro x4_42 x5_42 m42 h42 hm42; exfalso; obtain ⟨h42, -⟩ := h42; obtain ⟨h42, -⟩ := h42; omega
        | succ n ih42 =>
          intro x4_42 x5_42 m42 h42 hm42
          obtain ⟨h42, f42_0⟩ := h42
          try simp only [f42_0, and_true, true_and, or_true, true_or, implies_true, upn, reduceIte, Nat.reduceEqDiff, ne_eq, not_false_eq_true, upc] at h42 hm42
          obtain ⟨h42, h42a, h42b, h42c⟩ := h42
          refine Z_iload5 hk dX9_orders_42 ?_
          refine Z_iload2 hk dX9_orders_44 ?_
          refine Z_icmp_ge hk (tgt := 139) dX9_orders_45 (by decide) (by omega) (by omega) (by omega) (by omega) (fun h45 => ?_) (fun h45 => ?_)
          · refine Z_aload0 hk dX9_orders_139 ?_
            refine Z_iload1 hk dX9_orders_140 ?_
            refine Z_putI hk hA fl_9_646 dX9_orders_141 ob_48.1 ob_48.2.1 ob_48.2.2.1 ob_48.2.2.2 ft_9_108 (by omega) (by omega) ?_
            refine Z_nm (fun m141 em141 => ?_)
            refine Z_aload0 hk dX9_orders_144 ?_
            refine Z_iload2 hk dX9_orders_145 ?_
            refine Z_putI hk hA fl_9_649 dX9_orders_146 ob_48.1 ob_48.2.1 ob_48.2.2.1 ob_48.2.2.2 ft_9_109 (by omega) (by omega) ?_
            refine Z_nm (fun m146 em146 => ?_)
            refine Z_iload4 hk dX9_orders_149 ?_
            exact Z_iret hk hA hQ dX9_orders_151 ⟨rfl, rfl, _, rfl, (by exact ⟨(by (try simp only [em146, em141, f42_0, and_true, true_and, or_true, true_or, implies_true, upn, reduceIte, Nat.reduceEqDiff, ne_eq, not_false_eq_true, upc]) <;> (omega)), (by intro c k0 k1 k2 k3; simp only [em146, em141, f42_0, upc, upn, k0, k1, k2, k3, reduceIte, Nat.reduceEqDiff, ne_eq, not_false_eq_true]), (by intro i k0 k1; simp only [em146, em141, f42_0, upc, upn, k0, k1, reduceIte, Nat.reduceEqDiff, ne_eq, not_false_eq_true]), (by (try simp only [em146, em141, f42_0, and_true, true_and, or_true, true_or, implies_true, upn, reduceIte, Nat.reduceEqDiff, ne_eq, not_false_eq_true, upc, upc]); first | exact h42a | exact q1), (by first | (right; exact ⟨by omega, rfl⟩) | (left; exact ⟨by omega, by omega, by omega, by omega, m42 118, (by rw [show nn.toNat = x5_42.toNat from by omega]; exact h42b), (by rw [show nn.toNat = x5_42.toNat from by omega]; exact h42c (by omega))⟩))⟩)⟩
          · refine Z_iconst hk dX9_orders_48 ?_
            refine Z_istore6 hk rfl (by decide) dX9_orders_49 ?_
            refine Z_iconst hk dX9_orders_51 ?_
            refine Z_istore7 hk rfl (by decide) dX9_orders_52 ?_
            refine Z_iconst hk dX9_orders_54 ?_
            have J57 : ∀ (n : Nat) (x6_57 : Int) (x7_57 : Int) (x8_57 : Int) (m57 : Mem), (((0 ≤ x8_57 ∧ x8_57 ≤ (Nt : Int) ∧ 0 ≤ x7_57 ∧ x7_57 ≤ 2147483647 ∧ -2147483648 ≤ x6_57 ∧ x6_57 ≤ 2147483647) ∧ TH (m57 118) ∧ (∀ j : Nat, j < 5 * x5_42.toNat → m57 118 j = m42 118 j) ∧ MB (m42 118) t.toNat x5_42.toNat (x8_57 : Int).toNat (x7_57 : Int).toNat x6_57) ∧ (∀ c : Nat, c ≠ 118 → c ≠ 119 → c ≠ 120 → m57 c = m42 c)) → ((Nt : Int) - x8_57) < (n : Int) → Zj κ δ ad rs Q 10 (121, 0, 0) 57 [some (.ref (ad 48)), some (iv t), some (iv nn), some (iv w34), some (iv x4_42), some (iv x5_42), some (iv x6_57), some (iv x7_57), some (iv x8_57), none] [] m57 := by
              intro n
              induction n with
              | zero => intro x6_57 x7_57 x8_57 m57 h57 hm57; exfalso; obtain ⟨h57, -⟩ := h57; obtain ⟨h57, -⟩ := h57; omega
              | succ n ih57 =>
                intro x6_57 x7_57 x8_57 m57 h57 hm57
                obtain ⟨h57, f57_0⟩ := h57
                try simp only [f57_0, f42_0, and_true, true_and, or_true, true_or, implies_true, upn, reduceIte, Nat.reduceEqDiff, ne_eq, not_false_eq_true, upc] at h57 hm57
                obtain ⟨h57, h57a, h57b, h57c⟩ := h57
                refine Z_iload8 hk dX9_orders_57 ?_
                refine Z_iload3 hk dX9_orders_59 ?_
                refine Z_icmp_ge hk (tgt := 119) dX9_orders_60 (by decide) (by omega) (by omega) (by omega) (by omega) (fun h60 => ?_) (fun h60 => ?_)
                · refine Z_aload0 hk dX9_orders_119 ?_
                  refine Z_iload7 hk dX9_orders_120 ?_
                  refine Z_iload1 hk dX9_orders_122 ?_
                  refine Z_iload5 hk dX9_orders_123 ?_
                  have y57 : x8_57.toNat = t.toNat ^ t.toNat := by rw [← hN]; omega
                  have h57d := h57c
                  rw [y57] at h57d
                  obtain ⟨b57, l57⟩ := MB_end ht h57d
                  refine Z_Vi hk (c_X9_lays_f κ.2.1 δ ad _ hA x7_57 t x5_42 (by (try simp only [f57_0, f42_0, and_true, true_and, or_true, true_or, implies_true, upn, reduceIte, Nat.reduceEqDiff, ne_eq, not_false_eq_true, upc]) <;> (omega)) (by (exact h57a))) ov_X9_lays ml_X9_639 dX9_orders_125 rfl ⟨by decide, by decide⟩ ob_48.1 (by decide) (by decide) rfl (Nat.le_of_ble_eq_true rfl) (fun r125 m125 p125 => ?_)
                  obtain ⟨p125, f125_0, f125_1, f125_2, f125_3⟩ := p125
                  try simp only [f125_0, f125_1, f125_2, f125_3, f57_0, f42_0, and_true, true_and, or_true, true_or, implies_true, upn, reduceIte, Nat.reduceEqDiff, ne_eq, not_false_eq_true, upc] at p125
                  have s125 := LDV_step (by omega) (by omega) h42b (AG.of (by omega) (fun j hj => (by rw [f125_3 j (Or.inl hj)]; exact (h57b j hj).symm))) b57 (fun p hp => f125_2 p (by omega))
                  refine Z_pop1 hk rfl dX9_orders_128 ?_
                  refine Z_iload6 hk dX9_orders_129 ?_
                  refine Z_istore4 hk rfl (by decide) dX9_orders_131 ?_
                  refine Z_iinc5 hk rfl (by decide) dX9_orders_133 ?_
                  refine Z_goto hk (tgt := 42) dX9_orders_136 (by decide) ?_
                  refine Z_drop6 ?_
                  refine Z_drop7 ?_
                  refine Z_drop8 ?_
                  exact ih42 _ _ _ (by exact ⟨(by (exact ⟨by omega, f125_1, (by rw [show (x5_42 + 1).toNat = x5_42.toNat + 1 from by omega]; exact s125.1), fun _ => by rw [show (x5_42 + 1).toNat = x5_42.toNat + 1 from by omega, s125.2]; exact l57⟩)), (by intro c k0 k1 k2; simp only [f125_0, f125_1, f125_2, f125_3, f57_0, f42_0, upc, upn, k0, k1, k2, reduceIte, Nat.reduceEqDiff, ne_eq, not_false_eq_true])⟩) (by (try simp only [f125_0, f125_1, f125_2, f125_3, f57_0, f42_0, and_true, true_and, or_true, true_or, implies_true, upn, reduceIte, Nat.reduceEqDiff, ne_eq, not_false_eq_true, upc]) <;> (omega))
                · refine Z_aload0 hk dX9_orders_63 ?_
                  refine Z_iload8 hk dX9_orders_64 ?_
                  refine Z_iload1 hk dX9_orders_66 ?_
                  refine Z_iload5 hk dX9_orders_67 ?_
                  refine Z_Vi hk (c_X9_lays_f κ.2.1 δ ad _ hA x8_57 t x5_42 (by (try simp only [f57_0, f42_0, and_true, true_and, or_true, true_or, implies_true, upn, reduceIte, Nat.reduceEqDiff, ne_eq, not_false_eq_true, upc]) <;> (omega)) (by (exact h57a))) ov_X9_lays ml_X9_639 dX9_orders_69 rfl ⟨by decide, by decide⟩ ob_48.1 (by decide) (by decide) rfl (Nat.le_of_ble_eq_true rfl) (fun r69 m69 p69 => ?_)
                  obtain ⟨p69, f69_0, f69_1, f69_2, f69_3⟩ := p69
                  try simp only [f69_0, f69_1, f69_2, f69_3, f57_0, f42_0, and_true, true_and, or_true, true_or, implies_true, upn, reduceIte, Nat.reduceEqDiff, ne_eq, not_false_eq_true, upc] at p69
                  have a69 : ∀ j : Nat, j < 5 * x5_42.toNat → m69 118 j = m42 118 j := fun j hj => by rw [f69_3 j (Or.inl hj)]; exact h57b j hj
                  have J113 : ∀ (x6_113 : Int) (x7_113 : Int) (m113 : Mem), (((0 ≤ x7_113 ∧ x7_113 ≤ 2147483647 ∧ -2147483648 ≤ x6_113 ∧ x6_113 ≤ 2147483647) ∧ TH (m113 118) ∧ (∀ j : Nat, j < 5 * x5_42.toNat → m113 118 j = m42 118 j) ∧ MB (m42 118) t.toNat x5_42.toNat (x8_57.toNat + 1) (x7_113 : Int).toNat x6_113) ∧ (∀ c : Nat, c ≠ 118 → c ≠ 119 → c ≠ 120 → m113 c = m69 c)) → Zj κ δ ad rs Q 10 (121, 0, 0) 113 [some (.ref (ad 48)), some (iv t), some (iv nn), some (iv w34), some (iv x4_42), some (iv x5_42), some (iv x6_113), some (iv x7_113), some (iv x8_57), none] [] m113 := by
                    intro x6_113 x7_113 m113 h113
                    obtain ⟨h113, f113_0⟩ := h113
                    try simp only [f113_0, f69_0, f69_1, f69_2, f69_3, f57_0, f42_0, and_true, true_and, or_true, true_or, implies_true, upn, reduceIte, Nat.reduceEqDiff, ne_eq, not_false_eq_true, upc] at h113
                    refine Z_iinc8 hk rfl (by decide) dX9_orders_113 ?_
                    refine Z_goto hk (tgt := 57) dX9_orders_116 (by decide) ?_
                    exact ih57 _ _ _ _ (by exact ⟨(by (exact ⟨by omega, h113.2.1, h113.2.2.1, by rw [show (x8_57 + 1).toNat = x8_57.toNat + 1 from by omega]; exact h113.2.2.2⟩)), (by intro c k0 k1 k2; simp only [f113_0, f69_0, f69_1, f69_2, f69_3, f57_0, f42_0, upc, upn, k0, k1, k2, reduceIte, Nat.reduceEqDiff, ne_eq, not_false_eq_true])⟩) (by (try simp only [f113_0, f69_0, f69_1, f69_2, f69_3, f57_0, f42_0, and_true, true_and, or_true, true_or, implies_true, upn, reduceIte, Nat.reduceEqDiff, ne_eq, not_false_eq_true, upc]) <;> (omega))
                  refine Z_if_ne hk (tgt := 78) dX9_orders_72 (by decide) (by omega) (by omega) (fun h72 => ?_) (fun h72 => ?_)
                  · refine Z_aload0 hk dX9_orders_78 ?_
                    refine Z_iload1 hk dX9_orders_79 ?_
                    refine Z_iload5 hk dX9_orders_80 ?_
                    refine Z_iconst hk dX9_orders_82 ?_
                    refine Z_iadd hk dX9_orders_83 ?_
                    refine Z_Vi hk (c_X9_uneven_f κ.2.1 δ ad _ hA t (x5_42 + 1) (by (try simp only [f69_0, f69_1, f69_2, f69_3, f57_0, f42_0, and_true, true_and, or_true, true_or, implies_true, upn, reduceIte, Nat.reduceEqDiff, ne_eq, not_false_eq_true, upc]) <;> (omega)) (by (exact f69_1))) ov_X9_uneven ml_X9_643 dX9_orders_84 rfl ⟨by decide, by decide⟩ ob_48.1 (by decide) (by decide) rfl (Nat.le_of_ble_eq_true rfl) (fun r84 m84 p84 => ?_)
                    obtain ⟨p84, f84_0, f84_1, f84_2⟩ := p84
                    try simp only [f84_0, f84_1, f84_2, f69_0, f69_1, f69_2, f69_3, f57_0, f42_0, and_true, true_and, or_true, true_or, implies_true, upn, reduceIte, Nat.reduceEqDiff, ne_eq, not_false_eq_true, upc] at p84
                    have u84 : r84 = VK (m42 118) t.toNat x5_42.toNat x8_57.toNat ∧ 0 ≤ r84 ∧ r84 ≤ 28125000 := by
                      have n84 : (x5_42 + 1).toNat = x5_42.toNat + 1 := by omega
                      have cc : CC (m84 119) (m84 120) (m69 118) t.toNat (x5_42.toNat + 1) := fun a b ha hb => ⟨by rw [← n84]; exact f84_1 a b (by omega) (by omega), by rw [← n84]; exact f84_2 a b (by omega) (by omega)⟩
                      have z := UN_of (by omega) cc
                      have z2 := UN_in (t := t.toNat) (n := x5_42.toNat + 1) (f := m69 118) (by omega) (by omega) (by omega)
                      have z3 := VK_eq (f := m42 118) (g := m69 118) (t := t.toNat) (i := x5_42.toNat) (k := x8_57.toNat) (by omega) (by omega) (AG.of (by omega) (fun j hj => (a69 j hj).symm)) (by rw [← hN]; omega) (p69.2.2.mp (by omega)) (fun p hp => f69_2 p (by omega))
                      rw [show ((t.toNat : Nat) : Int) = t from by omega, show ((x5_42.toNat + 1 : Nat) : Int) = x5_42 + 1 from by omega] at z
                      rw [← z3, ← z]
                      rw [← z] at z2
                      exact ⟨p84, by rw [p84]; exact z2.1, by rw [p84]; exact z2.2⟩
                    refine Z_istore9 hk rfl (by decide) dX9_orders_87 ?_
                    refine Z_iload6 hk dX9_orders_89 ?_
                    refine Z_iconst hk dX9_orders_91 ?_
                    have J105 : ∀ (_ : Unit), (x6_57 = -1 ∨ r84 < x6_57) → Zj κ δ ad rs Q 10 (121, 0, 0) 105 [some (.ref (ad 48)), some (iv t), some (iv nn), some (iv w34), some (iv x4_42), some (iv x5_42), some (iv x6_57), some (iv x7_57), some (iv x8_57), some (iv r84)] [] m84 := by
                      intro _ h105
                      try simp only [f84_0, f84_1, f84_2, f69_0, f69_1, f69_2, f69_3, f57_0, f42_0, and_true, true_and, or_true, true_or, implies_true, upn, reduceIte, Nat.reduceEqDiff, ne_eq, not_false_eq_true, upc] at h105
                      refine Z_iload9 hk dX9_orders_105 ?_
                      refine Z_istore6 hk rfl (by decide) dX9_orders_107 ?_
                      refine Z_iload8 hk dX9_orders_109 ?_
                      refine Z_istore7 hk rfl (by decide) dX9_orders_111 ?_
                      refine Z_drop9 ?_
                      exact J113 _ _ _ (by exact ⟨(by (exact ⟨by omega, (by rw [f84_0 118 (by decide) (by decide)]; exact f69_1), (fun j hj => by rw [f84_0 118 (by decide) (by decide)]; exact a69 j hj), by rw [u84.1]; exact MB_new h57c (p69.2.2.mp (by omega)) (by rw [← u84.1]; exact h105) (by rw [← u84.1]; omega)⟩)), (by intro c k0 k1 k2; simp only [f84_0, f84_1, f84_2, f69_0, f69_1, f69_2, f69_3, f57_0, f42_0, upc, upn, k0, k1, k2, reduceIte, Nat.reduceEqDiff, ne_eq, not_false_eq_true])⟩)
                    refine Z_icmp_eq hk (tgt := 105) dX9_orders_92 (by decide) (by omega) (by omega) (by decide) (by decide) (fun h92 => ?_) (fun h92 => ?_)
                    · exact J105 () (by (try simp only [f84_0, f84_1, f84_2, f69_0, f69_1, f69_2, f69_3, f57_0, f42_0, and_true, true_and, or_true, true_or, implies_true, upn, reduceIte, Nat.reduceEqDiff, ne_eq, not_false_eq_true, upc]) <;> (omega))
                    · refine Z_iload9 hk dX9_orders_95 ?_
                      refine Z_iload6 hk dX9_orders_97 ?_
                      refine Z_icmp_lt hk (tgt := 105) dX9_orders_99 (by decide) (by omega) (by omega) (by omega) (by omega) (fun h99 => ?_) (fun h99 => ?_)
                      · exact J105 () (by (try simp only [f84_0, f84_1, f84_2, f69_0, f69_1, f69_2, f69_3, f57_0, f42_0, and_true, true_and, or_true, true_or, implies_true, upn, reduceIte, Nat.reduceEqDiff, ne_eq, not_false_eq_true, upc]) <;> (omega))
                      · refine Z_goto hk (tgt := 113) dX9_orders_102 (by decide) ?_
                        refine Z_drop9 ?_
                        exact J113 _ _ _ (by exact ⟨(by (exact ⟨by omega, (by rw [f84_0 118 (by decide) (by decide)]; exact f69_1), (fun j hj => by rw [f84_0 118 (by decide) (by decide)]; exact a69 j hj), MB_old h57c (by omega) (by rw [← u84.1]; omega)⟩)), (by intro c k0 k1 k2; simp only [f84_0, f84_1, f84_2, f69_0, f69_1, f69_2, f69_3, f57_0, f42_0, upc, upn, k0, k1, k2, reduceIte, Nat.reduceEqDiff, ne_eq, not_false_eq_true])⟩)
                  · refine Z_goto hk (tgt := 113) dX9_orders_75 (by decide) ?_
                    exact J113 _ _ _ (by exact ⟨(by (exact ⟨by omega, f69_1, a69, MB_no h57c (by cases hp : pm t.toNat x8_57.toNat; rfl; exact absurd (p69.2.2.mpr hp) (by omega))⟩)), (by intro c k0 k1 k2; simp only [f69_0, f69_1, f69_2, f69_3, f57_0, f42_0, upc, upn, k0, k1, k2, reduceIte, Nat.reduceEqDiff, ne_eq, not_false_eq_true])⟩)
            refine Z_istore8 hk rfl (by decide) dX9_orders_55 ?_
            exact J57 ((((Nt : Int) - 0) : Int).toNat + 1) _ _ _ _ (by exact ⟨(by (exact ⟨by omega, (by (try simp only [f42_0, and_true, true_and, or_true, true_or, implies_true, upn, reduceIte, Nat.reduceEqDiff, ne_eq, not_false_eq_true, upc, upc]); exact h42a), (fun j _ => rfl), Or.inl ⟨rfl, fun w hw => absurd hw (Nat.not_lt_zero _)⟩⟩)), (by intro c k0 k1 k2; simp only [f42_0, upc, upn, k0, k1, k2, reduceIte, Nat.reduceEqDiff, ne_eq, not_false_eq_true])⟩) (by omega)
      refine Z_istore5 hk rfl (by decide) dX9_orders_40 ?_
      exact J42 (((nn - 0) : Int).toNat + 1) _ _ _ (by exact ⟨(by (exact ⟨by omega, (by (try simp only [and_true, true_and, or_true, true_or, implies_true, upn, reduceIte, Nat.reduceEqDiff, ne_eq, not_false_eq_true, upc, upc]); exact q1), (fun i hi => absurd hi (Nat.not_lt_zero _)), fun z => absurd z (by decide)⟩)), (by intro c k0 k1 k2; rfl)⟩) (by omega)
    · refine Z_iconst hk dX9_orders_26 ?_
      exact Z_iret hk hA hQ dX9_orders_27 ⟨rfl, rfl, _, rfl, (by exact ⟨(by (omega)), (by intro c k0 k1 k2 k3; rfl), (by intro i k0 k1; rfl), (by (try simp only [and_true, true_and, or_true, true_or, implies_true, upn, reduceIte, Nat.reduceEqDiff, ne_eq, not_false_eq_true, upc, upc]); first | exact h42a | exact q1), (by first | (right; exact ⟨by omega, rfl⟩) | (left; exact ⟨by omega, by omega, by omega, by omega, m42 118, (by rw [show nn.toNat = x5_42.toNat from by omega]; exact h42b), (by rw [show nn.toNat = x5_42.toNat from by omega]; exact h42c (by omega))⟩))⟩)⟩
