/-- the table of shares: of i, j right -/
def tb (a r : Int) : Nat → Nat → Int
  | 0, j => if j = 0 then 1073741824 else 0
  | i + 1, j => tb a r i j * (a - r) / a + (if j = 0 then 0 else tb a r i (j - 1) * r / a)
theorem tb_in {a r : Int} (ha : 0 < a) (h0 : 0 ≤ r) (h1 : r ≤ a) : ∀ i j, 0 ≤ tb a r i j ∧ tb a r i j ≤ 1073741824 := by
  intro i
  induction i with
  | zero => intro j; show 0 ≤ (if j = 0 then (1073741824 : Int) else 0) ∧ _; show _ ∧ (if j = 0 then (1073741824 : Int) else 0) ≤ _; split <;> omega
  | succ i ih =>
    intro j
    have p := ih j
    have hp0 : 0 ≤ tb a r i j * (a - r) := Int.mul_nonneg p.1 (by omega)
    have hp1 : tb a r i j * (a - r) ≤ 1073741824 * (a - r) := Int.mul_le_mul_of_nonneg_right p.2 (by omega)
    have e1 : tb a r i j * (a - r) / a * a ≤ tb a r i j * (a - r) := Int.ediv_mul_le _ (by omega)
    have n1 : 0 ≤ tb a r i j * (a - r) / a := Int.ediv_nonneg hp0 (by omega)
    have q := ih (j - 1)
    have hq0 : 0 ≤ tb a r i (j - 1) * r := Int.mul_nonneg q.1 h0
    have hq1 : tb a r i (j - 1) * r ≤ 1073741824 * r := Int.mul_le_mul_of_nonneg_right q.2 h0
    have e2 : tb a r i (j - 1) * r / a * a ≤ tb a r i (j - 1) * r := Int.ediv_mul_le _ (by omega)
    have n2 : 0 ≤ tb a r i (j - 1) * r / a := Int.ediv_nonneg hq0 (by omega)
    have key : tb a r i j * (a - r) / a + tb a r i (j - 1) * r / a ≤ 1073741824 := by
      apply Int.le_of_mul_le_mul_right _ ha
      rw [Int.add_mul]
      omega
    show 0 ≤ tb a r i j * (a - r) / a + (if j = 0 then 0 else tb a r i (j - 1) * r / a) ∧ tb a r i j * (a - r) / a + (if j = 0 then 0 else tb a r i (j - 1) * r / a) ≤ 1073741824
    split <;> omega
theorem tb_zero {a r : Int} : ∀ i j, i < j → tb a r i j = 0 := by
  intro i
  induction i with
  | zero => intro j hj; show (if j = 0 then (1073741824 : Int) else 0) = 0; rw [if_neg (by omega)]
  | succ i ih =>
    intro j hj
    show tb a r i j * (a - r) / a + (if j = 0 then 0 else tb a r i (j - 1) * r / a) = 0
    rw [if_neg (by omega), ih j (by omega), ih (j - 1) (by omega), Int.zero_mul, Int.zero_mul, Int.zero_ediv]
    rfl
theorem tb_rng {a r v : Int} {i j : Nat} (ha : 0 < a) (ha3 : a ≤ 3000) (h0 : 0 ≤ r) (h1 : r ≤ a) (hv : v = tb a r i j) : 0 ≤ v * (a - r) ∧ v * (a - r) ≤ 3221225472000 ∧ 0 ≤ v * r ∧ v * r ≤ 3221225472000 := by
  have t := tb_in ha h0 h1 i j
  rw [← hv] at t
  refine ⟨Int.mul_nonneg t.1 (by omega), ?_, Int.mul_nonneg t.1 h0, ?_⟩
  · have := Int.mul_le_mul_of_nonneg_right t.2 (show 0 ≤ a - r by omega)
    omega
  · have := Int.mul_le_mul_of_nonneg_right t.2 h0
    omega
theorem tb_s0 {a r v : Int} {i : Nat} (ha : 0 < a) (ha3 : a ≤ 3000) (h0 : 0 ≤ r) (h1 : r ≤ a) (hv : v = tb a r i 0) : Int.tdiv (v * (a - r)) a = tb a r (i + 1) 0 := by
  have t := tb_rng ha ha3 h0 h1 hv
  rw [Int.tdiv_eq_ediv_of_nonneg t.1, hv]
  show _ = tb a r i 0 * (a - r) / a + 0
  omega
theorem tb_sS {a r v w : Int} {i j : Nat} (ha : 0 < a) (ha3 : a ≤ 3000) (h0 : 0 ≤ r) (h1 : r ≤ a) (hj : 0 < j) (hv : v = tb a r i j) (hw : w = tb a r i (j - 1)) : Int.tdiv (v * (a - r)) a + Int.tdiv (w * r) a = tb a r (i + 1) j := by
  have t := tb_rng ha ha3 h0 h1 hv
  have u := tb_rng ha ha3 h0 h1 hw
  rw [Int.tdiv_eq_ediv_of_nonneg t.1, Int.tdiv_eq_ediv_of_nonneg u.2.2.1, hv, hw]
  show _ = tb a r i j * (a - r) / a + (if j = 0 then 0 else tb a r i (j - 1) * r / a)
  rw [if_neg (by omega)]
def al (z : Int) : Int := if z = 1 then 3000 else 2000
def rr (z s : Int) : Int := if z = 1 then 1000 + 2 * s else 1000 + s
theorem al_in {z s : Int} (h : 0 ≤ s ∧ s ≤ 1000) : 2000 ≤ al z ∧ al z ≤ 3000 ∧ 1000 ≤ rr z s ∧ rr z s ≤ al z := by
  unfold al rr
  split <;> omega
set_option maxHeartbeats 1000000 in
set_option maxRecDepth 10000 in
theorem c_X9_tables_f (l : Launch) (δ : Dp) (ad : Nat → Nat) (M : Mem) (hA : okA δ ad) (z : Int) (s : Int) (nn : Int) (q0 : 0 ≤ s ∧ s ≤ 1000 ∧ 0 ≤ nn ∧ nn ≤ 30) (q1 : z = 0 ∨ z = 1) : Mv l δ yX9_tables cX9_tables 12 none 0 0 ad rs [.ref (ad 48), iv z, iv s, iv nn] M (fun M' => (∀ j : Nat, j < 32 → M' 112 j = tb (al z) (rr z s) nn.toNat j) ∧ (∀ c : Nat, c ≠ 112 → M' c = M c)) := by
  refine Mg.of (rm := rmN 0 0) (by decide) (Nat.le_of_ble_eq_true rfl) fun κ _ hk _ => ?_
  generalize hQ : Qg κ δ 121 (rmN 0 0).cells (rmN 0 0).slots _ = Q
  show Zj κ δ ad rs Q 12 (121, 0, 0) 0 [some (.ref (ad 48)), some (iv z), some (iv s), some (iv nn), none, none, none, none, none, none, none, none] [] M
  have al0 := al_in (z := z) (s := s) (by omega)
  refine Z_iload1 hk dX9_tables_0 ?_
  have J23 : ∀ (y0_23 : Int), (y0_23 = rr z s) → Zj κ δ ad rs Q 12 (121, 0, 0) 23 [some (.ref (ad 48)), some (iv z), some (iv s), some (iv nn), none, none, none, none, none, none, none, none] [jv y0_23] M := by
    intro y0_23 h23
    refine Z_lstore4 hk rfl (by decide) dX9_tables_23 ?_
    refine Z_iload1 hk dX9_tables_25 ?_
    have J38 : ∀ (y0_38 : Int), (y0_38 = al z) → Zj κ δ ad rs Q 12 (121, 0, 0) 38 [some (.ref (ad 48)), some (iv z), some (iv s), some (iv nn), some (jv y0_23), none, none, none, none, none, none, none] [jv y0_38] M := by
      intro y0_38 h38
      refine Z_lstore6 hk rfl (by decide) dX9_tables_38 ?_
      refine Z_iconst hk dX9_tables_40 ?_
      have J43 : ∀ (n : Nat) (x8_43 : Int) (m43 : Mem), (((0 ≤ x8_43 ∧ x8_43 ≤ 32) ∧ ∀ j : Nat, (j : Int) < x8_43 → m43 112 j = tb (al z) (rr z s) 0 j) ∧ (∀ c : Nat, c ≠ 112 → m43 c = M c)) → (32 - x8_43) < (n : Int) → Zj κ δ ad rs Q 12 (121, 0, 0) 43 [some (.ref (ad 48)), some (iv z), some (iv s), some (iv nn), some (jv y0_23), none, some (jv y0_38), none, some (iv x8_43), none, none, none] [] m43 := by
        intro n
        induction n with
        | zero => intro x8_43 m43 h43 hm43; exfalso; obtain ⟨h43, -⟩ := h43; obtain ⟨h43, -⟩ := h43; omega
        | succ n ih43 =>
          intro x8_43 m43 h43 hm43
          obtain ⟨h43, f43_0⟩ := h43
          try simp only [f43_0, and_true, true_and, or_true, true_or, implies_true, upn, reduceIte, Nat.reduceEqDiff, ne_eq, not_false_eq_true, upc] at h43 hm43
          refine Z_iload8 hk dX9_tables_43 ?_
          refine Z_bipush hk dX9_tables_45 (by decide) ?_
          refine Z_icmp_ge hk (tgt := 75) dX9_tables_47 (by decide) (by omega) (by omega) (by decide) (by decide) (fun h47 => ?_) (fun h47 => ?_)
          · refine Z_iconst hk dX9_tables_75 ?_
            have J78 : ∀ (n : Nat) (x8_78 : Int) (m78 : Mem), (((1 ≤ x8_78 ∧ x8_78 ≤ nn + 1) ∧ ∀ j : Nat, j < 32 → m78 112 j = tb (al z) (rr z s) (x8_78 - 1).toNat j) ∧ (∀ c : Nat, c ≠ 112 → m78 c = m43 c)) → (nn + 1 - x8_78) < (n : Int) → Zj κ δ ad rs Q 12 (121, 0, 0) 78 [some (.ref (ad 48)), some (iv z), some (iv s), some (iv nn), some (jv y0_23), none, some (jv y0_38), none, some (iv x8_78), none, none, none] [] m78 := by
              intro n
              induction n with
              | zero => intro x8_78 m78 h78 hm78; exfalso; obtain ⟨h78, -⟩ := h78; obtain ⟨h78, -⟩ := h78; omega
              | succ n ih78 =>
                intro x8_78 m78 h78 hm78
                obtain ⟨h78, f78_0⟩ := h78
                try simp only [f78_0, f43_0, and_true, true_and, or_true, true_or, implies_true, upn, reduceIte, Nat.reduceEqDiff, ne_eq, not_false_eq_true, upc] at h78 hm78
                refine Z_iload8 hk dX9_tables_78 ?_
                refine Z_iload3 hk dX9_tables_80 ?_
                refine Z_icmp_gt hk (tgt := 157) dX9_tables_81 (by decide) (by omega) (by omega) (by omega) (by omega) (fun h81 => ?_) (fun h81 => ?_)
                · exact Z_vret hk hA hQ dX9_tables_157 ⟨rfl, rfl, rfl, (by exact ⟨(by (try simp only [f78_0, f43_0, and_true, true_and, or_true, true_or, implies_true, upn, reduceIte, Nat.reduceEqDiff, ne_eq, not_false_eq_true, upc]) <;> (intro j hj; rw [h78.2 j hj, show (x8_78 - 1).toNat = nn.toNat from by omega])), (by intro c k0; simp only [f78_0, f43_0, upc, upn, k0, reduceIte, Nat.reduceEqDiff, ne_eq, not_false_eq_true])⟩)⟩
                · refine Z_iload8 hk dX9_tables_84 ?_
                  have J88 : ∀ (n : Nat) (x9_88 : Int) (m88 : Mem), (((-1 ≤ x9_88 ∧ x9_88 ≤ x8_78) ∧ (∀ j : Nat, (j : Int) ≤ x9_88 → m88 112 j = tb (al z) (rr z s) (x8_78 - 1).toNat j) ∧ ∀ j : Nat, x9_88 < (j : Int) → j < 32 → m88 112 j = tb (al z) (rr z s) x8_78.toNat j) ∧ (∀ c : Nat, c ≠ 112 → m88 c = m78 c)) → (x9_88 + 1) < (n : Int) → Zj κ δ ad rs Q 12 (121, 0, 0) 88 [some (.ref (ad 48)), some (iv z), some (iv s), some (iv nn), some (jv y0_23), none, some (jv y0_38), none, some (iv x8_78), some (iv x9_88), none, none] [] m88 := by
                    intro n
                    induction n with
                    | zero => intro x9_88 m88 h88 hm88; exfalso; obtain ⟨h88, -⟩ := h88; obtain ⟨h88, -⟩ := h88; omega
                    | succ n ih88 =>
                      intro x9_88 m88 h88 hm88
                      obtain ⟨h88, f88_0⟩ := h88
                      try simp only [f88_0, f78_0, f43_0, and_true, true_and, or_true, true_or, implies_true, upn, reduceIte, Nat.reduceEqDiff, ne_eq, not_false_eq_true, upc] at h88 hm88
                      refine Z_iload9 hk dX9_tables_88 ?_
                      refine Z_if_lt hk (tgt := 151) dX9_tables_90 (by decide) (by omega) (by omega) (fun h90 => ?_) (fun h90 => ?_)
                      · refine Z_iinc8 hk rfl (by decide) dX9_tables_151 ?_
                        refine Z_goto hk (tgt := 78) dX9_tables_154 (by decide) ?_
                        refine Z_drop9 ?_
                        exact ih78 _ _ (by exact ⟨(by (exact ⟨by omega, fun j hj => by rw [h88.2.2 j (by omega) hj]; congr 1; omega⟩)), (by intro c k0; simp only [f88_0, f78_0, f43_0, upc, upn, k0, reduceIte, Nat.reduceEqDiff, ne_eq, not_false_eq_true])⟩) (by (try simp only [f88_0, f78_0, f43_0, and_true, true_and, or_true, true_or, implies_true, upn, reduceIte, Nat.reduceEqDiff, ne_eq, not_false_eq_true, upc]) <;> (omega))
                      · refine Z_aload0 hk dX9_tables_93 ?_
                        refine Z_getR hk fl_9_215 dX9_tables_94 ob_48.1 ob_48.2.1 ob_48.2.2.1 ob_48.2.2.2 ft_9_100 rs_48_100 ?_
                        refine Z_iload9 hk dX9_tables_97 ?_
                        refine Z_lald hk dX9_tables_99 ar_112.1 ar_112.2.1 ar_112.2.2 (by omega) (by omega) (fun v99 e99 a99 b99 => ?_)
                        try simp only [f88_0, f78_0, f43_0, and_true, true_and, or_true, true_or, implies_true, upn, reduceIte, Nat.reduceEqDiff, ne_eq, not_false_eq_true, upc] at e99
                        have t99 : v99 = tb (al z) (rr z s) (x8_78 - 1).toNat x9_88.toNat := by rw [e99]; exact h88.2.1 _ (by omega)
                        have g99 := tb_rng (a := al z) (r := rr z s) (by omega) (by omega) (by omega) (by omega) t99
                        rw [← h23, ← h38] at g99
                        have g98 := tb_in (a := al z) (r := rr z s) (by omega) (by omega) (by omega) x8_78.toNat x9_88.toNat
                        refine Z_lload6 hk dX9_tables_100 ?_
                        refine Z_lload4 hk dX9_tables_102 ?_
                        refine Z_lsub hk dX9_tables_104 ?_
                        refine Z_lmul hk dX9_tables_105 ?_
                        refine Z_lload6 hk dX9_tables_106 ?_
                        refine Z_ldiv hk dX9_tables_108 (by omega) (by omega) (by omega) (by omega) (by omega) ?_
                        refine Z_lstore10 hk rfl (by decide) dX9_tables_109 ?_
                        refine Z_iload9 hk dX9_tables_111 ?_
                        have J136 : ∀ (x10_136 : Int), (x10_136 = tb (al z) (rr z s) x8_78.toNat x9_88.toNat) → Zj κ δ ad rs Q 12 (121, 0, 0) 136 [some (.ref (ad 48)), some (iv z), some (iv s), some (iv nn), some (jv y0_23), none, some (jv y0_38), none, some (iv x8_78), some (iv x9_88), some (jv x10_136), none] [] m88 := by
                          intro x10_136 h136
                          try simp only [f88_0, f78_0, f43_0, and_true, true_and, or_true, true_or, implies_true, upn, reduceIte, Nat.reduceEqDiff, ne_eq, not_false_eq_true, upc] at h136
                          refine Z_aload0 hk dX9_tables_136 ?_
                          refine Z_getR hk fl_9_215 dX9_tables_137 ob_48.1 ob_48.2.1 ob_48.2.2.1 ob_48.2.2.2 ft_9_100 rs_48_100 ?_
                          refine Z_iload9 hk dX9_tables_140 ?_
                          refine Z_lload10 hk dX9_tables_142 ?_
                          have g144 := tb_in (a := al z) (r := rr z s) (by omega) (by omega) (by omega) x8_78.toNat x9_88.toNat
                          refine Z_last hk hA dX9_tables_144 ar_112.1 ar_112.2.1 ar_112.2.2 (by omega) (by omega) (by omega) (by omega) ?_
                          refine Z_nm (fun m144 em144 => ?_)
                          refine Z_iinc9 hk rfl (by decide) dX9_tables_145 ?_
                          refine Z_goto hk (tgt := 88) dX9_tables_148 (by decide) ?_
                          refine Z_drop10 ?_
                          exact ih88 _ _ (by exact ⟨(by (exact ⟨by omega, (fun j hj => by simp only [em144, f88_0, f78_0, f43_0, e99, and_true, true_and, or_true, true_or, implies_true, upn, reduceIte, Nat.reduceEqDiff, ne_eq, not_false_eq_true, upc, upc]; rw [if_neg (by omega)]; exact h88.2.1 j (by omega)), fun j h1 h2 => by simp only [em144, f88_0, f78_0, f43_0, e99, and_true, true_and, or_true, true_or, implies_true, upn, reduceIte, Nat.reduceEqDiff, ne_eq, not_false_eq_true, upc, upc]; split; (rename_i e; rw [h136, e]); exact h88.2.2 j (by omega) h2⟩)), (by intro c k0; simp only [em144, f88_0, f78_0, f43_0, upc, upn, k0, reduceIte, Nat.reduceEqDiff, ne_eq, not_false_eq_true])⟩) (by (try simp only [em144, f88_0, f78_0, f43_0, and_true, true_and, or_true, true_or, implies_true, upn, reduceIte, Nat.reduceEqDiff, ne_eq, not_false_eq_true, upc]) <;> (omega))
                        refine Z_if_le hk (tgt := 136) dX9_tables_113 (by decide) (by omega) (by omega) (fun h113 => ?_) (fun h113 => ?_)
                        · exact J136 _ (by have e0 : x9_88.toNat = 0 := (by omega); rw [h23, h38, e0, show x8_78.toNat = (x8_78 - 1).toNat + 1 from by omega]; exact tb_s0 (by omega) (by omega) (by omega) (by omega) (by rw [t99, e0]))
                        · refine Z_lload10 hk dX9_tables_116 ?_
                          refine Z_aload0 hk dX9_tables_118 ?_
                          refine Z_getR hk fl_9_215 dX9_tables_119 ob_48.1 ob_48.2.1 ob_48.2.2.1 ob_48.2.2.2 ft_9_100 rs_48_100 ?_
                          refine Z_iload9 hk dX9_tables_122 ?_
                          refine Z_iconst hk dX9_tables_124 ?_
                          refine Z_isub hk dX9_tables_125 ?_
                          refine Z_lald hk dX9_tables_126 ar_112.1 ar_112.2.1 ar_112.2.2 (by omega) (by omega) (fun v126 e126 a126 b126 => ?_)
                          try simp only [f88_0, f78_0, f43_0, e99, and_true, true_and, or_true, true_or, implies_true, upn, reduceIte, Nat.reduceEqDiff, ne_eq, not_false_eq_true, upc] at e126
                          have t126 : v126 = tb (al z) (rr z s) (x8_78 - 1).toNat (x9_88.toNat - 1) := by rw [e126, show (x9_88 - 1).toNat = x9_88.toNat - 1 from by omega]; exact h88.2.1 _ (by omega)
                          have g126 := tb_rng (a := al z) (r := rr z s) (by omega) (by omega) (by omega) (by omega) t126
                          rw [← h23, ← h38] at g126
                          refine Z_lload4 hk dX9_tables_127 ?_
                          refine Z_lmul hk dX9_tables_129 ?_
                          refine Z_lload6 hk dX9_tables_130 ?_
                          refine Z_ldiv hk dX9_tables_132 (by omega) (by omega) (by omega) (by omega) (by omega) ?_
                          refine Z_ladd hk dX9_tables_133 ?_
                          refine Z_lstore10 hk rfl (by decide) dX9_tables_134 ?_
                          exact J136 _ (by rw [h23, h38, show x8_78.toNat = (x8_78 - 1).toNat + 1 from by omega]; exact tb_sS (by omega) (by omega) (by omega) (by omega) (by omega) t99 t126)
                  refine Z_istore9 hk rfl (by decide) dX9_tables_86 ?_
                  exact J88 (((x8_78 + 1) : Int).toNat + 1) _ _ (by exact ⟨(by (exact ⟨by omega, (fun j hj => h78.2 j (by omega)), fun j h1 h2 => by rw [h78.2 j h2, tb_zero _ _ (by omega), tb_zero _ _ (by omega)]⟩)), (by intro c k0; simp only [f78_0, f43_0, upc, upn, k0, reduceIte, Nat.reduceEqDiff, ne_eq, not_false_eq_true])⟩) (by omega)
            refine Z_istore8 hk rfl (by decide) dX9_tables_76 ?_
            exact J78 (((nn + 1 - 1) : Int).toNat + 1) _ _ (by exact ⟨(by (exact ⟨by omega, fun j hj => h43.2 j (by omega)⟩)), (by intro c k0; simp only [f43_0, upc, upn, k0, reduceIte, Nat.reduceEqDiff, ne_eq, not_false_eq_true])⟩) (by omega)
          · refine Z_aload0 hk dX9_tables_50 ?_
            refine Z_getR hk fl_9_215 dX9_tables_51 ob_48.1 ob_48.2.1 ob_48.2.2.1 ob_48.2.2.2 ft_9_100 rs_48_100 ?_
            refine Z_iload8 hk dX9_tables_54 ?_
            refine Z_iload8 hk dX9_tables_56 ?_
            have J68 : ∀ (y2_68 : Int), (y2_68 = tb (al z) (rr z s) 0 x8_43.toNat) → Zj κ δ ad rs Q 12 (121, 0, 0) 68 [some (.ref (ad 48)), some (iv z), some (iv s), some (iv nn), some (jv y0_23), none, some (jv y0_38), none, some (iv x8_43), none, none, none] [jv y2_68, iv x8_43, .ref (ad 112)] m43 := by
              intro y2_68 h68
              try simp only [f43_0, and_true, true_and, or_true, true_or, implies_true, upn, reduceIte, Nat.reduceEqDiff, ne_eq, not_false_eq_true, upc] at h68
              have g68 := tb_in (a := al z) (r := rr z s) (by omega) (by omega) (by omega) 0 x8_43.toNat
              refine Z_last hk hA dX9_tables_68 ar_112.1 ar_112.2.1 ar_112.2.2 (by omega) (by omega) (by omega) (by omega) ?_
              refine Z_nm (fun m68 em68 => ?_)
              refine Z_iinc8 hk rfl (by decide) dX9_tables_69 ?_
              refine Z_goto hk (tgt := 43) dX9_tables_72 (by decide) ?_
              exact ih43 _ _ (by exact ⟨(by (exact ⟨by omega, fun j hj => by simp only [em68, f43_0, and_true, true_and, or_true, true_or, implies_true, upn, reduceIte, Nat.reduceEqDiff, ne_eq, not_false_eq_true, upc, upc]; split; (rename_i e; rw [h68, e]); exact h43.2 j (by omega)⟩)), (by intro c k0; simp only [em68, f43_0, upc, upn, k0, reduceIte, Nat.reduceEqDiff, ne_eq, not_false_eq_true])⟩) (by (try simp only [em68, f43_0, and_true, true_and, or_true, true_or, implies_true, upn, reduceIte, Nat.reduceEqDiff, ne_eq, not_false_eq_true, upc]) <;> (omega))
            refine Z_if_ne hk (tgt := 67) dX9_tables_58 (by decide) (by omega) (by omega) (fun h58 => ?_) (fun h58 => ?_)
            · refine Z_lconst0 hk dX9_tables_67 ?_
              exact J68 _ (by show (0 : Int) = if x8_43.toNat = 0 then 1073741824 else 0; rw [if_neg (by omega)])
            · refine Z_ldc2_w hk (n := 1073741824) (mem_g (by decide +kernel)) dX9_tables_61 ?_
              refine Z_goto hk (tgt := 68) dX9_tables_64 (by decide) ?_
              exact J68 _ (by show (1073741824 : Int) = if x8_43.toNat = 0 then 1073741824 else 0; rw [if_pos (by omega)])
      refine Z_istore8 hk rfl (by decide) dX9_tables_41 ?_
      exact J43 (((32 - 0) : Int).toNat + 1) _ _ (by exact ⟨(by (exact ⟨by omega, fun j hj => by omega⟩)), (by intro c k0; rfl)⟩) (by omega)
    refine Z_if_eq hk (tgt := 35) dX9_tables_26 (by decide) (by omega) (by omega) (fun h26 => ?_) (fun h26 => ?_)
    · refine Z_ldc2_w hk (n := 2000) (mem_g (by decide +kernel)) dX9_tables_35 ?_
      exact J38 _ (by unfold al; rw [if_neg (by omega)])
    · refine Z_ldc2_w hk (n := 3000) (mem_g (by decide +kernel)) dX9_tables_29 ?_
      refine Z_goto hk (tgt := 38) dX9_tables_32 (by decide) ?_
      exact J38 _ (by unfold al; rw [if_pos (by omega)])
  refine Z_if_eq hk (tgt := 17) dX9_tables_1 (by decide) (by omega) (by omega) (fun h1 => ?_) (fun h1 => ?_)
  · refine Z_ldc2_w hk (n := 1000) (mem_g (by decide +kernel)) dX9_tables_17 ?_
    refine Z_iload2 hk dX9_tables_20 ?_
    refine Z_i2l hk dX9_tables_21 (by omega) (by omega) ?_
    refine Z_ladd hk dX9_tables_22 ?_
    exact J23 _ (by unfold rr; rw [if_neg (by omega)])
  · refine Z_ldc2_w hk (n := 1000) (mem_g (by decide +kernel)) dX9_tables_4 ?_
    refine Z_ldc2_w hk (n := 2) (mem_g (by decide +kernel)) dX9_tables_7 ?_
    refine Z_iload2 hk dX9_tables_10 ?_
    refine Z_i2l hk dX9_tables_11 (by omega) (by omega) ?_
    refine Z_lmul hk dX9_tables_12 ?_
    refine Z_ladd hk dX9_tables_13 ?_
    refine Z_goto hk (tgt := 23) dX9_tables_14 (by decide) ?_
    exact J23 _ (by unfold rr; rw [if_pos (by omega)])
set_option maxRecDepth 10000 in
theorem c_X9_table_f (l : Launch) (δ : Dp) (ad : Nat → Nat) (M : Mem) (hA : okA δ ad) (z : Int) (s : Int) (j : Int) (nn : Int) (qz : z = 0 ∨ z = 1) (i_s : -2147483648 ≤ s ∧ s ≤ 2147483647) (i_j : -2147483648 ≤ j ∧ j ≤ 2147483647) (i_nn : -2147483648 ≤ nn ∧ nn ≤ 2147483647) : Mj l δ yX9_table cX9_table 5 (some (.long)) 1 31 ad rs [.ref (ad 48), iv z, iv s, iv j, iv nn] M (fun r M' => (r = if 0 ≤ s ∧ s ≤ 1000 ∧ 0 ≤ nn ∧ nn ≤ 30 ∧ 0 ≤ j ∧ j ≤ nn then tb (al z) (rr z s) nn.toNat j.toNat else -1) ∧ (∀ c : Nat, c ≠ 112 → M' c = M c)) := by
  refine Mg.of (rm := rmN 1 31) (by decide) (Nat.le_of_ble_eq_true rfl) fun κ _ hk _ => ?_
  generalize hQ : Qg κ δ 121 (rmN 1 31).cells (rmN 1 31).slots _ = Q
  show Zj κ δ ad rs Q 5 (121, 0, 0) 0 [some (.ref (ad 48)), some (iv z), some (iv s), some (iv j), some (iv nn)] [] M
  refine Z_iload2 hk dX9_table_0 ?_
  refine Z_i2l hk dX9_table_1 (by omega) (by omega) ?_
  refine Z_lconst0 hk dX9_table_2 ?_
  refine Z_ldc2_w hk (n := 1000) (mem_g (by decide +kernel)) dX9_table_3 ?_
  refine Z_Si hk (c_X9_isIn κ.2.1 δ ad _ hA s 0 (1000) (by (omega)) (by (omega)) (by (omega))) os_X9_isIn ml_X9_285 dX9_table_6 rfl ⟨by decide, by decide⟩ rfl (Nat.le_of_ble_eq_true rfl) (fun r6 m6 p6 => ?_)
  obtain ⟨rfl, p6⟩ := p6
  refine Z_if_eq hk (tgt := 37) dX9_table_9 (by decide) (by omega) (by omega) (fun h9 => ?_) (fun h9 => ?_)
  · refine Z_ldc2_w hk (n := -1) (mem_g (by decide +kernel)) dX9_table_37 ?_
    exact Z_lret hk hA hQ dX9_table_40 ⟨rfl, rfl, _, rfl, (by exact ⟨(by (first | (rw [if_pos (by omega), e54]; exact p46 _ (by omega)) | (rw [if_neg (by omega)]))), (by intro c k0; rfl)⟩)⟩
  · refine Z_iload4 hk dX9_table_12 ?_
    refine Z_i2l hk dX9_table_14 (by omega) (by omega) ?_
    refine Z_lconst0 hk dX9_table_15 ?_
    refine Z_ldc2_w hk (n := 30) (mem_g (by decide +kernel)) dX9_table_16 ?_
    refine Z_Si hk (c_X9_isIn κ.2.1 δ ad _ hA nn 0 (30) (by (omega)) (by (omega)) (by (omega))) os_X9_isIn ml_X9_285 dX9_table_19 rfl ⟨by decide, by decide⟩ rfl (Nat.le_of_ble_eq_true rfl) (fun r19 m19 p19 => ?_)
    obtain ⟨rfl, p19⟩ := p19
    refine Z_if_eq hk (tgt := 37) dX9_table_22 (by decide) (by omega) (by omega) (fun h22 => ?_) (fun h22 => ?_)
    · refine Z_ldc2_w hk (n := -1) (mem_g (by decide +kernel)) dX9_table_37 ?_
      exact Z_lret hk hA hQ dX9_table_40 ⟨rfl, rfl, _, rfl, (by exact ⟨(by (first | (rw [if_pos (by omega), e54]; exact p46 _ (by omega)) | (rw [if_neg (by omega)]))), (by intro c k0; rfl)⟩)⟩
    · refine Z_iload3 hk dX9_table_25 ?_
      refine Z_i2l hk dX9_table_26 (by omega) (by omega) ?_
      refine Z_lconst0 hk dX9_table_27 ?_
      refine Z_iload4 hk dX9_table_28 ?_
      refine Z_i2l hk dX9_table_30 (by omega) (by omega) ?_
      refine Z_Si hk (c_X9_isIn κ.2.1 δ ad _ hA j 0 nn (by (omega)) (by (omega)) (by (omega))) os_X9_isIn ml_X9_285 dX9_table_31 rfl ⟨by decide, by decide⟩ rfl (Nat.le_of_ble_eq_true rfl) (fun r31 m31 p31 => ?_)
      obtain ⟨rfl, p31⟩ := p31
      refine Z_if_ne hk (tgt := 41) dX9_table_34 (by decide) (by omega) (by omega) (fun h34 => ?_) (fun h34 => ?_)
      · refine Z_aload0 hk dX9_table_41 ?_
        refine Z_iload1 hk dX9_table_42 ?_
        refine Z_iload2 hk dX9_table_43 ?_
        refine Z_iload4 hk dX9_table_44 ?_
        refine Z_Vv hk (c_X9_tables_f κ.2.1 δ ad _ hA z s nn (by (omega)) (by (omega))) ov_X9_tables ml_X9_560 dX9_table_46 rfl ⟨by decide, by decide⟩ ob_48.1 (by decide) (by decide) rfl (Nat.le_of_ble_eq_true rfl) (fun m46 p46 => ?_)
        obtain ⟨p46, f46_0⟩ := p46
        try simp only [f46_0, and_true, true_and, or_true, true_or, implies_true, upn, reduceIte, Nat.reduceEqDiff, ne_eq, not_false_eq_true, upc] at p46
        refine Z_aload0 hk dX9_table_49 ?_
        refine Z_getR hk fl_9_215 dX9_table_50 ob_48.1 ob_48.2.1 ob_48.2.2.1 ob_48.2.2.2 ft_9_100 rs_48_100 ?_
        refine Z_iload3 hk dX9_table_53 ?_
        refine Z_lald hk dX9_table_54 ar_112.1 ar_112.2.1 ar_112.2.2 (by omega) (by omega) (fun v54 e54 a54 b54 => ?_)
        try simp only [f46_0, and_true, true_and, or_true, true_or, implies_true, upn, reduceIte, Nat.reduceEqDiff, ne_eq, not_false_eq_true, upc] at e54
        exact Z_lret hk hA hQ dX9_table_55 ⟨rfl, rfl, _, rfl, (by exact ⟨(by (try simp only [f46_0, and_true, true_and, or_true, true_or, implies_true, upn, reduceIte, Nat.reduceEqDiff, ne_eq, not_false_eq_true, upc]) <;> (first | (rw [if_pos (by omega), e54]; exact p46 _ (by omega)) | (rw [if_neg (by omega)]))), (by intro c k0; simp only [f46_0, upc, upn, k0, reduceIte, Nat.reduceEqDiff, ne_eq, not_false_eq_true])⟩)⟩
      · refine Z_ldc2_w hk (n := -1) (mem_g (by decide +kernel)) dX9_table_37 ?_
        exact Z_lret hk hA hQ dX9_table_40 ⟨rfl, rfl, _, rfl, (by exact ⟨(by (first | (rw [if_pos (by omega), e54]; exact p46 _ (by omega)) | (rw [if_neg (by omega)]))), (by intro c k0; rfl)⟩)⟩
set_option maxHeartbeats 1000000 in
set_option maxRecDepth 10000 in
theorem c_X0_fillRow_f (l : Launch) (δ : Dp) (ad : Nat → Nat) (M : Mem) (hA : okA δ ad) (z : Int) (s : Int) (nn : Int) (q0 : 0 ≤ s ∧ s ≤ 1000 ∧ 0 ≤ nn ∧ nn ≤ 30) (q1 : z = 0 ∨ z = 1) : Mv l δ yX0_fillRow cX0_fillRow 10 none 1 24 ad rs [.ref (ad 8), iv z, iv s, iv nn] M (fun M' => (∀ j : Nat, j < 31 → M' 9 j = tb (al z) (rr z s) nn.toNat j) ∧ (∀ c : Nat, c ≠ 9 → M' c = M c)) := by
  refine Mg.of (rm := rmN 1 24) (by decide) (Nat.le_of_ble_eq_true rfl) fun κ _ hk _ => ?_
  generalize hQ : Qg κ δ 121 (rmN 1 24).cells (rmN 1 24).slots _ = Q
  show Zj κ δ ad rs Q 10 (121, 0, 0) 0 [some (.ref (ad 8)), some (iv z), some (iv s), some (iv nn), none, none, none, none, none, none] [] M
  have al0 := al_in (z := z) (s := s) (by omega)
  refine Z_iload1 hk dX0_fillRow_0 ?_
  have J13 : ∀ (y0_13 : Int), (y0_13 = al z) → Zj κ δ ad rs Q 10 (121, 0, 0) 13 [some (.ref (ad 8)), some (iv z), some (iv s), some (iv nn), none, none, none, none, none, none] [jv y0_13] M := by
    intro y0_13 h13
    refine Z_lstore4 hk rfl (by decide) dX0_fillRow_13 ?_
    refine Z_iload1 hk dX0_fillRow_15 ?_
    have J36 : ∀ (y0_36 : Int), (y0_36 = rr z s) → Zj κ δ ad rs Q 10 (121, 0, 0) 36 [some (.ref (ad 8)), some (iv z), some (iv s), some (iv nn), some (jv y0_13), none, none, none, none, none] [jv y0_36] M := by
      intro y0_36 h36
      refine Z_lstore6 hk rfl (by decide) dX0_fillRow_36 ?_
      refine Z_aload0 hk dX0_fillRow_38 ?_
      refine Z_getR hk fl_0_11 dX0_fillRow_39 ob_8.1 ob_8.2.1 ob_8.2.2.1 ob_8.2.2.2 ft_0_0 rs_8_0 ?_
      refine Z_lconst0 hk dX0_fillRow_42 ?_
      refine Z_Sv hk (c_J7_fill_d0a16 κ.2.1 δ ad _ hA 9 31 ar_9 0 (by (omega))) os_J7_fill_d0a16 ml_X0_39 dX0_fillRow_43 rfl ⟨by decide, by decide⟩ rfl (Nat.le_of_ble_eq_true rfl) (fun m43 p43 => ?_)
      obtain ⟨p43, f43_0⟩ := p43
      try simp only [f43_0, and_true, true_and, or_true, true_or, implies_true, upn, reduceIte, Nat.reduceEqDiff, ne_eq, not_false_eq_true, upc] at p43
      refine Z_aload0 hk dX0_fillRow_46 ?_
      refine Z_getR hk fl_0_11 dX0_fillRow_47 ob_8.1 ob_8.2.1 ob_8.2.2.1 ob_8.2.2.2 ft_0_0 rs_8_0 ?_
      refine Z_iconst hk dX0_fillRow_50 ?_
      refine Z_ldc2_w hk (n := 1073741824) (mem_g (by decide +kernel)) dX0_fillRow_51 ?_
      refine Z_last hk hA dX0_fillRow_54 ar_9.1 ar_9.2.1 ar_9.2.2 (by omega) (by omega) (by omega) (by omega) ?_
      refine Z_nm (fun m54 em54 => ?_)
      refine Z_iconst hk dX0_fillRow_55 ?_
      have J58 : ∀ (n : Nat) (x8_58 : Int) (m58 : Mem), (((1 ≤ x8_58 ∧ x8_58 ≤ nn + 1) ∧ ∀ j : Nat, j < 31 → m58 9 j = tb (al z) (rr z s) (x8_58 - 1).toNat j) ∧ (∀ c : Nat, c ≠ 9 → m58 c = m54 c)) → (nn + 1 - x8_58) < (n : Int) → Zj κ δ ad rs Q 10 (121, 0, 0) 58 [some (.ref (ad 8)), some (iv z), some (iv s), some (iv nn), some (jv y0_13), none, some (jv y0_36), none, some (iv x8_58), none] [] m58 := by
        intro n
        induction n with
        | zero => intro x8_58 m58 h58 hm58; exfalso; obtain ⟨h58, -⟩ := h58; obtain ⟨h58, -⟩ := h58; omega
        | succ n ih58 =>
          intro x8_58 m58 h58 hm58
          obtain ⟨h58, f58_0⟩ := h58
          try simp only [f58_0, em54, f43_0, and_true, true_and, or_true, true_or, implies_true, upn, reduceIte, Nat.reduceEqDiff, ne_eq, not_false_eq_true, upc] at h58 hm58
          refine Z_iload8 hk dX0_fillRow_58 ?_
          refine Z_iload3 hk dX0_fillRow_60 ?_
          refine Z_icmp_gt hk (tgt := 156) dX0_fillRow_61 (by decide) (by omega) (by omega) (by omega) (by omega) (fun h61 => ?_) (fun h61 => ?_)
          · exact Z_vret hk hA hQ dX0_fillRow_156 ⟨rfl, rfl, rfl, (by exact ⟨(by (try simp only [f58_0, em54, f43_0, and_true, true_and, or_true, true_or, implies_true, upn, reduceIte, Nat.reduceEqDiff, ne_eq, not_false_eq_true, upc]) <;> (intro j hj; rw [h58.2 j hj]; congr 1; omega)), (by intro c k0; simp only [f58_0, em54, f43_0, upc, upn, k0, reduceIte, Nat.reduceEqDiff, ne_eq, not_false_eq_true])⟩)⟩
          · refine Z_iload8 hk dX0_fillRow_64 ?_
            refine Z_aload0 hk dX0_fillRow_66 ?_
            refine Z_getR hk fl_0_11 dX0_fillRow_67 ob_8.1 ob_8.2.1 ob_8.2.2.1 ob_8.2.2.2 ft_0_0 rs_8_0 ?_
            refine Z_alen hk (i := 0) dX0_fillRow_70 ar_9.1 (by decide) ar_9.2.1 ?_
            refine Z_icmp_ge hk (tgt := 156) dX0_fillRow_71 (by decide) (by omega) (by omega) (by decide) (by decide) (fun h71 => ?_) (fun h71 => ?_)
            · exact Z_vret hk hA hQ dX0_fillRow_156 ⟨rfl, rfl, rfl, (by exact ⟨(by (try simp only [f58_0, em54, f43_0, and_true, true_and, or_true, true_or, implies_true, upn, reduceIte, Nat.reduceEqDiff, ne_eq, not_false_eq_true, upc]) <;> (intro j hj; rw [h58.2 j hj]; congr 1; omega)), (by intro c k0; simp only [f58_0, em54, f43_0, upc, upn, k0, reduceIte, Nat.reduceEqDiff, ne_eq, not_false_eq_true])⟩)⟩
            · refine Z_iload8 hk dX0_fillRow_74 ?_
              have J78 : ∀ (n : Nat) (x9_78 : Int) (m78 : Mem), (((0 ≤ x9_78 ∧ x9_78 ≤ x8_58) ∧ (∀ j : Nat, (j : Int) ≤ x9_78 → m78 9 j = tb (al z) (rr z s) (x8_58 - 1).toNat j) ∧ ∀ j : Nat, x9_78 < (j : Int) → j < 31 → m78 9 j = tb (al z) (rr z s) x8_58.toNat j) ∧ (∀ c : Nat, c ≠ 9 → m78 c = m58 c)) → (x9_78) < (n : Int) → Zj κ δ ad rs Q 10 (121, 0, 0) 78 [some (.ref (ad 8)), some (iv z), some (iv s), some (iv nn), some (jv y0_13), none, some (jv y0_36), none, some (iv x8_58), some (iv x9_78)] [] m78 := by
                intro n
                induction n with
                | zero => intro x9_78 m78 h78 hm78; exfalso; obtain ⟨h78, -⟩ := h78; obtain ⟨h78, -⟩ := h78; omega
                | succ n ih78 =>
                  intro x9_78 m78 h78 hm78
                  obtain ⟨h78, f78_0⟩ := h78
                  try simp only [f78_0, f58_0, em54, f43_0, and_true, true_and, or_true, true_or, implies_true, upn, reduceIte, Nat.reduceEqDiff, ne_eq, not_false_eq_true, upc] at h78 hm78
                  refine Z_iload9 hk dX0_fillRow_78 ?_
                  refine Z_iconst hk dX0_fillRow_80 ?_
                  refine Z_icmp_lt hk (tgt := 129) dX0_fillRow_81 (by decide) (by omega) (by omega) (by decide) (by decide) (fun h81 => ?_) (fun h81 => ?_)
                  · refine Z_aload0 hk dX0_fillRow_129 ?_
                    refine Z_getR hk fl_0_11 dX0_fillRow_130 ob_8.1 ob_8.2.1 ob_8.2.2.1 ob_8.2.2.2 ft_0_0 rs_8_0 ?_
                    refine Z_iconst hk dX0_fillRow_133 ?_
                    refine Z_aload0 hk dX0_fillRow_134 ?_
                    refine Z_getR hk fl_0_11 dX0_fillRow_135 ob_8.1 ob_8.2.1 ob_8.2.2.1 ob_8.2.2.2 ft_0_0 rs_8_0 ?_
                    refine Z_iconst hk dX0_fillRow_138 ?_
                    refine Z_lald hk dX0_fillRow_139 ar_9.1 ar_9.2.1 ar_9.2.2 (by omega) (by omega) (fun v139 e139 a139 b139 => ?_)
                    try simp only [f78_0, f58_0, em54, f43_0, and_true, true_and, or_true, true_or, implies_true, upn, reduceIte, Nat.reduceEqDiff, ne_eq, not_false_eq_true, upc] at e139
                    have t139 : v139 = tb (al z) (rr z s) (x8_58 - 1).toNat 0 := by rw [e139]; exact h78.2.1 _ (by omega)
                    have g139 := tb_rng (a := al z) (r := rr z s) (by omega) (by omega) (by omega) (by omega) t139
                    rw [← h36, ← h13] at g139
                    have s139 := tb_s0 (a := al z) (r := rr z s) (by omega) (by omega) (by omega) (by omega) t139
                    have g140 := tb_in (a := al z) (r := rr z s) (by omega) (by omega) (by omega) ((x8_58 - 1).toNat + 1) 0
                    rw [← s139, ← h36, ← h13] at g140
                    refine Z_lload4 hk dX0_fillRow_140 ?_
                    refine Z_lload6 hk dX0_fillRow_142 ?_
                    refine Z_lsub hk dX0_fillRow_144 ?_
                    refine Z_lmul hk dX0_fillRow_145 ?_
                    refine Z_lload4 hk dX0_fillRow_146 ?_
                    refine Z_ldiv hk dX0_fillRow_148 (by omega) (by omega) (by omega) (by omega) (by omega) ?_
                    refine Z_last hk hA dX0_fillRow_149 ar_9.1 ar_9.2.1 ar_9.2.2 (by omega) (by omega) (by omega) (by omega) ?_
                    refine Z_nm (fun m149 em149 => ?_)
                    refine Z_iinc8 hk rfl (by decide) dX0_fillRow_150 ?_
                    refine Z_goto hk (tgt := 58) dX0_fillRow_153 (by decide) ?_
                    refine Z_drop9 ?_
                    exact ih58 _ _ (by exact ⟨(by (exact ⟨by omega, fun j hj => by simp only [em149, f78_0, f58_0, em54, f43_0, e139, and_true, true_and, or_true, true_or, implies_true, upn, reduceIte, Nat.reduceEqDiff, ne_eq, not_false_eq_true, upc, upc]; split; (rename_i e; rw [e, show (x8_58 + 1 - 1).toNat = (x8_58 - 1).toNat + 1 from by omega, h13, h36]; have q := s139; rw [e139] at q; exact q); (rw [h78.2.2 j (by omega) hj]; congr 1; omega)⟩)), (by intro c k0; simp only [em149, f78_0, f58_0, em54, f43_0, upc, upn, k0, reduceIte, Nat.reduceEqDiff, ne_eq, not_false_eq_true])⟩) (by (try simp only [em149, f78_0, f58_0, em54, f43_0, and_true, true_and, or_true, true_or, implies_true, upn, reduceIte, Nat.reduceEqDiff, ne_eq, not_false_eq_true, upc]) <;> (omega))
                  · refine Z_aload0 hk dX0_fillRow_84 ?_
                    refine Z_getR hk fl_0_11 dX0_fillRow_85 ob_8.1 ob_8.2.1 ob_8.2.2.1 ob_8.2.2.2 ft_0_0 rs_8_0 ?_
                    refine Z_iload9 hk dX0_fillRow_88 ?_
                    refine Z_aload0 hk dX0_fillRow_90 ?_
                    refine Z_getR hk fl_0_11 dX0_fillRow_91 ob_8.1 ob_8.2.1 ob_8.2.2.1 ob_8.2.2.2 ft_0_0 rs_8_0 ?_
                    refine Z_iload9 hk dX0_fillRow_94 ?_
                    refine Z_lald hk dX0_fillRow_96 ar_9.1 ar_9.2.1 ar_9.2.2 (by omega) (by omega) (fun v96 e96 a96 b96 => ?_)
                    try simp only [f78_0, f58_0, em54, f43_0, and_true, true_and, or_true, true_or, implies_true, upn, reduceIte, Nat.reduceEqDiff, ne_eq, not_false_eq_true, upc] at e96
                    have t96 : v96 = tb (al z) (rr z s) (x8_58 - 1).toNat x9_78.toNat := by rw [e96]; exact h78.2.1 _ (by omega)
                    have g96 := tb_rng (a := al z) (r := rr z s) (by omega) (by omega) (by omega) (by omega) t96
                    rw [← h36, ← h13] at g96
                    refine Z_lload4 hk dX0_fillRow_97 ?_
                    refine Z_lload6 hk dX0_fillRow_99 ?_
                    refine Z_lsub hk dX0_fillRow_101 ?_
                    refine Z_lmul hk dX0_fillRow_102 ?_
                    refine Z_lload4 hk dX0_fillRow_103 ?_
                    refine Z_ldiv hk dX0_fillRow_105 (by omega) (by omega) (by omega) (by omega) (by omega) ?_
                    refine Z_aload0 hk dX0_fillRow_106 ?_
                    refine Z_getR hk fl_0_11 dX0_fillRow_107 ob_8.1 ob_8.2.1 ob_8.2.2.1 ob_8.2.2.2 ft_0_0 rs_8_0 ?_
                    refine Z_iload9 hk dX0_fillRow_110 ?_
                    refine Z_iconst hk dX0_fillRow_112 ?_
                    refine Z_isub hk dX0_fillRow_113 ?_
                    refine Z_lald hk dX0_fillRow_114 ar_9.1 ar_9.2.1 ar_9.2.2 (by omega) (by omega) (fun v114 e114 a114 b114 => ?_)
                    try simp only [f78_0, f58_0, em54, f43_0, e96, and_true, true_and, or_true, true_or, implies_true, upn, reduceIte, Nat.reduceEqDiff, ne_eq, not_false_eq_true, upc] at e114
                    have t114 : v114 = tb (al z) (rr z s) (x8_58 - 1).toNat (x9_78.toNat - 1) := by rw [e114, show (x9_78 - 1).toNat = x9_78.toNat - 1 from by omega]; exact h78.2.1 _ (by omega)
                    have g114 := tb_rng (a := al z) (r := rr z s) (by omega) (by omega) (by omega) (by omega) t114
                    rw [← h36, ← h13] at g114
                    have s114 := tb_sS (a := al z) (r := rr z s) (by omega) (by omega) (by omega) (by omega) (by omega) t96 t114
                    have g115 := tb_in (a := al z) (r := rr z s) (by omega) (by omega) (by omega) ((x8_58 - 1).toNat + 1) x9_78.toNat
                    rw [← s114, ← h36, ← h13] at g115
                    refine Z_lload6 hk dX0_fillRow_115 ?_
                    refine Z_lmul hk dX0_fillRow_117 ?_
                    refine Z_lload4 hk dX0_fillRow_118 ?_
                    refine Z_ldiv hk dX0_fillRow_120 (by omega) (by omega) (by omega) (by omega) (by omega) ?_
                    refine Z_ladd hk dX0_fillRow_121 ?_
                    refine Z_last hk hA dX0_fillRow_122 ar_9.1 ar_9.2.1 ar_9.2.2 (by omega) (by omega) (by omega) (by omega) ?_
                    refine Z_nm (fun m122 em122 => ?_)
                    refine Z_iinc9 hk rfl (by decide) dX0_fillRow_123 ?_
                    refine Z_goto hk (tgt := 78) dX0_fillRow_126 (by decide) ?_
                    exact ih78 _ _ (by exact ⟨(by (exact ⟨by omega, (fun j hj => by simp only [em122, f78_0, f58_0, em54, f43_0, e96, e114, and_true, true_and, or_true, true_or, implies_true, upn, reduceIte, Nat.reduceEqDiff, ne_eq, not_false_eq_true, upc, upc]; rw [if_neg (by omega)]; exact h78.2.1 j (by omega)), fun j h1 h2 => by simp only [em122, f78_0, f58_0, em54, f43_0, e96, e114, and_true, true_and, or_true, true_or, implies_true, upn, reduceIte, Nat.reduceEqDiff, ne_eq, not_false_eq_true, upc, upc]; split; (rename_i e; rw [e, show x8_58.toNat = (x8_58 - 1).toNat + 1 from by omega, h13, h36]; have q := s114; rw [e96, e114] at q; exact q); exact h78.2.2 j (by omega) h2⟩)), (by intro c k0; simp only [em122, f78_0, f58_0, em54, f43_0, upc, upn, k0, reduceIte, Nat.reduceEqDiff, ne_eq, not_false_eq_true])⟩) (by (try simp only [em122, f78_0, f58_0, em54, f43_0, and_true, true_and, or_true, true_or, implies_true, upn, reduceIte, Nat.reduceEqDiff, ne_eq, not_false_eq_true, upc]) <;> (omega))
              refine Z_istore9 hk rfl (by decide) dX0_fillRow_76 ?_
              exact J78 (((x8_58) : Int).toNat + 1) _ _ (by exact ⟨(by (exact ⟨by omega, (fun j hj => h58.2 j (by omega)), fun j h1 h2 => by rw [h58.2 j h2, tb_zero _ _ (by omega), tb_zero _ _ (by omega)]⟩)), (by intro c k0; simp only [f58_0, em54, f43_0, upc, upn, k0, reduceIte, Nat.reduceEqDiff, ne_eq, not_false_eq_true])⟩) (by omega)
      refine Z_istore8 hk rfl (by decide) dX0_fillRow_56 ?_
      exact J58 (((nn + 1 - 1) : Int).toNat + 1) _ _ (by exact ⟨(by (exact ⟨by omega, fun j hj => by have y := p43 j (by omega); simp only [em54, f43_0, and_true, true_and, or_true, true_or, implies_true, upn, reduceIte, Nat.reduceEqDiff, ne_eq, not_false_eq_true, upc, upc] at y ⊢; show _ = if j = 0 then (1073741824 : Int) else 0; split; (rename_i e; rw [if_pos (show j = 0 from e)]); (rename_i e; rw [if_neg (show ¬ j = 0 from e)]; exact y)⟩)), (by intro c k0; simp only [em54, f43_0, upc, upn, k0, reduceIte, Nat.reduceEqDiff, ne_eq, not_false_eq_true])⟩) (by omega)
    refine Z_if_eq hk (tgt := 30) dX0_fillRow_16 (by decide) (by omega) (by omega) (fun h16 => ?_) (fun h16 => ?_)
    · refine Z_sipush hk dX0_fillRow_30 (by decide) ?_
      refine Z_iload2 hk dX0_fillRow_33 ?_
      refine Z_iadd hk dX0_fillRow_34 ?_
      refine Z_i2l hk dX0_fillRow_35 (by omega) (by omega) ?_
      exact J36 _ (by unfold rr; rw [if_neg (by omega)])
    · refine Z_sipush hk dX0_fillRow_19 (by decide) ?_
      refine Z_iconst hk dX0_fillRow_22 ?_
      refine Z_iload2 hk dX0_fillRow_23 ?_
      refine Z_imul hk dX0_fillRow_24 ?_
      refine Z_iadd hk dX0_fillRow_25 ?_
      refine Z_i2l hk dX0_fillRow_26 (by omega) (by omega) ?_
      refine Z_goto hk (tgt := 36) dX0_fillRow_27 (by decide) ?_
      exact J36 _ (by unfold rr; rw [if_pos (by omega)])
  refine Z_if_eq hk (tgt := 10) dX0_fillRow_1 (by decide) (by omega) (by omega) (fun h1 => ?_) (fun h1 => ?_)
  · refine Z_ldc2_w hk (n := 2000) (mem_g (by decide +kernel)) dX0_fillRow_10 ?_
    exact J13 _ (by unfold al; rw [if_neg (by omega)])
  · refine Z_ldc2_w hk (n := 3000) (mem_g (by decide +kernel)) dX0_fillRow_4 ?_
    refine Z_goto hk (tgt := 13) dX0_fillRow_7 (by decide) ?_
    exact J13 _ (by unfold al; rw [if_pos (by omega)])
set_option maxRecDepth 10000 in
theorem c_X0_sum_f (l : Launch) (δ : Dp) (ad : Nat → Nat) (M : Mem) (hA : okA δ ad) (z : Int) (s : Int) (nn : Int) (a : Int) (b : Int) (q0 : 0 ≤ s ∧ s ≤ 1000 ∧ 0 ≤ nn ∧ nn ≤ 30) (q1 : z = 0 ∨ z = 1) (q2 : 0 ≤ a ∧ a ≤ 30 ∧ b = a) : Mj l δ yX0_sum cX0_sum 9 (some (.long)) 2 53 ad rs [.ref (ad 8), iv z, iv s, iv nn, iv a, iv b] M (fun r M' => (r = tb (al z) (rr z s) nn.toNat a.toNat) ∧ (∀ c : Nat, c ≠ 9 → M' c = M c)) := by
  refine Mg.of (rm := rmN 2 53) (by decide) (Nat.le_of_ble_eq_true rfl) fun κ _ hk _ => ?_
  generalize hQ : Qg κ δ 121 (rmN 2 53).cells (rmN 2 53).slots _ = Q
  show Zj κ δ ad rs Q 9 (121, 0, 0) 0 [some (.ref (ad 8)), some (iv z), some (iv s), some (iv nn), some (iv a), some (iv b), none, none, none] [] M
  refine Z_aload0 hk dX0_sum_0 ?_
  refine Z_iload1 hk dX0_sum_1 ?_
  refine Z_iload2 hk dX0_sum_2 ?_
  refine Z_iload3 hk dX0_sum_3 ?_
  refine Z_Vv hk (c_X0_fillRow_f κ.2.1 δ ad _ hA z s nn (by (omega)) (by (omega))) ov_X0_fillRow ml_X0_47 dX0_sum_4 rfl ⟨by decide, by decide⟩ ob_8.1 (by decide) (by decide) rfl (Nat.le_of_ble_eq_true rfl) (fun m4 p4 => ?_)
  obtain ⟨p4, f4_0⟩ := p4
  try simp only [f4_0, and_true, true_and, or_true, true_or, implies_true, upn, reduceIte, Nat.reduceEqDiff, ne_eq, not_false_eq_true, upc] at p4
  refine Z_lconst0 hk dX0_sum_7 ?_
  refine Z_lstore6 hk rfl (by decide) dX0_sum_8 ?_
  refine Z_iconst hk dX0_sum_10 ?_
  refine Z_iload4 hk dX0_sum_11 ?_
  refine Z_Si hk (c_J9_max_7cf53 κ.2.1 δ ad _ hA 0 a (by (try simp only [f4_0, and_true, true_and, or_true, true_or, implies_true, upn, reduceIte, Nat.reduceEqDiff, ne_eq, not_false_eq_true, upc]) <;> (omega)) (by (try simp only [f4_0, and_true, true_and, or_true, true_or, implies_true, upn, reduceIte, Nat.reduceEqDiff, ne_eq, not_false_eq_true, upc]) <;> (omega))) os_J9_max_7cf53 ml_X0_51 dX0_sum_13 rfl ⟨by decide, by decide⟩ rfl (Nat.le_of_ble_eq_true rfl) (fun r13 m13 p13 => ?_)
  obtain ⟨rfl, p13⟩ := p13
  try simp only [f4_0, and_true, true_and, or_true, true_or, implies_true, upn, reduceIte, Nat.reduceEqDiff, ne_eq, not_false_eq_true, upc] at p13
  have J18 : ∀ (n : Nat) (x6_18 : Int) (x8_18 : Int), ((a ≤ x8_18 ∧ x8_18 ≤ a + 1) ∧ (x8_18 = a → x6_18 = 0) ∧ (x8_18 = a + 1 → x6_18 = tb (al z) (rr z s) nn.toNat a.toNat)) → (a + 1 - x8_18) < (n : Int) → Zj κ δ ad rs Q 9 (121, 0, 0) 18 [some (.ref (ad 8)), some (iv z), some (iv s), some (iv nn), some (iv a), some (iv b), some (jv x6_18), none, some (iv x8_18)] [] m4 := by
    intro n
    induction n with
    | zero => intro x6_18 x8_18 h18 hm18; exfalso; (try simp only [f4_0, and_true, true_and, or_true, true_or, implies_true, upn, reduceIte, Nat.reduceEqDiff, ne_eq, not_false_eq_true, upc] at h18 hm18); obtain ⟨h18, -⟩ := h18; omega
    | succ n ih18 =>
      intro x6_18 x8_18 h18 hm18
      try simp only [f4_0, and_true, true_and, or_true, true_or, implies_true, upn, reduceIte, Nat.reduceEqDiff, ne_eq, not_false_eq_true, upc] at h18 hm18
      have tin := tb_in (a := al z) (r := rr z s) (by have := al_in (z := z) (s := s) (by omega); omega) (by have := al_in (z := z) (s := s) (by omega); omega) (by have := al_in (z := z) (s := s) (by omega); omega) nn.toNat a.toNat
      refine Z_iload8 hk dX0_sum_18 ?_
      refine Z_iload5 hk dX0_sum_20 ?_
      refine Z_icmp_gt hk (tgt := 53) dX0_sum_22 (by decide) (by omega) (by omega) (by omega) (by omega) (fun h22 => ?_) (fun h22 => ?_)
      · refine Z_lload6 hk dX0_sum_53 ?_
        exact Z_lret hk hA hQ dX0_sum_55 ⟨rfl, rfl, _, rfl, (by exact ⟨(by (try simp only [f4_0, and_true, true_and, or_true, true_or, implies_true, upn, reduceIte, Nat.reduceEqDiff, ne_eq, not_false_eq_true, upc]) <;> (first | (rw [h18.2.2 (by omega)]) | (exfalso; omega))), (by intro c k0; simp only [f4_0, upc, upn, k0, reduceIte, Nat.reduceEqDiff, ne_eq, not_false_eq_true])⟩)⟩
      · refine Z_iload8 hk dX0_sum_25 ?_
        refine Z_aload0 hk dX0_sum_27 ?_
        refine Z_getR hk fl_0_11 dX0_sum_28 ob_8.1 ob_8.2.1 ob_8.2.2.1 ob_8.2.2.2 ft_0_0 rs_8_0 ?_
        refine Z_alen hk (i := 0) dX0_sum_31 ar_9.1 (by decide) ar_9.2.1 ?_
        refine Z_icmp_ge hk (tgt := 53) dX0_sum_32 (by decide) (by omega) (by omega) (by decide) (by decide) (fun h32 => ?_) (fun h32 => ?_)
        · refine Z_lload6 hk dX0_sum_53 ?_
          exact Z_lret hk hA hQ dX0_sum_55 ⟨rfl, rfl, _, rfl, (by exact ⟨(by (try simp only [f4_0, and_true, true_and, or_true, true_or, implies_true, upn, reduceIte, Nat.reduceEqDiff, ne_eq, not_false_eq_true, upc]) <;> (first | (rw [h18.2.2 (by omega)]) | (exfalso; omega))), (by intro c k0; simp only [f4_0, upc, upn, k0, reduceIte, Nat.reduceEqDiff, ne_eq, not_false_eq_true])⟩)⟩
        · refine Z_lload6 hk dX0_sum_35 ?_
          refine Z_aload0 hk dX0_sum_37 ?_
          refine Z_getR hk fl_0_11 dX0_sum_38 ob_8.1 ob_8.2.1 ob_8.2.2.1 ob_8.2.2.2 ft_0_0 rs_8_0 ?_
          refine Z_iload8 hk dX0_sum_41 ?_
          refine Z_lald hk dX0_sum_43 ar_9.1 ar_9.2.1 ar_9.2.2 (by omega) (by omega) (fun v43 e43 a43 b43 => ?_)
          try simp only [f4_0, and_true, true_and, or_true, true_or, implies_true, upn, reduceIte, Nat.reduceEqDiff, ne_eq, not_false_eq_true, upc] at e43
          refine Z_ladd hk dX0_sum_44 ?_
          refine Z_lstore6 hk rfl (by decide) dX0_sum_45 ?_
          refine Z_iinc8 hk rfl (by decide) dX0_sum_47 ?_
          refine Z_goto hk (tgt := 18) dX0_sum_50 (by decide) ?_
          exact ih18 _ _ (by refine ⟨by omega, (fun h => by omega), fun h => ?_⟩; rw [h18.2.1 (by omega), e43, p4 _ (by omega), Int.zero_add]; congr 1; omega) (by (try simp only [f4_0, and_true, true_and, or_true, true_or, implies_true, upn, reduceIte, Nat.reduceEqDiff, ne_eq, not_false_eq_true, upc]) <;> (omega))
  refine Z_istore8 hk rfl (by decide) dX0_sum_16 ?_
  exact J18 (((a + 1 - r13) : Int).toNat + 1) _ _ (by exact ⟨by omega, (fun _ => rfl), fun h => by omega⟩) (by omega)
set_option maxRecDepth 10000 in
theorem c_X8_table_f (l : Launch) (δ : Dp) (ad : Nat → Nat) (M : Mem) (hA : okA δ ad) (z : Int) (s : Int) (j : Int) (nn : Int) (qz : z = 0 ∨ z = 1) (i_s : -2147483648 ≤ s ∧ s ≤ 2147483647) (i_j : -2147483648 ≤ j ∧ j ≤ 2147483647) (i_nn : -2147483648 ≤ nn ∧ nn ≤ 2147483647) : Mj l δ yX8_table cX8_table 5 (some (.long)) 3 81 ad rs [.ref (ad 0), iv z, iv s, iv j, iv nn] M (fun r M' => (r = if 0 ≤ s ∧ s ≤ 1000 ∧ 0 ≤ nn ∧ nn ≤ 30 ∧ 0 ≤ j ∧ j ≤ nn then tb (al z) (rr z s) nn.toNat j.toNat else -1) ∧ (∀ c : Nat, c ≠ 9 → M' c = M c)) := by
  refine Mg.of (rm := rmN 3 81) (by decide) (Nat.le_of_ble_eq_true rfl) fun κ _ hk _ => ?_
  generalize hQ : Qg κ δ 121 (rmN 3 81).cells (rmN 3 81).slots _ = Q
  show Zj κ δ ad rs Q 5 (121, 0, 0) 0 [some (.ref (ad 0)), some (iv z), some (iv s), some (iv j), some (iv nn)] [] M
  refine Z_iload2 hk dX8_table_0 ?_
  refine Z_Si hk (c_X8_isInThousand κ.2.1 δ ad _ hA s (by (omega))) os_X8_isInThousand ml_X8_191 dX8_table_1 rfl ⟨by decide, by decide⟩ rfl (Nat.le_of_ble_eq_true rfl) (fun r1 m1 p1 => ?_)
  obtain ⟨rfl, p1⟩ := p1
  refine Z_if_eq hk (tgt := 16) dX8_table_4 (by decide) (by omega) (by omega) (fun h4 => ?_) (fun h4 => ?_)
  · refine Z_ldc2_w hk (n := -1) (mem_g (by decide +kernel)) dX8_table_16 ?_
    exact Z_lret hk hA hQ dX8_table_19 ⟨rfl, rfl, _, rfl, (by exact ⟨(by (first | (rw [if_pos (by omega), p30]) | (rw [if_neg (by omega)]))), (by intro c k0; rfl)⟩)⟩
  · refine Z_iload3 hk dX8_table_7 ?_
    refine Z_iload4 hk dX8_table_8 ?_
    refine Z_Si hk (c_X8_isPartOf κ.2.1 δ ad _ hA j nn (by (omega)) (by (omega))) os_X8_isPartOf ml_X8_187 dX8_table_10 rfl ⟨by decide, by decide⟩ rfl (Nat.le_of_ble_eq_true rfl) (fun r10 m10 p10 => ?_)
    obtain ⟨rfl, p10⟩ := p10
    refine Z_if_ne hk (tgt := 20) dX8_table_13 (by decide) (by omega) (by omega) (fun h13 => ?_) (fun h13 => ?_)
    · refine Z_aload0 hk dX8_table_20 ?_
      refine Z_getR hk fl_8_29 dX8_table_21 ob_0.1 ob_0.2.1 ob_0.2.2.1 ob_0.2.2.2 ft_8_2 rs_0_2 ?_
      refine Z_iload1 hk dX8_table_24 ?_
      refine Z_iload2 hk dX8_table_25 ?_
      refine Z_iload4 hk dX8_table_26 ?_
      refine Z_iload3 hk dX8_table_28 ?_
      refine Z_iload3 hk dX8_table_29 ?_
      refine Z_Vj hk (c_X0_sum_f κ.2.1 δ ad _ hA z s nn j j (by (omega)) (by (omega)) (by (omega))) ov_X0_sum ml_X8_194 dX8_table_30 rfl ⟨by decide, by decide⟩ ob_8.1 (by decide) (by decide) rfl (Nat.le_of_ble_eq_true rfl) (fun r30 m30 p30 => ?_)
      obtain ⟨p30, f30_0⟩ := p30
      try simp only [f30_0, and_true, true_and, or_true, true_or, implies_true, upn, reduceIte, Nat.reduceEqDiff, ne_eq, not_false_eq_true, upc] at p30
      exact Z_lret hk hA hQ dX8_table_33 ⟨rfl, rfl, _, rfl, (by exact ⟨(by (try simp only [f30_0, and_true, true_and, or_true, true_or, implies_true, upn, reduceIte, Nat.reduceEqDiff, ne_eq, not_false_eq_true, upc]) <;> (first | (rw [if_pos (by omega), p30]) | (rw [if_neg (by omega)]))), (by intro c k0; simp only [f30_0, upc, upn, k0, reduceIte, Nat.reduceEqDiff, ne_eq, not_false_eq_true])⟩)⟩
    · refine Z_ldc2_w hk (n := -1) (mem_g (by decide +kernel)) dX8_table_16 ?_
      exact Z_lret hk hA hQ dX8_table_19 ⟨rfl, rfl, _, rfl, (by exact ⟨(by (first | (rw [if_pos (by omega), p30]) | (rw [if_neg (by omega)]))), (by intro c k0; rfl)⟩)⟩
