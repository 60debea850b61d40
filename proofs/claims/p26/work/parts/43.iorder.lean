theorem cS_in (f : Nat → Int) (a p : Nat) : ∀ n : Nat, 0 ≤ cS f a p n ∧ cS f a p n ≤ n := by
  intro n
  induction n with
  | zero => exact ⟨Int.le_refl 0, Int.le_refl 0⟩
  | succ n ih =>
    show 0 ≤ cS f a p n + (if f (5 * n + p) = a then 1 else 0) ∧ cS f a p n + (if f (5 * n + p) = a then 1 else 0) ≤ ((n + 1 : Nat) : Int)
    push_cast
    split <;> omega
theorem cA1_in (f : Nat → Int) (i a b : Nat) : ∀ p : Nat, 0 ≤ cA1 f i a b p ∧ cA1 f i a b p ≤ p := by
  intro p
  induction p with
  | zero => exact ⟨Int.le_refl 0, Int.le_refl 0⟩
  | succ p ih =>
    show 0 ≤ cA1 f i a b p + (if 1 ≤ p ∧ f (5 * i + p - 1) = a ∧ f (5 * i + p) = b then 1 else 0) ∧ cA1 f i a b p + (if 1 ≤ p ∧ f (5 * i + p - 1) = a ∧ f (5 * i + p) = b then 1 else 0) ≤ ((p + 1 : Nat) : Int)
    push_cast
    split <;> omega
theorem cA_in (f : Nat → Int) {t : Nat} (ht : t ≤ 5) (a b : Nat) : ∀ n : Nat, 0 ≤ cA f t a b n ∧ cA f t a b n ≤ 5 * n := by
  intro n
  induction n with
  | zero => exact ⟨Int.le_refl 0, Int.le_refl 0⟩
  | succ n ih =>
    have := cA1_in f n a b t
    show 0 ≤ cA f t a b n + cA1 f n a b t ∧ cA f t a b n + cA1 f n a b t ≤ 5 * ((n + 1 : Nat) : Int)
    push_cast
    omega
set_option maxRecDepth 10000 in
theorem c_X9_square_f (l : Launch) (δ : Dp) (ad : Nat → Nat) (M : Mem) (hA : okA δ ad) (v : Int) : Mi l δ yX9_square cX9_square 1 (some (.int)) 0 0 ad rs [iv v] M (fun r M' => M = M' ∧ (r = sq v)) := by
  refine Mg.of (rm := rmN 0 0) (by decide) (Nat.le_of_ble_eq_true rfl) fun κ _ hk _ => ?_
  generalize hQ : Qg κ δ 121 (rmN 0 0).cells (rmN 0 0).slots _ = Q
  show Zj κ δ ad rs Q 1 (121, 0, 0) 0 [some (iv v)] [] M
  refine Z_iload0 hk dX9_square_0 ?_
  refine Z_iload0 hk dX9_square_1 ?_
  refine Z_imul hk dX9_square_2 ?_
  exact Z_iret hk hA hQ dX9_square_3 ⟨rfl, rfl, _, rfl, (by exact ⟨rfl, (by rfl)⟩)⟩
set_option maxHeartbeats 2000000 in
set_option maxRecDepth 10000 in
theorem c_X9_uneven_f (l : Launch) (δ : Dp) (ad : Nat → Nat) (M : Mem) (hA : okA δ ad) (t : Int) (nn : Int) (q0 : 0 ≤ t ∧ t ≤ 5 ∧ 0 ≤ nn ∧ nn ≤ 30) (q1 : TH (M 118)) : Mi l δ yX9_uneven cX9_uneven 6 (some (.int)) 1 20 ad rs [.ref (ad 48), iv t, iv nn] M (fun r M' => (r = U1 (M' 119) (M' 120) t nn t.toNat t.toNat) ∧ (∀ c : Nat, c ≠ 119 → c ≠ 120 → M' c = M c) ∧ (∀ a b : Nat, a < 5 → (b : Int) < t → M' 119 (5 * a + b) = cS (M 118) a b nn.toNat) ∧ (∀ a b : Nat, a < 5 → b < 5 → M' 120 (5 * a + b) = cA (M 118) t.toNat a b nn.toNat)) := by
  refine Mg.of (rm := rmN 1 20) (by decide) (Nat.le_of_ble_eq_true rfl) fun κ _ hk _ => ?_
  generalize hQ : Qg κ δ 121 (rmN 1 20).cells (rmN 1 20).slots _ = Q
  show Zj κ δ ad rs Q 6 (121, 0, 0) 0 [some (.ref (ad 48)), some (iv t), some (iv nn), none, none, none] [] M
  refine Z_iconst hk dX9_uneven_0 ?_
  have J2 : ∀ (n : Nat) (x3_2 : Int) (m2 : Mem), (((0 ≤ x3_2 ∧ x3_2 ≤ 25) ∧ ∀ j : Nat, (j : Int) < x3_2 → m2 119 j = 0 ∧ m2 120 j = 0) ∧ (∀ c : Nat, c ≠ 119 → c ≠ 120 → m2 c = M c)) → (25 - x3_2) < (n : Int) → Zj κ δ ad rs Q 6 (121, 0, 0) 2 [some (.ref (ad 48)), some (iv t), some (iv nn), some (iv x3_2), none, none] [] m2 := by
    intro n
    induction n with
    | zero => intro x3_2 m2 h2 hm2; exfalso; obtain ⟨h2, -⟩ := h2; obtain ⟨h2, -⟩ := h2; omega
    | succ n ih2 =>
      intro x3_2 m2 h2 hm2
      obtain ⟨h2, f2_0⟩ := h2
      try simp only [f2_0, and_true, true_and, or_true, true_or, implies_true, upn, reduceIte, Nat.reduceEqDiff, ne_eq, not_false_eq_true, upc] at h2 hm2
      refine Z_iload3 hk dX9_uneven_2 ?_
      refine Z_bipush hk dX9_uneven_3 (by decide) ?_
      refine Z_icmp_ge hk (tgt := 28) dX9_uneven_5 (by decide) (by omega) (by omega) (by decide) (by decide) (fun h5 => ?_) (fun h5 => ?_)
      · refine Z_iconst hk dX9_uneven_28 ?_
        have J30 : ∀ (n : Nat) (x3_30 : Int) (m30 : Mem), (((0 ≤ x3_30 ∧ x3_30 ≤ nn) ∧ (∀ a b : Nat, a < 5 → (b : Int) < t → m30 119 (5 * a + b) = cS (M 118) a b (x3_30 : Int).toNat) ∧ ∀ a b : Nat, a < 5 → b < 5 → m30 120 (5 * a + b) = cA (M 118) t.toNat a b (x3_30 : Int).toNat) ∧ (∀ c : Nat, c ≠ 119 → c ≠ 120 → m30 c = m2 c)) → (nn - x3_30) < (n : Int) → Zj κ δ ad rs Q 6 (121, 0, 0) 30 [some (.ref (ad 48)), some (iv t), some (iv nn), some (iv x3_30), none, none] [] m30 := by
          intro n
          induction n with
          | zero => intro x3_30 m30 h30 hm30; exfalso; obtain ⟨h30, -⟩ := h30; obtain ⟨h30, -⟩ := h30; omega
          | succ n ih30 =>
            intro x3_30 m30 h30 hm30
            obtain ⟨h30, f30_0⟩ := h30
            try simp only [f30_0, f2_0, and_true, true_and, or_true, true_or, implies_true, upn, reduceIte, Nat.reduceEqDiff, ne_eq, not_false_eq_true, upc] at h30 hm30
            refine Z_iload3 hk dX9_uneven_30 ?_
            refine Z_iload2 hk dX9_uneven_31 ?_
            refine Z_icmp_ge hk (tgt := 122) dX9_uneven_32 (by decide) (by omega) (by omega) (by omega) (by omega) (fun h32 => ?_) (fun h32 => ?_)
            · refine Z_iconst hk dX9_uneven_122 ?_
              refine Z_istore3 hk rfl (by decide) dX9_uneven_123 ?_
              refine Z_iconst hk dX9_uneven_124 ?_
              have J127 : ∀ (n : Nat) (x3_127 : Int) (x4_127 : Int), ((0 ≤ x4_127 ∧ x4_127 ≤ t) ∧ x3_127 = U1 (m30 119) (m30 120) t nn t.toNat (x4_127 : Int).toNat) → (t - x4_127) < (n : Int) → Zj κ δ ad rs Q 6 (121, 0, 0) 127 [some (.ref (ad 48)), some (iv t), some (iv nn), some (iv x3_127), some (iv x4_127), none] [] m30 := by
                intro n
                induction n with
                | zero => intro x3_127 x4_127 h127 hm127; exfalso; (try simp only [f30_0, f2_0, and_true, true_and, or_true, true_or, implies_true, upn, reduceIte, Nat.reduceEqDiff, ne_eq, not_false_eq_true, upc] at h127 hm127); obtain ⟨h127, -⟩ := h127; omega
                | succ n ih127 =>
                  intro x3_127 x4_127 h127 hm127
                  try simp only [f30_0, f2_0, and_true, true_and, or_true, true_or, implies_true, upn, reduceIte, Nat.reduceEqDiff, ne_eq, not_false_eq_true, upc] at h127 hm127
                  refine Z_iload4 hk dX9_uneven_127 ?_
                  refine Z_iload1 hk dX9_uneven_129 ?_
                  refine Z_icmp_ge hk (tgt := 205) dX9_uneven_130 (by decide) (by omega) (by omega) (by omega) (by omega) (fun h130 => ?_) (fun h130 => ?_)
                  · refine Z_iload3 hk dX9_uneven_205 ?_
                    exact Z_iret hk hA hQ dX9_uneven_206 ⟨rfl, rfl, _, rfl, (by exact ⟨(by (try simp only [f30_0, f2_0, and_true, true_and, or_true, true_or, implies_true, upn, reduceIte, Nat.reduceEqDiff, ne_eq, not_false_eq_true, upc]) <;> (rw [h127.2, show x4_127.toNat = t.toNat from by omega])), (by intro c k0 k1; simp only [f30_0, f2_0, upc, upn, k0, k1, reduceIte, Nat.reduceEqDiff, ne_eq, not_false_eq_true]), (by intro a b ha hb; rw [h30.2.1 a b ha hb]; congr 1; omega), (by intro a b ha hb; rw [h30.2.2 a b ha hb]; congr 1; omega)⟩)⟩
                  · refine Z_iconst hk dX9_uneven_133 ?_
                    have J136 : ∀ (n : Nat) (x3_136 : Int) (x5_136 : Int), ((0 ≤ x5_136 ∧ x5_136 ≤ t) ∧ x3_136 = U1 (m30 119) (m30 120) t nn t.toNat x4_127.toNat + U2 (m30 119) (m30 120) t nn x4_127.toNat (x5_136 : Int).toNat) → (t - x5_136) < (n : Int) → Zj κ δ ad rs Q 6 (121, 0, 0) 136 [some (.ref (ad 48)), some (iv t), some (iv nn), some (iv x3_136), some (iv x4_127), some (iv x5_136)] [] m30 := by
                      intro n
                      induction n with
                      | zero => intro x3_136 x5_136 h136 hm136; exfalso; (try simp only [f30_0, f2_0, and_true, true_and, or_true, true_or, implies_true, upn, reduceIte, Nat.reduceEqDiff, ne_eq, not_false_eq_true, upc] at h136 hm136); obtain ⟨h136, -⟩ := h136; omega
                      | succ n ih136 =>
                        intro x3_136 x5_136 h136 hm136
                        try simp only [f30_0, f2_0, and_true, true_and, or_true, true_or, implies_true, upn, reduceIte, Nat.reduceEqDiff, ne_eq, not_false_eq_true, upc] at h136 hm136
                        refine Z_iload5 hk dX9_uneven_136 ?_
                        refine Z_iload1 hk dX9_uneven_138 ?_
                        refine Z_icmp_ge hk (tgt := 199) dX9_uneven_139 (by decide) (by omega) (by omega) (by omega) (by omega) (fun h139 => ?_) (fun h139 => ?_)
                        · refine Z_iinc4 hk rfl (by decide) dX9_uneven_199 ?_
                          refine Z_goto hk (tgt := 127) dX9_uneven_202 (by decide) ?_
                          refine Z_drop5 ?_
                          exact ih127 _ _ (by refine ⟨by omega, ?_⟩; rw [h136.2, show (x4_127 + 1).toNat = x4_127.toNat + 1 from by omega]; show _ = U1 (m30 119) (m30 120) t nn t.toNat x4_127.toNat + U2 (m30 119) (m30 120) t nn x4_127.toNat t.toNat; rw [show x5_136.toNat = t.toNat from by omega]) (by (try simp only [f30_0, f2_0, and_true, true_and, or_true, true_or, implies_true, upn, reduceIte, Nat.reduceEqDiff, ne_eq, not_false_eq_true, upc]) <;> (omega))
                        · refine Z_iload3 hk dX9_uneven_142 ?_
                          refine Z_aload0 hk dX9_uneven_143 ?_
                          refine Z_getR hk fl_9_236 dX9_uneven_144 ob_48.1 ob_48.2.1 ob_48.2.2.1 ob_48.2.2.2 ft_9_111 rs_48_111 ?_
                          refine Z_iconst hk dX9_uneven_147 ?_
                          refine Z_iload4 hk dX9_uneven_148 ?_
                          refine Z_imul hk dX9_uneven_150 ?_
                          refine Z_iload5 hk dX9_uneven_151 ?_
                          refine Z_iadd hk dX9_uneven_153 ?_
                          refine Z_iald hk dX9_uneven_154 ar_119.1 ar_119.2.1 ar_119.2.2 (by omega) (by omega) (fun v154 e154 a154 b154 => ?_)
                          try simp only [f30_0, f2_0, and_true, true_and, or_true, true_or, implies_true, upn, reduceIte, Nat.reduceEqDiff, ne_eq, not_false_eq_true, upc] at e154
                          refine Z_iload1 hk dX9_uneven_155 ?_
                          refine Z_imul hk dX9_uneven_156 ?_
                          refine Z_iload2 hk dX9_uneven_157 ?_
                          refine Z_isub hk dX9_uneven_158 ?_
                          refine Z_Si hk (c_X9_square_f κ.2.1 δ ad _ hA ((v154 * t) - nn) ) os_X9_square ml_X9_634 dX9_uneven_159 rfl ⟨by decide, by decide⟩ rfl (Nat.le_of_ble_eq_true rfl) (fun r159 m159 p159 => ?_)
                          obtain ⟨rfl, p159⟩ := p159
                          try simp only [f30_0, f2_0, e154, and_true, true_and, or_true, true_or, implies_true, upn, reduceIte, Nat.reduceEqDiff, ne_eq, not_false_eq_true, upc] at p159
                          refine Z_iadd hk dX9_uneven_162 ?_
                          refine Z_istore3 hk rfl (by decide) dX9_uneven_163 ?_
                          refine Z_iload4 hk dX9_uneven_164 ?_
                          refine Z_iload5 hk dX9_uneven_166 ?_
                          have J193 : ∀ (x3_193 : Int), (x3_193 = U1 (m30 119) (m30 120) t nn t.toNat x4_127.toNat + (U2 (m30 119) (m30 120) t nn x4_127.toNat x5_136.toNat + sq (m30 119 (5 * x4_127.toNat + x5_136.toNat) * t - nn) + (if x4_127.toNat = x5_136.toNat then 0 else sq (m30 120 (5 * x4_127.toNat + x5_136.toNat) * t - nn)))) → Zj κ δ ad rs Q 6 (121, 0, 0) 193 [some (.ref (ad 48)), some (iv t), some (iv nn), some (iv x3_193), some (iv x4_127), some (iv x5_136)] [] m30 := by
                            intro x3_193 h193
                            try simp only [f30_0, f2_0, and_true, true_and, or_true, true_or, implies_true, upn, reduceIte, Nat.reduceEqDiff, ne_eq, not_false_eq_true, upc] at h193
                            refine Z_iinc5 hk rfl (by decide) dX9_uneven_193 ?_
                            refine Z_goto hk (tgt := 136) dX9_uneven_196 (by decide) ?_
                            exact ih136 _ _ (by refine ⟨by omega, ?_⟩; rw [h193, show (x5_136 + 1).toNat = x5_136.toNat + 1 from by omega]; rfl) (by (try simp only [f30_0, f2_0, and_true, true_and, or_true, true_or, implies_true, upn, reduceIte, Nat.reduceEqDiff, ne_eq, not_false_eq_true, upc]) <;> (omega))
                          refine Z_icmp_eq hk (tgt := 193) dX9_uneven_168 (by decide) (by omega) (by omega) (by omega) (by omega) (fun h168 => ?_) (fun h168 => ?_)
                          · exact J193 _ (by rw [if_pos (by omega), h136.2, p159, show (5 * x4_127 + x5_136).toNat = 5 * x4_127.toNat + x5_136.toNat from by omega]; omega)
                          · refine Z_iload3 hk dX9_uneven_171 ?_
                            refine Z_aload0 hk dX9_uneven_172 ?_
                            refine Z_getR hk fl_9_239 dX9_uneven_173 ob_48.1 ob_48.2.1 ob_48.2.2.1 ob_48.2.2.2 ft_9_112 rs_48_112 ?_
                            refine Z_iconst hk dX9_uneven_176 ?_
                            refine Z_iload4 hk dX9_uneven_177 ?_
                            refine Z_imul hk dX9_uneven_179 ?_
                            refine Z_iload5 hk dX9_uneven_180 ?_
                            refine Z_iadd hk dX9_uneven_182 ?_
                            refine Z_iald hk dX9_uneven_183 ar_120.1 ar_120.2.1 ar_120.2.2 (by omega) (by omega) (fun v183 e183 a183 b183 => ?_)
                            try simp only [f30_0, f2_0, e154, and_true, true_and, or_true, true_or, implies_true, upn, reduceIte, Nat.reduceEqDiff, ne_eq, not_false_eq_true, upc] at e183
                            refine Z_iload1 hk dX9_uneven_184 ?_
                            refine Z_imul hk dX9_uneven_185 ?_
                            refine Z_iload2 hk dX9_uneven_186 ?_
                            refine Z_isub hk dX9_uneven_187 ?_
                            refine Z_Si hk (c_X9_square_f κ.2.1 δ ad _ hA ((v183 * t) - nn) ) os_X9_square ml_X9_634 dX9_uneven_188 rfl ⟨by decide, by decide⟩ rfl (Nat.le_of_ble_eq_true rfl) (fun r188 m188 p188 => ?_)
                            obtain ⟨rfl, p188⟩ := p188
                            try simp only [f30_0, f2_0, e154, e183, and_true, true_and, or_true, true_or, implies_true, upn, reduceIte, Nat.reduceEqDiff, ne_eq, not_false_eq_true, upc] at p188
                            refine Z_iadd hk dX9_uneven_191 ?_
                            refine Z_istore3 hk rfl (by decide) dX9_uneven_192 ?_
                            exact J193 _ (by rw [if_neg (by omega), h136.2, p159, p188, show (5 * x4_127 + x5_136).toNat = 5 * x4_127.toNat + x5_136.toNat from by omega]; omega)
                    refine Z_istore5 hk rfl (by decide) dX9_uneven_134 ?_
                    exact J136 (((t - 0) : Int).toNat + 1) _ _ (by exact ⟨by omega, by rw [h127.2]; show _ = _ + 0; omega⟩) (by omega)
              refine Z_istore4 hk rfl (by decide) dX9_uneven_125 ?_
              exact J127 (((t - 0) : Int).toNat + 1) _ _ (by exact ⟨by omega, rfl⟩) (by omega)
            · refine Z_iconst hk dX9_uneven_35 ?_
              have J38 : ∀ (n : Nat) (x4_38 : Int) (m38 : Mem), (((0 ≤ x4_38 ∧ x4_38 ≤ t) ∧ (∀ a b : Nat, a < 5 → (b : Int) < t → m38 119 (5 * a + b) = cS (M 118) a b x3_30.toNat + (if (b : Int) < x4_38 ∧ M 118 (5 * x3_30.toNat + b) = a then 1 else 0 : Int)) ∧ ∀ a b : Nat, a < 5 → b < 5 → m38 120 (5 * a + b) = cA (M 118) t.toNat a b x3_30.toNat + cA1 (M 118) x3_30.toNat a b ((x4_38 : Int)).toNat) ∧ (∀ c : Nat, c ≠ 119 → c ≠ 120 → m38 c = m30 c)) → (t - x4_38) < (n : Int) → Zj κ δ ad rs Q 6 (121, 0, 0) 38 [some (.ref (ad 48)), some (iv t), some (iv nn), some (iv x3_30), some (iv x4_38), none] [] m38 := by
                intro n
                induction n with
                | zero => intro x4_38 m38 h38 hm38; exfalso; obtain ⟨h38, -⟩ := h38; obtain ⟨h38, -⟩ := h38; omega
                | succ n ih38 =>
                  intro x4_38 m38 h38 hm38
                  obtain ⟨h38, f38_0⟩ := h38
                  try simp only [f38_0, f30_0, f2_0, and_true, true_and, or_true, true_or, implies_true, upn, reduceIte, Nat.reduceEqDiff, ne_eq, not_false_eq_true, upc] at h38 hm38
                  refine Z_iload4 hk dX9_uneven_38 ?_
                  refine Z_iload1 hk dX9_uneven_40 ?_
                  refine Z_icmp_ge hk (tgt := 116) dX9_uneven_41 (by decide) (by omega) (by omega) (by omega) (by omega) (fun h41 => ?_) (fun h41 => ?_)
                  · refine Z_iinc3 hk rfl (by decide) dX9_uneven_116 ?_
                    refine Z_goto hk (tgt := 30) dX9_uneven_119 (by decide) ?_
                    refine Z_drop4 ?_
                    exact ih30 _ _ (by exact ⟨(by (refine ⟨by omega, (fun a b ha hb => ?_), fun a b ha hb => ?_⟩; (rw [h38.2.1 a b ha hb, show (x3_30 + 1).toNat = x3_30.toNat + 1 from by omega]; show _ = cS (M 118) a b x3_30.toNat + (if M 118 (5 * x3_30.toNat + b) = a then 1 else 0); congr 1; by_cases c : M 118 (5 * x3_30.toNat + b) = a; (rw [if_pos ⟨by omega, c⟩, if_pos c]); (rw [if_neg (fun z => c z.2), if_neg c])); (rw [h38.2.2 a b ha hb, show (x3_30 + 1).toNat = x3_30.toNat + 1 from by omega]; show _ = cA (M 118) t.toNat a b x3_30.toNat + cA1 (M 118) x3_30.toNat a b t.toNat; rw [show x4_38.toNat = t.toNat from by omega]))), (by intro c k0 k1; simp only [f38_0, f30_0, f2_0, upc, upn, k0, k1, reduceIte, Nat.reduceEqDiff, ne_eq, not_false_eq_true])⟩) (by (try simp only [f38_0, f30_0, f2_0, and_true, true_and, or_true, true_or, implies_true, upn, reduceIte, Nat.reduceEqDiff, ne_eq, not_false_eq_true, upc]) <;> (omega))
                  · refine Z_aload0 hk dX9_uneven_44 ?_
                    refine Z_getR hk fl_9_236 dX9_uneven_45 ob_48.1 ob_48.2.1 ob_48.2.2.1 ob_48.2.2.2 ft_9_111 rs_48_111 ?_
                    refine Z_iconst hk dX9_uneven_48 ?_
                    refine Z_aload0 hk dX9_uneven_49 ?_
                    refine Z_getR hk fl_9_233 dX9_uneven_50 ob_48.1 ob_48.2.1 ob_48.2.2.1 ob_48.2.2.2 ft_9_110 rs_48_110 ?_
                    refine Z_iconst hk dX9_uneven_53 ?_
                    refine Z_iload3 hk dX9_uneven_54 ?_
                    refine Z_imul hk dX9_uneven_55 ?_
                    refine Z_iload4 hk dX9_uneven_56 ?_
                    refine Z_iadd hk dX9_uneven_58 ?_
                    refine Z_iald hk dX9_uneven_59 ar_118.1 ar_118.2.1 ar_118.2.2 (by omega) (by omega) (fun v59 e59 a59 b59 => ?_)
                    try simp only [f38_0, f30_0, f2_0, and_true, true_and, or_true, true_or, implies_true, upn, reduceIte, Nat.reduceEqDiff, ne_eq, not_false_eq_true, upc] at e59
                    have g59 := q1 (5 * x3_30 + x4_38).toNat (by omega)
                    rw [← e59] at g59
                    refine Z_imul hk dX9_uneven_60 ?_
                    refine Z_iload4 hk dX9_uneven_61 ?_
                    refine Z_iadd hk dX9_uneven_63 ?_
                    refine Z_dup2 hk rfl rfl dX9_uneven_64 ?_
                    refine Z_iald hk dX9_uneven_65 ar_119.1 ar_119.2.1 ar_119.2.2 (by omega) (by omega) (fun v65 e65 a65 b65 => ?_)
                    try simp only [f38_0, f30_0, f2_0, e59, and_true, true_and, or_true, true_or, implies_true, upn, reduceIte, Nat.reduceEqDiff, ne_eq, not_false_eq_true, upc] at e65
                    refine Z_iconst hk dX9_uneven_66 ?_
                    refine Z_iadd hk dX9_uneven_67 ?_
                    refine Z_wI (fun w67 a67w b67w g67w => ?_)
                    have y65 := h38.2.1 v59.toNat x4_38.toNat (by omega) (by omega)
                    have b65 : 0 ≤ v65 ∧ v65 ≤ 31 := by
                      rw [e65, ← e59, show (5 * v59 + x4_38).toNat = 5 * v59.toNat + x4_38.toNat from by omega, y65]
                      have := cS_in (M 118) v59.toNat x4_38.toNat x3_30.toNat
                      split <;> omega
                    have w67e := g67w (by omega) (by omega)
                    refine Z_iast hk hA dX9_uneven_68 ar_119.1 ar_119.2.1 ar_119.2.2 (by omega) (by omega) (by omega) (by omega) ?_
                    refine Z_nm (fun m68 em68 => ?_)
                    refine Z_iload4 hk dX9_uneven_69 ?_
                    have J110 : ∀ (m110 : Mem), ((∀ a b : Nat, a < 5 → b < 5 → m110 120 (5 * a + b) = cA (M 118) t.toNat a b x3_30.toNat + cA1 (M 118) x3_30.toNat a b ((x4_38 + 1 : Int)).toNat) ∧ (∀ c : Nat, c ≠ 120 → m110 c = m68 c)) → Zj κ δ ad rs Q 6 (121, 0, 0) 110 [some (.ref (ad 48)), some (iv t), some (iv nn), some (iv x3_30), some (iv x4_38), none] [] m110 := by
                      intro m110 h110
                      obtain ⟨h110, f110_0⟩ := h110
                      try simp only [f110_0, em68, f38_0, f30_0, f2_0, and_true, true_and, or_true, true_or, implies_true, upn, reduceIte, Nat.reduceEqDiff, ne_eq, not_false_eq_true, upc] at h110
                      refine Z_iinc4 hk rfl (by decide) dX9_uneven_110 ?_
                      refine Z_goto hk (tgt := 38) dX9_uneven_113 (by decide) ?_
                      exact ih38 _ _ (by exact ⟨(by (refine ⟨by omega, (fun a b ha hb => ?_), h110⟩; have y := h38.2.1 a b ha hb; simp only [f110_0, em68, f38_0, f30_0, f2_0, e59, e65, and_true, true_and, or_true, true_or, implies_true, upn, reduceIte, Nat.reduceEqDiff, ne_eq, not_false_eq_true, upc, upc]; simp only [f110_0, em68, f38_0, f30_0, f2_0, e59, e65, and_true, true_and, or_true, true_or, implies_true, upn, reduceIte, Nat.reduceEqDiff, ne_eq, not_false_eq_true, upc, upc] at g59; by_cases c : 5 * a + b = (5 * M 118 (5 * x3_30 + x4_38).toNat + x4_38).toNat; (rw [if_pos c]; have cb : (b : Int) = x4_38 := (by omega); have ca : M 118 (5 * x3_30.toNat + b) = a := (by rw [show 5 * x3_30.toNat + b = (5 * x3_30 + x4_38).toNat from by omega]; omega); rw [w67e, e65, ← c, y, if_neg (fun z => by omega), if_pos ⟨by omega, ca⟩]; omega); (rw [if_neg c, y]; by_cases c2 : (b : Int) < x4_38; (by_cases c3 : M 118 (5 * x3_30.toNat + b) = a; (rw [if_pos ⟨c2, c3⟩, if_pos ⟨by omega, c3⟩]); (rw [if_neg (fun z => c3 z.2), if_neg (fun z => c3 z.2)])); (rw [if_neg (fun z => c2 z.1), if_neg (fun z => by have e5 : 5 * x3_30.toNat + b = (5 * x3_30 + x4_38).toNat := (by omega); rw [e5] at z; omega)])))), (by intro c k0 k1; simp only [f110_0, em68, f38_0, f30_0, f2_0, upc, upn, k0, k1, reduceIte, Nat.reduceEqDiff, ne_eq, not_false_eq_true])⟩) (by (try simp only [f110_0, em68, f38_0, f30_0, f2_0, and_true, true_and, or_true, true_or, implies_true, upn, reduceIte, Nat.reduceEqDiff, ne_eq, not_false_eq_true, upc]) <;> (omega))
                    refine Z_if_le hk (tgt := 110) dX9_uneven_71 (by decide) (by omega) (by omega) (fun h71 => ?_) (fun h71 => ?_)
                    · exact J110 _ (by exact ⟨(by (intro a b ha hb; have y := h38.2.2 a b ha hb; simp only [em68, f38_0, f30_0, f2_0, e59, e65, and_true, true_and, or_true, true_or, implies_true, upn, reduceIte, Nat.reduceEqDiff, ne_eq, not_false_eq_true, upc, upc]; rw [y, show (x4_38 + 1).toNat = x4_38.toNat + 1 from by omega]; show _ = cA (M 118) t.toNat a b x3_30.toNat + (cA1 (M 118) x3_30.toNat a b x4_38.toNat + (if 1 ≤ x4_38.toNat ∧ _ ∧ _ then 1 else 0)); rw [if_neg (fun z => by omega)]; omega)), (by intro c k0; simp only [em68, f38_0, f30_0, f2_0, upc, upn, k0, reduceIte, Nat.reduceEqDiff, ne_eq, not_false_eq_true])⟩)
                    · refine Z_aload0 hk dX9_uneven_74 ?_
                      refine Z_getR hk fl_9_239 dX9_uneven_75 ob_48.1 ob_48.2.1 ob_48.2.2.1 ob_48.2.2.2 ft_9_112 rs_48_112 ?_
                      refine Z_iconst hk dX9_uneven_78 ?_
                      refine Z_aload0 hk dX9_uneven_79 ?_
                      refine Z_getR hk fl_9_233 dX9_uneven_80 ob_48.1 ob_48.2.1 ob_48.2.2.1 ob_48.2.2.2 ft_9_110 rs_48_110 ?_
                      refine Z_iconst hk dX9_uneven_83 ?_
                      refine Z_iload3 hk dX9_uneven_84 ?_
                      refine Z_imul hk dX9_uneven_85 ?_
                      refine Z_iload4 hk dX9_uneven_86 ?_
                      refine Z_iadd hk dX9_uneven_88 ?_
                      refine Z_iconst hk dX9_uneven_89 ?_
                      refine Z_isub hk dX9_uneven_90 ?_
                      refine Z_iald hk dX9_uneven_91 ar_118.1 ar_118.2.1 ar_118.2.2 (by omega) (by omega) (fun v91 e91 a91 b91 => ?_)
                      try simp only [em68, f38_0, f30_0, f2_0, e59, e65, and_true, true_and, or_true, true_or, implies_true, upn, reduceIte, Nat.reduceEqDiff, ne_eq, not_false_eq_true, upc] at e91
                      have g91 := q1 (5 * x3_30 + x4_38 - 1).toNat (by omega)
                      rw [← e91] at g91
                      refine Z_imul hk dX9_uneven_92 ?_
                      refine Z_aload0 hk dX9_uneven_93 ?_
                      refine Z_getR hk fl_9_233 dX9_uneven_94 ob_48.1 ob_48.2.1 ob_48.2.2.1 ob_48.2.2.2 ft_9_110 rs_48_110 ?_
                      refine Z_iconst hk dX9_uneven_97 ?_
                      refine Z_iload3 hk dX9_uneven_98 ?_
                      refine Z_imul hk dX9_uneven_99 ?_
                      refine Z_iload4 hk dX9_uneven_100 ?_
                      refine Z_iadd hk dX9_uneven_102 ?_
                      refine Z_iald hk dX9_uneven_103 ar_118.1 ar_118.2.1 ar_118.2.2 (by omega) (by omega) (fun v103 e103 a103 b103 => ?_)
                      try simp only [em68, f38_0, f30_0, f2_0, e59, e65, e91, and_true, true_and, or_true, true_or, implies_true, upn, reduceIte, Nat.reduceEqDiff, ne_eq, not_false_eq_true, upc] at e103
                      have g103 := q1 (5 * x3_30 + x4_38).toNat (by omega)
                      rw [← e103] at g103
                      refine Z_iadd hk dX9_uneven_104 ?_
                      refine Z_dup2 hk rfl rfl dX9_uneven_105 ?_
                      refine Z_iald hk dX9_uneven_106 ar_120.1 ar_120.2.1 ar_120.2.2 (by omega) (by omega) (fun v106 e106 a106 b106 => ?_)
                      try simp only [em68, f38_0, f30_0, f2_0, e59, e65, e91, e103, and_true, true_and, or_true, true_or, implies_true, upn, reduceIte, Nat.reduceEqDiff, ne_eq, not_false_eq_true, upc] at e106
                      refine Z_iconst hk dX9_uneven_107 ?_
                      refine Z_iadd hk dX9_uneven_108 ?_
                      refine Z_wI (fun w108 a108w b108w g108w => ?_)
                      have y106 := h38.2.2 v91.toNat v103.toNat (by omega) (by omega)
                      have b106 : 0 ≤ v106 ∧ v106 ≤ 200 := by
                        rw [e106, ← e91, ← e103, show (5 * v91 + v103).toNat = 5 * v91.toNat + v103.toNat from by omega, y106]
                        have u1 := cA_in (M 118) (t := t.toNat) (by omega) v91.toNat v103.toNat x3_30.toNat
                        have u2 := cA1_in (M 118) x3_30.toNat v91.toNat v103.toNat x4_38.toNat
                        omega
                      have w108e := g108w (by omega) (by omega)
                      refine Z_iast hk hA dX9_uneven_109 ar_120.1 ar_120.2.1 ar_120.2.2 (by omega) (by omega) (by omega) (by omega) ?_
                      refine Z_nm (fun m109 em109 => ?_)
                      exact J110 _ (by exact ⟨(by (intro a b ha hb; have y := h38.2.2 a b ha hb; have i1 : (5 * x3_30 + x4_38 - 1).toNat = 5 * x3_30.toNat + x4_38.toNat - 1 := (by omega); have i2 : (5 * x3_30 + x4_38).toNat = 5 * x3_30.toNat + x4_38.toNat := (by omega); rw [show (x4_38 + 1).toNat = x4_38.toNat + 1 from by omega]; show _ = cA (M 118) t.toNat a b x3_30.toNat + (cA1 (M 118) x3_30.toNat a b x4_38.toNat + (if 1 ≤ x4_38.toNat ∧ M 118 (5 * x3_30.toNat + x4_38.toNat - 1) = a ∧ M 118 (5 * x3_30.toNat + x4_38.toNat) = b then 1 else 0)); simp only [em109, em68, f38_0, f30_0, f2_0, e59, e65, e91, e103, e106, and_true, true_and, or_true, true_or, implies_true, upn, reduceIte, Nat.reduceEqDiff, ne_eq, not_false_eq_true, upc, upc]; by_cases c : 5 * a + b = (5 * M 118 (5 * x3_30 + x4_38 - 1).toNat + M 118 (5 * x3_30 + x4_38).toNat).toNat; (rw [if_pos c, w108e, e106, ← c, y, if_pos ⟨by omega, by rw [← i1]; omega, by rw [← i2]; omega⟩]; omega); (rw [if_neg c, y, if_neg (fun z => c (by rw [i1, i2, z.2.1, z.2.2]; omega))]; omega))), (by intro c k0; simp only [em109, em68, f38_0, f30_0, f2_0, upc, upn, k0, reduceIte, Nat.reduceEqDiff, ne_eq, not_false_eq_true])⟩)
              refine Z_istore4 hk rfl (by decide) dX9_uneven_36 ?_
              exact J38 (((t - 0) : Int).toNat + 1) _ _ (by exact ⟨(by (exact ⟨by omega, (fun a b ha hb => by rw [h30.2.1 a b ha hb, if_neg (fun z => by omega)]; omega), fun a b ha hb => by rw [h30.2.2 a b ha hb]; show _ = _ + 0; omega⟩)), (by intro c k0 k1; simp only [f30_0, f2_0, upc, upn, k0, k1, reduceIte, Nat.reduceEqDiff, ne_eq, not_false_eq_true])⟩) (by omega)
        refine Z_istore3 hk rfl (by decide) dX9_uneven_29 ?_
        exact J30 (((nn - 0) : Int).toNat + 1) _ _ (by exact ⟨(by (exact ⟨by omega, (fun a b ha hb => by rw [(h2.2 (5 * a + b) (by omega)).1]; rfl), fun a b ha hb => by rw [(h2.2 (5 * a + b) (by omega)).2]; rfl⟩)), (by intro c k0 k1; simp only [f2_0, upc, upn, k0, k1, reduceIte, Nat.reduceEqDiff, ne_eq, not_false_eq_true])⟩) (by omega)
      · refine Z_aload0 hk dX9_uneven_8 ?_
        refine Z_getR hk fl_9_236 dX9_uneven_9 ob_48.1 ob_48.2.1 ob_48.2.2.1 ob_48.2.2.2 ft_9_111 rs_48_111 ?_
        refine Z_iload3 hk dX9_uneven_12 ?_
        refine Z_iconst hk dX9_uneven_13 ?_
        refine Z_iast hk hA dX9_uneven_14 ar_119.1 ar_119.2.1 ar_119.2.2 (by omega) (by omega) (by decide) (by decide) ?_
        refine Z_nm (fun m14 em14 => ?_)
        refine Z_aload0 hk dX9_uneven_15 ?_
        refine Z_getR hk fl_9_239 dX9_uneven_16 ob_48.1 ob_48.2.1 ob_48.2.2.1 ob_48.2.2.2 ft_9_112 rs_48_112 ?_
        refine Z_iload3 hk dX9_uneven_19 ?_
        refine Z_iconst hk dX9_uneven_20 ?_
        refine Z_iast hk hA dX9_uneven_21 ar_120.1 ar_120.2.1 ar_120.2.2 (by omega) (by omega) (by decide) (by decide) ?_
        refine Z_nm (fun m21 em21 => ?_)
        refine Z_iinc3 hk rfl (by decide) dX9_uneven_22 ?_
        refine Z_goto hk (tgt := 2) dX9_uneven_25 (by decide) ?_
        exact ih2 _ _ (by exact ⟨(by (exact ⟨by omega, fun j hj => by have y := h2.2 j; simp only [em21, em14, f2_0, and_true, true_and, or_true, true_or, implies_true, upn, reduceIte, Nat.reduceEqDiff, ne_eq, not_false_eq_true, upc, upc]; split; exact ⟨rfl, rfl⟩; exact y (by omega)⟩)), (by intro c k0 k1; simp only [em21, em14, f2_0, upc, upn, k0, k1, reduceIte, Nat.reduceEqDiff, ne_eq, not_false_eq_true])⟩) (by (try simp only [em21, em14, f2_0, and_true, true_and, or_true, true_or, implies_true, upn, reduceIte, Nat.reduceEqDiff, ne_eq, not_false_eq_true, upc]) <;> (omega))
  refine Z_istore3 hk rfl (by decide) dX9_uneven_1 ?_
  exact J2 (((25 - 0) : Int).toNat + 1) _ _ (by exact ⟨(by (exact ⟨by omega, fun j hj => by omega⟩)), (by intro c k0 k1; rfl)⟩) (by omega)
