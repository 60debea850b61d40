set_option maxRecDepth 10000 in
theorem c_X9_number (l : Launch) (δ : Dp) (ad : Nat → Nat) (M : Mem) (hA : okA δ ad) (least : Int) (most : Int) (q0 : 0 ≤ (M 48 2) ∧ (M 48 2) ≤ (M 48 3) ∧ (M 48 3) ≤ 700) (i_least : -2147483648 ≤ least ∧ least ≤ 2147483647) (i_most : -2147483648 ≤ most ∧ most ≤ 2147483647) : Mi l δ yX9_number cX9_number 5 (some (.int)) 1 25 ad rs [.ref (ad 48), iv least, iv most] M (fun r M' => ((M 48 2) ≤ (M' 48 2) ∧ (M' 48 2) ≤ (M 48 3) ∧ 0 ≤ r ∧ r ≤ 9999 ∧ ((M 48 5) ≠ 0 → (M' 48 5) = (M 48 5)) ∧ ((M' 48 5) = 0 → (M 48 5) = 0 ∧ (M 48 2) < (M' 48 2) ∧ least ≤ r ∧ r ≤ most)) ∧ (∀ c : Nat, c ≠ 48 → M' c = M c) ∧ (∀ i : Nat, i ≠ 2 → i ≠ 4 → i ≠ 5 → i ≠ 6 → M' 48 i = M 48 i)) := by
  refine Mg.of (rm := rmN 1 25) (by decide) (Nat.le_of_ble_eq_true rfl) fun κ _ hk _ => ?_
  generalize hQ : Qg κ δ 121 (rmN 1 25).cells (rmN 1 25).slots _ = Q
  show Zj κ δ ad rs Q 5 (121, 0, 0) 0 [some (.ref (ad 48)), some (iv least), some (iv most), none, none] [] M
  refine Z_aload0 hk dX9_number_0 ?_
  refine Z_getI hk fl_9_245 dX9_number_1 ob_48.1 ob_48.2.1 ob_48.2.2.1 ob_48.2.2.2 ft_9_5 (fun v1 e1 a1 b1 => ?_)
  refine Z_if_eq hk (tgt := 9) dX9_number_4 (by decide) (by omega) (by omega) (fun h4 => ?_) (fun h4 => ?_)
  · refine Z_aload0 hk dX9_number_9 ?_
    refine Z_Vi hk (c_X9_look κ.2.1 δ ad _ hA  (by (omega))) ov_X9_look ml_X9_257 dX9_number_10 rfl ⟨by decide, by decide⟩ ob_48.1 (by decide) (by decide) rfl (Nat.le_of_ble_eq_true rfl) (fun r10 m10 p10 => ?_)
    obtain ⟨p10, f10_0, f10_1⟩ := p10
    try simp only [f10_0, f10_1, e1, and_true, true_and, or_true, true_or, implies_true, upn, reduceIte, Nat.reduceEqDiff, ne_eq, not_false_eq_true] at p10
    refine Z_Si hk (c_X9_isDigit κ.2.1 δ ad _ hA r10 (by (try simp only [f10_0, f10_1, and_true, true_and, or_true, true_or, implies_true, upn, reduceIte, Nat.reduceEqDiff, ne_eq, not_false_eq_true]) <;> (omega))) os_X9_isDigit ml_X9_282 dX9_number_13 rfl ⟨by decide, by decide⟩ rfl (Nat.le_of_ble_eq_true rfl) (fun r13 m13 p13 => ?_)
    obtain ⟨rfl, p13⟩ := p13
    try simp only [f10_0, f10_1, e1, and_true, true_and, or_true, true_or, implies_true, upn, reduceIte, Nat.reduceEqDiff, ne_eq, not_false_eq_true] at p13
    have J30 : ∀ (_ : Unit), ((M 48 2) ≤ (m10 48 2) ∧ (m10 48 2) ≤ (M 48 3)) → Zj κ δ ad rs Q 5 (121, 0, 0) 30 [some (.ref (ad 48)), some (iv least), some (iv most), none, none] [] m10 := by
      intro _ h30
      try simp only [f10_0, f10_1, and_true, true_and, or_true, true_or, implies_true, upn, reduceIte, Nat.reduceEqDiff, ne_eq, not_false_eq_true] at h30
      refine Z_aload0 hk dX9_number_30 ?_
      refine Z_iconst hk dX9_number_31 ?_
      refine Z_aload0 hk dX9_number_32 ?_
      refine Z_getI hk fl_9_251 dX9_number_33 ob_48.1 ob_48.2.1 ob_48.2.2.1 ob_48.2.2.2 ft_9_2 (fun v33 e33 a33 b33 => ?_)
      try simp only [f10_0, f10_1, e1, and_true, true_and, or_true, true_or, implies_true, upn, reduceIte, Nat.reduceEqDiff, ne_eq, not_false_eq_true] at e33
      refine Z_Vv hk (c_X9_fail κ.2.1 δ ad _ hA 1 v33 (by (try simp only [f10_0, f10_1, and_true, true_and, or_true, true_or, implies_true, upn, reduceIte, Nat.reduceEqDiff, ne_eq, not_false_eq_true]) <;> (omega)) (by (try simp only [f10_0, f10_1, and_true, true_and, or_true, true_or, implies_true, upn, reduceIte, Nat.reduceEqDiff, ne_eq, not_false_eq_true]) <;> (omega))) ov_X9_fail ml_X9_275 dX9_number_36 rfl ⟨by decide, by decide⟩ ob_48.1 (by decide) (by decide) rfl (Nat.le_of_ble_eq_true rfl) (fun m36 p36 => ?_)
      obtain ⟨p36, f36_0, f36_1⟩ := p36
      try simp only [f36_0, f36_1, f10_0, f10_1, e1, e33, and_true, true_and, or_true, true_or, implies_true, upn, reduceIte, Nat.reduceEqDiff, ne_eq, not_false_eq_true] at p36
      refine Z_iconst hk dX9_number_39 ?_
      exact Z_iret hk hA hQ dX9_number_40 ⟨rfl, rfl, _, rfl, (by exact ⟨(by (try simp only [f36_0, f36_1, f10_0, f10_1, and_true, true_and, or_true, true_or, implies_true, upn, reduceIte, Nat.reduceEqDiff, ne_eq, not_false_eq_true]) <;> (omega)), (by intro c k0; simp only [f36_0, f36_1, f10_0, f10_1, upc, upn, k0, reduceIte, Nat.reduceEqDiff, ne_eq, not_false_eq_true]), (by intro i k0 k1 k2 k3; simp only [f36_0, f36_1, f10_0, f10_1, upc, upn, k0, k1, k2, k3, reduceIte, Nat.reduceEqDiff, ne_eq, not_false_eq_true])⟩)⟩
    refine Z_if_eq hk (tgt := 30) dX9_number_16 (by decide) (by omega) (by omega) (fun h16 => ?_) (fun h16 => ?_)
    · exact J30 () (by (try simp only [f10_0, f10_1, and_true, true_and, or_true, true_or, implies_true, upn, reduceIte, Nat.reduceEqDiff, ne_eq, not_false_eq_true]) <;> (omega))
    · refine Z_aload0 hk dX9_number_19 ?_
      refine Z_getI hk fl_9_251 dX9_number_20 ob_48.1 ob_48.2.1 ob_48.2.2.1 ob_48.2.2.2 ft_9_2 (fun v20 e20 a20 b20 => ?_)
      try simp only [f10_0, f10_1, e1, and_true, true_and, or_true, true_or, implies_true, upn, reduceIte, Nat.reduceEqDiff, ne_eq, not_false_eq_true] at e20
      refine Z_aload0 hk dX9_number_23 ?_
      refine Z_getI hk fl_9_265 dX9_number_24 ob_48.1 ob_48.2.1 ob_48.2.2.1 ob_48.2.2.2 ft_9_4 (fun v24 e24 a24 b24 => ?_)
      try simp only [f10_0, f10_1, e1, e20, and_true, true_and, or_true, true_or, implies_true, upn, reduceIte, Nat.reduceEqDiff, ne_eq, not_false_eq_true] at e24
      refine Z_icmp_ne hk (tgt := 41) dX9_number_27 (by decide) (by omega) (by omega) (by omega) (by omega) (fun h27 => ?_) (fun h27 => ?_)
      · refine Z_aload0 hk dX9_number_41 ?_
        refine Z_getI hk fl_9_251 dX9_number_42 ob_48.1 ob_48.2.1 ob_48.2.2.1 ob_48.2.2.2 ft_9_2 (fun v42 e42 a42 b42 => ?_)
        try simp only [f10_0, f10_1, e1, e20, e24, and_true, true_and, or_true, true_or, implies_true, upn, reduceIte, Nat.reduceEqDiff, ne_eq, not_false_eq_true] at e42
        refine Z_istore3 hk rfl (by decide) dX9_number_45 ?_
        refine Z_iconst hk dX9_number_46 ?_
        have J49 : ∀ (n : Nat) (x4_49 : Int) (m49 : Mem), ((v42 ≤ (m49 48 2) ∧ (m49 48 2) ≤ (M 48 3) ∧ 0 ≤ x4_49 ∧ (m49 48 2) ≤ v42 + 4 ∧ ((m49 48 2) ≤ v42 → x4_49 = 0) ∧ ((m49 48 2) ≤ v42 + 1 → x4_49 ≤ 9) ∧ ((m49 48 2) ≤ v42 + 2 → x4_49 ≤ 99) ∧ ((m49 48 2) ≤ v42 + 3 → x4_49 ≤ 999) ∧ x4_49 ≤ 9999 ∧ (M 48 2) ≤ v42 ∧ v42 < (M 48 3) ∧ 48 ≤ M 49 (v42).toNat ∧ M 49 (v42).toNat ≤ 57) ∧ (∀ c : Nat, c ≠ 48 → m49 c = m10 c) ∧ (∀ i : Nat, i ≠ 2 → m49 48 i = m10 48 i)) → ((M 48 3) - (m49 48 2)) < (n : Int) → Zj κ δ ad rs Q 5 (121, 0, 0) 49 [some (.ref (ad 48)), some (iv least), some (iv most), some (iv v42), some (iv x4_49)] [] m49 := by
          intro n
          induction n with
          | zero => intro x4_49 m49 h49 hm49; exfalso; obtain ⟨h49, -⟩ := h49; omega
          | succ n ih49 =>
            intro x4_49 m49 h49 hm49
            obtain ⟨h49, f49_0, f49_1⟩ := h49
            try simp only [f49_0, f49_1, f10_0, f10_1, and_true, true_and, or_true, true_or, implies_true, upn, reduceIte, Nat.reduceEqDiff, ne_eq, not_false_eq_true] at h49 hm49
            refine Z_aload0 hk dX9_number_49 ?_
            refine Z_getI hk fl_9_251 dX9_number_50 ob_48.1 ob_48.2.1 ob_48.2.2.1 ob_48.2.2.2 ft_9_2 (fun v50 e50 a50 b50 => ?_)
            try simp only [f49_0, f49_1, f10_0, f10_1, e1, e20, e24, e42, and_true, true_and, or_true, true_or, implies_true, upn, reduceIte, Nat.reduceEqDiff, ne_eq, not_false_eq_true] at e50
            refine Z_aload0 hk dX9_number_53 ?_
            refine Z_getI hk fl_9_254 dX9_number_54 ob_48.1 ob_48.2.1 ob_48.2.2.1 ob_48.2.2.2 ft_9_3 (fun v54 e54 a54 b54 => ?_)
            try simp only [f49_0, f49_1, f10_0, f10_1, e1, e20, e24, e42, e50, and_true, true_and, or_true, true_or, implies_true, upn, reduceIte, Nat.reduceEqDiff, ne_eq, not_false_eq_true] at e54
            have J129 : ∀ (_ : Unit), (0 ≤ x4_49 ∧ x4_49 ≤ 9999 ∧ v42 < (m49 48 2) ∧ (m49 48 2) ≤ (M 48 3) ∧ (M 48 2) ≤ v42) → Zj κ δ ad rs Q 5 (121, 0, 0) 129 [some (.ref (ad 48)), some (iv least), some (iv most), some (iv v42), some (iv x4_49)] [] m49 := by
              intro _ h129
              try simp only [f49_0, f49_1, f10_0, f10_1, and_true, true_and, or_true, true_or, implies_true, upn, reduceIte, Nat.reduceEqDiff, ne_eq, not_false_eq_true] at h129
              refine Z_aload0 hk dX9_number_129 ?_
              refine Z_aload0 hk dX9_number_130 ?_
              refine Z_getI hk fl_9_251 dX9_number_131 ob_48.1 ob_48.2.1 ob_48.2.2.1 ob_48.2.2.2 ft_9_2 (fun v131 e131 a131 b131 => ?_)
              try simp only [f49_0, f49_1, f10_0, f10_1, e1, e20, e24, e42, e50, e54, and_true, true_and, or_true, true_or, implies_true, upn, reduceIte, Nat.reduceEqDiff, ne_eq, not_false_eq_true] at e131
              refine Z_putI hk hA fl_9_265 dX9_number_134 ob_48.1 ob_48.2.1 ob_48.2.2.1 ob_48.2.2.2 ft_9_4 (by omega) (by omega) ?_
              refine Z_nm (fun m134 em134 => ?_)
              refine Z_iload4 hk dX9_number_137 ?_
              refine Z_i2l hk dX9_number_139 (by omega) (by omega) ?_
              refine Z_iload1 hk dX9_number_140 ?_
              refine Z_i2l hk dX9_number_141 (by omega) (by omega) ?_
              refine Z_iload2 hk dX9_number_142 ?_
              refine Z_i2l hk dX9_number_143 (by omega) (by omega) ?_
              refine Z_Si hk (c_X9_isIn κ.2.1 δ ad _ hA x4_49 least most (by (try simp only [em134, f49_0, f49_1, f10_0, f10_1, and_true, true_and, or_true, true_or, implies_true, upn, reduceIte, Nat.reduceEqDiff, ne_eq, not_false_eq_true]) <;> (omega)) (by (try simp only [em134, f49_0, f49_1, f10_0, f10_1, and_true, true_and, or_true, true_or, implies_true, upn, reduceIte, Nat.reduceEqDiff, ne_eq, not_false_eq_true]) <;> (omega)) (by (try simp only [em134, f49_0, f49_1, f10_0, f10_1, and_true, true_and, or_true, true_or, implies_true, upn, reduceIte, Nat.reduceEqDiff, ne_eq, not_false_eq_true]) <;> (omega))) os_X9_isIn ml_X9_285 dX9_number_144 rfl ⟨by decide, by decide⟩ rfl (Nat.le_of_ble_eq_true rfl) (fun r144 m144 p144 => ?_)
              obtain ⟨rfl, p144⟩ := p144
              try simp only [em134, f49_0, f49_1, f10_0, f10_1, e1, e20, e24, e42, e50, e54, e131, and_true, true_and, or_true, true_or, implies_true, upn, reduceIte, Nat.reduceEqDiff, ne_eq, not_false_eq_true] at p144
              refine Z_if_ne hk (tgt := 156) dX9_number_147 (by decide) (by omega) (by omega) (fun h147 => ?_) (fun h147 => ?_)
              · refine Z_iload4 hk dX9_number_156 ?_
                exact Z_iret hk hA hQ dX9_number_158 ⟨rfl, rfl, _, rfl, (by exact ⟨(by (try simp only [em134, f49_0, f49_1, f10_0, f10_1, and_true, true_and, or_true, true_or, implies_true, upn, reduceIte, Nat.reduceEqDiff, ne_eq, not_false_eq_true]) <;> (omega)), (by intro c k0; simp only [em134, f49_0, f49_1, f10_0, f10_1, upc, upn, k0, reduceIte, Nat.reduceEqDiff, ne_eq, not_false_eq_true]), (by intro i k0 k1 k2 k3; simp only [em134, f49_0, f49_1, f10_0, f10_1, upc, upn, k0, k1, k2, k3, reduceIte, Nat.reduceEqDiff, ne_eq, not_false_eq_true])⟩)⟩
              · refine Z_aload0 hk dX9_number_150 ?_
                refine Z_iconst hk dX9_number_151 ?_
                refine Z_iload3 hk dX9_number_152 ?_
                refine Z_Vv hk (c_X9_fail κ.2.1 δ ad _ hA 2 v42 (by (try simp only [em134, f49_0, f49_1, f10_0, f10_1, and_true, true_and, or_true, true_or, implies_true, upn, reduceIte, Nat.reduceEqDiff, ne_eq, not_false_eq_true]) <;> (omega)) (by (try simp only [em134, f49_0, f49_1, f10_0, f10_1, and_true, true_and, or_true, true_or, implies_true, upn, reduceIte, Nat.reduceEqDiff, ne_eq, not_false_eq_true]) <;> (omega))) ov_X9_fail ml_X9_275 dX9_number_153 rfl ⟨by decide, by decide⟩ ob_48.1 (by decide) (by decide) rfl (Nat.le_of_ble_eq_true rfl) (fun m153 p153 => ?_)
                obtain ⟨p153, f153_0, f153_1⟩ := p153
                try simp only [f153_0, f153_1, em134, f49_0, f49_1, f10_0, f10_1, e1, e20, e24, e42, e50, e54, e131, and_true, true_and, or_true, true_or, implies_true, upn, reduceIte, Nat.reduceEqDiff, ne_eq, not_false_eq_true] at p153
                refine Z_iload4 hk dX9_number_156 ?_
                exact Z_iret hk hA hQ dX9_number_158 ⟨rfl, rfl, _, rfl, (by exact ⟨(by (try simp only [f153_0, f153_1, em134, f49_0, f49_1, f10_0, f10_1, and_true, true_and, or_true, true_or, implies_true, upn, reduceIte, Nat.reduceEqDiff, ne_eq, not_false_eq_true]) <;> (omega)), (by intro c k0; simp only [f153_0, f153_1, em134, f49_0, f49_1, f10_0, f10_1, upc, upn, k0, reduceIte, Nat.reduceEqDiff, ne_eq, not_false_eq_true]), (by intro i k0 k1 k2 k3; simp only [f153_0, f153_1, em134, f49_0, f49_1, f10_0, f10_1, upc, upn, k0, k1, k2, k3, reduceIte, Nat.reduceEqDiff, ne_eq, not_false_eq_true])⟩)⟩
            refine Z_icmp_ge hk (tgt := 129) dX9_number_57 (by decide) (by omega) (by omega) (by omega) (by omega) (fun h57 => ?_) (fun h57 => ?_)
            · exact J129 () (by (try simp only [f49_0, f49_1, f10_0, f10_1, and_true, true_and, or_true, true_or, implies_true, upn, reduceIte, Nat.reduceEqDiff, ne_eq, not_false_eq_true]) <;> (omega))
            · refine Z_aload0 hk dX9_number_60 ?_
              refine Z_getR hk fl_9_7 dX9_number_61 ob_48.1 ob_48.2.1 ob_48.2.2.1 ob_48.2.2.2 ft_9_0 rs_48_0 ?_
              refine Z_aload0 hk dX9_number_64 ?_
              refine Z_getI hk fl_9_251 dX9_number_65 ob_48.1 ob_48.2.1 ob_48.2.2.1 ob_48.2.2.2 ft_9_2 (fun v65 e65 a65 b65 => ?_)
              try simp only [f49_0, f49_1, f10_0, f10_1, e1, e20, e24, e42, e50, e54, and_true, true_and, or_true, true_or, implies_true, upn, reduceIte, Nat.reduceEqDiff, ne_eq, not_false_eq_true] at e65
              refine Z_iald hk dX9_number_68 ar_49.1 ar_49.2.1 ar_49.2.2 (by omega) (by omega) (fun v68 e68 a68 b68 => ?_)
              try simp only [f49_0, f49_1, f10_0, f10_1, e1, e20, e24, e42, e50, e54, e65, and_true, true_and, or_true, true_or, implies_true, upn, reduceIte, Nat.reduceEqDiff, ne_eq, not_false_eq_true] at e68
              refine Z_Si hk (c_X9_isDigit κ.2.1 δ ad _ hA v68 (by (try simp only [f49_0, f49_1, f10_0, f10_1, and_true, true_and, or_true, true_or, implies_true, upn, reduceIte, Nat.reduceEqDiff, ne_eq, not_false_eq_true]) <;> (omega))) os_X9_isDigit ml_X9_282 dX9_number_69 rfl ⟨by decide, by decide⟩ rfl (Nat.le_of_ble_eq_true rfl) (fun r69 m69 p69 => ?_)
              obtain ⟨rfl, p69⟩ := p69
              try simp only [f49_0, f49_1, f10_0, f10_1, e1, e20, e24, e42, e50, e54, e65, e68, and_true, true_and, or_true, true_or, implies_true, upn, reduceIte, Nat.reduceEqDiff, ne_eq, not_false_eq_true] at p69
              refine Z_if_eq hk (tgt := 129) dX9_number_72 (by decide) (by omega) (by omega) (fun h72 => ?_) (fun h72 => ?_)
              · exact J129 () (by (try simp only [f49_0, f49_1, f10_0, f10_1, and_true, true_and, or_true, true_or, implies_true, upn, reduceIte, Nat.reduceEqDiff, ne_eq, not_false_eq_true]) <;> (have z : v65 = v42 → M 49 (m49 48 2).toNat = M 49 (v42).toNat := (fun h => by rw [← e65, h]); omega))
              · refine Z_aload0 hk dX9_number_75 ?_
                refine Z_getI hk fl_9_251 dX9_number_76 ob_48.1 ob_48.2.1 ob_48.2.2.1 ob_48.2.2.2 ft_9_2 (fun v76 e76 a76 b76 => ?_)
                try simp only [f49_0, f49_1, f10_0, f10_1, e1, e20, e24, e42, e50, e54, e65, e68, and_true, true_and, or_true, true_or, implies_true, upn, reduceIte, Nat.reduceEqDiff, ne_eq, not_false_eq_true] at e76
                refine Z_iload3 hk dX9_number_79 ?_
                refine Z_isub hk dX9_number_80 ?_
                refine Z_iconst hk dX9_number_81 ?_
                refine Z_icmp_ne hk (tgt := 96) dX9_number_82 (by decide) (by omega) (by omega) (by decide) (by decide) (fun h82 => ?_) (fun h82 => ?_)
                · refine Z_bipush hk dX9_number_96 (by decide) ?_
                  refine Z_iload4 hk dX9_number_98 ?_
                  refine Z_imul hk dX9_number_100 ?_
                  refine Z_aload0 hk dX9_number_101 ?_
                  refine Z_getR hk fl_9_7 dX9_number_102 ob_48.1 ob_48.2.1 ob_48.2.2.1 ob_48.2.2.2 ft_9_0 rs_48_0 ?_
                  refine Z_aload0 hk dX9_number_105 ?_
                  refine Z_getI hk fl_9_251 dX9_number_106 ob_48.1 ob_48.2.1 ob_48.2.2.1 ob_48.2.2.2 ft_9_2 (fun v106 e106 a106 b106 => ?_)
                  try simp only [f49_0, f49_1, f10_0, f10_1, e1, e20, e24, e42, e50, e54, e65, e68, e76, and_true, true_and, or_true, true_or, implies_true, upn, reduceIte, Nat.reduceEqDiff, ne_eq, not_false_eq_true] at e106
                  refine Z_iald hk dX9_number_109 ar_49.1 ar_49.2.1 ar_49.2.2 (by omega) (by omega) (fun v109 e109 a109 b109 => ?_)
                  try simp only [f49_0, f49_1, f10_0, f10_1, e1, e20, e24, e42, e50, e54, e65, e68, e76, e106, and_true, true_and, or_true, true_or, implies_true, upn, reduceIte, Nat.reduceEqDiff, ne_eq, not_false_eq_true] at e109
                  refine Z_iadd hk dX9_number_110 ?_
                  refine Z_bipush hk dX9_number_111 (by decide) ?_
                  refine Z_isub hk dX9_number_113 ?_
                  refine Z_istore4 hk rfl (by decide) dX9_number_114 ?_
                  refine Z_aload0 hk dX9_number_116 ?_
                  refine Z_dup1 hk rfl dX9_number_117 ?_
                  refine Z_getI hk fl_9_251 dX9_number_118 ob_48.1 ob_48.2.1 ob_48.2.2.1 ob_48.2.2.2 ft_9_2 (fun v118 e118 a118 b118 => ?_)
                  try simp only [f49_0, f49_1, f10_0, f10_1, e1, e20, e24, e42, e50, e54, e65, e68, e76, e106, e109, and_true, true_and, or_true, true_or, implies_true, upn, reduceIte, Nat.reduceEqDiff, ne_eq, not_false_eq_true] at e118
                  refine Z_iconst hk dX9_number_121 ?_
                  refine Z_iadd hk dX9_number_122 ?_
                  refine Z_putI hk hA fl_9_251 dX9_number_123 ob_48.1 ob_48.2.1 ob_48.2.2.1 ob_48.2.2.2 ft_9_2 (by omega) (by omega) ?_
                  refine Z_nm (fun m123 em123 => ?_)
                  refine Z_goto hk (tgt := 49) dX9_number_126 (by decide) ?_
                  exact ih49 _ _ (by exact ⟨(by (try simp only [em123, f49_0, f49_1, f10_0, f10_1, and_true, true_and, or_true, true_or, implies_true, upn, reduceIte, Nat.reduceEqDiff, ne_eq, not_false_eq_true]) <;> (omega)), (by intro c k0; simp only [em123, f49_0, f49_1, f10_0, f10_1, upc, upn, k0, reduceIte, Nat.reduceEqDiff, ne_eq, not_false_eq_true]), (by intro i k0; simp only [em123, f49_0, f49_1, f10_0, f10_1, upc, upn, k0, reduceIte, Nat.reduceEqDiff, ne_eq, not_false_eq_true])⟩) (by (try simp only [em123, f49_0, f49_1, f10_0, f10_1, and_true, true_and, or_true, true_or, implies_true, upn, reduceIte, Nat.reduceEqDiff, ne_eq, not_false_eq_true]) <;> (omega))
                · refine Z_aload0 hk dX9_number_85 ?_
                  refine Z_iconst hk dX9_number_86 ?_
                  refine Z_aload0 hk dX9_number_87 ?_
                  refine Z_getI hk fl_9_251 dX9_number_88 ob_48.1 ob_48.2.1 ob_48.2.2.1 ob_48.2.2.2 ft_9_2 (fun v88 e88 a88 b88 => ?_)
                  try simp only [f49_0, f49_1, f10_0, f10_1, e1, e20, e24, e42, e50, e54, e65, e68, e76, and_true, true_and, or_true, true_or, implies_true, upn, reduceIte, Nat.reduceEqDiff, ne_eq, not_false_eq_true] at e88
                  refine Z_Vv hk (c_X9_fail κ.2.1 δ ad _ hA 1 v88 (by (try simp only [f49_0, f49_1, f10_0, f10_1, and_true, true_and, or_true, true_or, implies_true, upn, reduceIte, Nat.reduceEqDiff, ne_eq, not_false_eq_true]) <;> (omega)) (by (try simp only [f49_0, f49_1, f10_0, f10_1, and_true, true_and, or_true, true_or, implies_true, upn, reduceIte, Nat.reduceEqDiff, ne_eq, not_false_eq_true]) <;> (omega))) ov_X9_fail ml_X9_275 dX9_number_91 rfl ⟨by decide, by decide⟩ ob_48.1 (by decide) (by decide) rfl (Nat.le_of_ble_eq_true rfl) (fun m91 p91 => ?_)
                  obtain ⟨p91, f91_0, f91_1⟩ := p91
                  try simp only [f91_0, f91_1, f49_0, f49_1, f10_0, f10_1, e1, e20, e24, e42, e50, e54, e65, e68, e76, e88, and_true, true_and, or_true, true_or, implies_true, upn, reduceIte, Nat.reduceEqDiff, ne_eq, not_false_eq_true] at p91
                  refine Z_iconst hk dX9_number_94 ?_
                  exact Z_iret hk hA hQ dX9_number_95 ⟨rfl, rfl, _, rfl, (by exact ⟨(by (try simp only [f91_0, f91_1, f49_0, f49_1, f10_0, f10_1, and_true, true_and, or_true, true_or, implies_true, upn, reduceIte, Nat.reduceEqDiff, ne_eq, not_false_eq_true]) <;> (omega)), (by intro c k0; simp only [f91_0, f91_1, f49_0, f49_1, f10_0, f10_1, upc, upn, k0, reduceIte, Nat.reduceEqDiff, ne_eq, not_false_eq_true]), (by intro i k0 k1 k2 k3; simp only [f91_0, f91_1, f49_0, f49_1, f10_0, f10_1, upc, upn, k0, k1, k2, k3, reduceIte, Nat.reduceEqDiff, ne_eq, not_false_eq_true])⟩)⟩
        refine Z_istore4 hk rfl (by decide) dX9_number_47 ?_
        exact J49 ((((M 48 3) - (m10 48 2)) : Int).toNat + 1) _ _ (by exact ⟨(by (try simp only [f10_0, f10_1, and_true, true_and, or_true, true_or, implies_true, upn, reduceIte, Nat.reduceEqDiff, ne_eq, not_false_eq_true]) <;> (simp only [e42]; omega)), (by intro c k0; simp only [f10_0, f10_1, upc, upn, k0, reduceIte, Nat.reduceEqDiff, ne_eq, not_false_eq_true]), (by intro i k0; simp only [f10_0, f10_1, upc, upn, k0, reduceIte, Nat.reduceEqDiff, ne_eq, not_false_eq_true])⟩) (by omega)
      · exact J30 () (by (try simp only [f10_0, f10_1, and_true, true_and, or_true, true_or, implies_true, upn, reduceIte, Nat.reduceEqDiff, ne_eq, not_false_eq_true]) <;> (omega))
  · refine Z_iconst hk dX9_number_7 ?_
    exact Z_iret hk hA hQ dX9_number_8 ⟨rfl, rfl, _, rfl, (by exact ⟨(by (omega)), (by intro c k0; rfl), (by intro i k0 k1 k2 k3; rfl)⟩)⟩
set_option maxRecDepth 10000 in
theorem c_X9_isOwnHere (l : Launch) (δ : Dp) (ad : Nat → Nat) (M : Mem) (hA : okA δ ad) (q0 : 0 ≤ (M 48 2) ∧ (M 48 2) ≤ (M 48 3) ∧ (M 48 3) ≤ 700) (q1 : (M 48 2) < (M 48 3) ∧ M 49 ((M 48 2)).toNat ≠ 10 ∧ M 49 ((M 48 2)).toNat ≠ 32) : Mi l δ yX9_isOwnHere cX9_isOwnHere 2 (some (.boolean)) 2 43 ad rs [.ref (ad 48)] M (fun r M' => M = M' ∧ (0 ≤ r ∧ r ≤ 1)) := by
  refine Mg.of (rm := rmN 2 43) (by decide) (Nat.le_of_ble_eq_true rfl) fun κ _ hk _ => ?_
  generalize hQ : Qg κ δ 121 (rmN 2 43).cells (rmN 2 43).slots _ = Q
  show Zj κ δ ad rs Q 2 (121, 0, 0) 0 [some (.ref (ad 48)), none] [] M
  refine Z_aload0 hk dX9_isOwnHere_0 ?_
  refine Z_aload0 hk dX9_isOwnHere_1 ?_
  refine Z_getR hk fl_9_17 dX9_isOwnHere_2 ob_48.1 ob_48.2.1 ob_48.2.2.1 ob_48.2.2.2 ft_9_9 rs_48_9 ?_
  refine Z_Vi hk (c_X9_isHere_n κ.2.1 δ ad _ hA 50 7 ar_50 (by (omega)) (by (omega))) ov_X9_isHere ml_X9_268 dX9_isOwnHere_5 rfl ⟨by decide, by decide⟩ ob_48.1 (by decide) (by decide) rfl (Nat.le_of_ble_eq_true rfl) (fun r5 m5 p5 => ?_)
  obtain ⟨rfl, p5⟩ := p5
  have J115 : ∀ (y0_115 : Int), (0 ≤ y0_115 ∧ y0_115 ≤ 1) → Zj κ δ ad rs Q 2 (121, 0, 0) 115 [some (.ref (ad 48)), none] [iv y0_115] M := by
    intro y0_115 h115
    refine Z_istore1 hk rfl (by decide) dX9_isOwnHere_115 ?_
    refine Z_iload1 hk dX9_isOwnHere_116 ?_
    have J246 : ∀ (y0_246 : Int), (0 ≤ y0_246 ∧ y0_246 ≤ 1) → Zj κ δ ad rs Q 2 (121, 0, 0) 246 [some (.ref (ad 48)), some (iv y0_115)] [iv y0_246] M := by
      intro y0_246 h246
      refine Z_istore1 hk rfl (by decide) dX9_isOwnHere_246 ?_
      refine Z_iload1 hk dX9_isOwnHere_247 ?_
      refine Z_if_ne hk (tgt := 372) dX9_isOwnHere_248 (by decide) (by omega) (by omega) (fun h248 => ?_) (fun h248 => ?_)
      · refine Z_iconst hk dX9_isOwnHere_372 ?_
        refine Z_goto hk (tgt := 377) dX9_isOwnHere_373 (by decide) ?_
        exact Z_zret hk hA hQ dX9_isOwnHere_377 (by decide) (by decide) ⟨rfl, rfl, _, rfl, (by exact ⟨rfl, (by omega)⟩)⟩
      · refine Z_aload0 hk dX9_isOwnHere_251 ?_
        refine Z_aload0 hk dX9_isOwnHere_252 ?_
        refine Z_getR hk fl_9_81 dX9_isOwnHere_253 ob_48.1 ob_48.2.1 ob_48.2.2.1 ob_48.2.2.2 ft_9_30 rs_48_30 ?_
        refine Z_Vi hk (c_X9_isHere_n κ.2.1 δ ad _ hA 71 5 ar_71 (by (omega)) (by (omega))) ov_X9_isHere ml_X9_268 dX9_isOwnHere_256 rfl ⟨by decide, by decide⟩ ob_48.1 (by decide) (by decide) rfl (Nat.le_of_ble_eq_true rfl) (fun r256 m256 p256 => ?_)
        obtain ⟨rfl, p256⟩ := p256
        refine Z_if_ne hk (tgt := 372) dX9_isOwnHere_259 (by decide) (by omega) (by omega) (fun h259 => ?_) (fun h259 => ?_)
        · refine Z_iconst hk dX9_isOwnHere_372 ?_
          refine Z_goto hk (tgt := 377) dX9_isOwnHere_373 (by decide) ?_
          exact Z_zret hk hA hQ dX9_isOwnHere_377 (by decide) (by decide) ⟨rfl, rfl, _, rfl, (by exact ⟨rfl, (by omega)⟩)⟩
        · refine Z_aload0 hk dX9_isOwnHere_262 ?_
          refine Z_aload0 hk dX9_isOwnHere_263 ?_
          refine Z_getR hk fl_9_84 dX9_isOwnHere_264 ob_48.1 ob_48.2.1 ob_48.2.2.1 ob_48.2.2.2 ft_9_31 rs_48_31 ?_
          refine Z_Vi hk (c_X9_isHere_n κ.2.1 δ ad _ hA 72 5 ar_72 (by (omega)) (by (omega))) ov_X9_isHere ml_X9_268 dX9_isOwnHere_267 rfl ⟨by decide, by decide⟩ ob_48.1 (by decide) (by decide) rfl (Nat.le_of_ble_eq_true rfl) (fun r267 m267 p267 => ?_)
          obtain ⟨rfl, p267⟩ := p267
          refine Z_if_ne hk (tgt := 372) dX9_isOwnHere_270 (by decide) (by omega) (by omega) (fun h270 => ?_) (fun h270 => ?_)
          · refine Z_iconst hk dX9_isOwnHere_372 ?_
            refine Z_goto hk (tgt := 377) dX9_isOwnHere_373 (by decide) ?_
            exact Z_zret hk hA hQ dX9_isOwnHere_377 (by decide) (by decide) ⟨rfl, rfl, _, rfl, (by exact ⟨rfl, (by omega)⟩)⟩
          · refine Z_aload0 hk dX9_isOwnHere_273 ?_
            refine Z_aload0 hk dX9_isOwnHere_274 ?_
            refine Z_getR hk fl_9_87 dX9_isOwnHere_275 ob_48.1 ob_48.2.1 ob_48.2.2.1 ob_48.2.2.2 ft_9_32 rs_48_32 ?_
            refine Z_Vi hk (c_X9_isHere_n κ.2.1 δ ad _ hA 73 4 ar_73 (by (omega)) (by (omega))) ov_X9_isHere ml_X9_268 dX9_isOwnHere_278 rfl ⟨by decide, by decide⟩ ob_48.1 (by decide) (by decide) rfl (Nat.le_of_ble_eq_true rfl) (fun r278 m278 p278 => ?_)
            obtain ⟨rfl, p278⟩ := p278
            refine Z_if_ne hk (tgt := 372) dX9_isOwnHere_281 (by decide) (by omega) (by omega) (fun h281 => ?_) (fun h281 => ?_)
            · refine Z_iconst hk dX9_isOwnHere_372 ?_
              refine Z_goto hk (tgt := 377) dX9_isOwnHere_373 (by decide) ?_
              exact Z_zret hk hA hQ dX9_isOwnHere_377 (by decide) (by decide) ⟨rfl, rfl, _, rfl, (by exact ⟨rfl, (by omega)⟩)⟩
            · refine Z_aload0 hk dX9_isOwnHere_284 ?_
              refine Z_aload0 hk dX9_isOwnHere_285 ?_
              refine Z_getR hk fl_9_90 dX9_isOwnHere_286 ob_48.1 ob_48.2.1 ob_48.2.2.1 ob_48.2.2.2 ft_9_33 rs_48_33 ?_
              refine Z_Vi hk (c_X9_isHere_n κ.2.1 δ ad _ hA 74 6 ar_74 (by (omega)) (by (omega))) ov_X9_isHere ml_X9_268 dX9_isOwnHere_289 rfl ⟨by decide, by decide⟩ ob_48.1 (by decide) (by decide) rfl (Nat.le_of_ble_eq_true rfl) (fun r289 m289 p289 => ?_)
              obtain ⟨rfl, p289⟩ := p289
              refine Z_if_ne hk (tgt := 372) dX9_isOwnHere_292 (by decide) (by omega) (by omega) (fun h292 => ?_) (fun h292 => ?_)
              · refine Z_iconst hk dX9_isOwnHere_372 ?_
                refine Z_goto hk (tgt := 377) dX9_isOwnHere_373 (by decide) ?_
                exact Z_zret hk hA hQ dX9_isOwnHere_377 (by decide) (by decide) ⟨rfl, rfl, _, rfl, (by exact ⟨rfl, (by omega)⟩)⟩
              · refine Z_aload0 hk dX9_isOwnHere_295 ?_
                refine Z_aload0 hk dX9_isOwnHere_296 ?_
                refine Z_getR hk fl_9_93 dX9_isOwnHere_297 ob_48.1 ob_48.2.1 ob_48.2.2.1 ob_48.2.2.2 ft_9_34 rs_48_34 ?_
                refine Z_Vi hk (c_X9_isHere_n κ.2.1 δ ad _ hA 75 5 ar_75 (by (omega)) (by (omega))) ov_X9_isHere ml_X9_268 dX9_isOwnHere_300 rfl ⟨by decide, by decide⟩ ob_48.1 (by decide) (by decide) rfl (Nat.le_of_ble_eq_true rfl) (fun r300 m300 p300 => ?_)
                obtain ⟨rfl, p300⟩ := p300
                refine Z_if_ne hk (tgt := 372) dX9_isOwnHere_303 (by decide) (by omega) (by omega) (fun h303 => ?_) (fun h303 => ?_)
                · refine Z_iconst hk dX9_isOwnHere_372 ?_
                  refine Z_goto hk (tgt := 377) dX9_isOwnHere_373 (by decide) ?_
                  exact Z_zret hk hA hQ dX9_isOwnHere_377 (by decide) (by decide) ⟨rfl, rfl, _, rfl, (by exact ⟨rfl, (by omega)⟩)⟩
                · refine Z_aload0 hk dX9_isOwnHere_306 ?_
                  refine Z_aload0 hk dX9_isOwnHere_307 ?_
                  refine Z_getR hk fl_9_96 dX9_isOwnHere_308 ob_48.1 ob_48.2.1 ob_48.2.2.1 ob_48.2.2.2 ft_9_35 rs_48_35 ?_
                  refine Z_Vi hk (c_X9_isHere_n κ.2.1 δ ad _ hA 76 4 ar_76 (by (omega)) (by (omega))) ov_X9_isHere ml_X9_268 dX9_isOwnHere_311 rfl ⟨by decide, by decide⟩ ob_48.1 (by decide) (by decide) rfl (Nat.le_of_ble_eq_true rfl) (fun r311 m311 p311 => ?_)
                  obtain ⟨rfl, p311⟩ := p311
                  refine Z_if_ne hk (tgt := 372) dX9_isOwnHere_314 (by decide) (by omega) (by omega) (fun h314 => ?_) (fun h314 => ?_)
                  · refine Z_iconst hk dX9_isOwnHere_372 ?_
                    refine Z_goto hk (tgt := 377) dX9_isOwnHere_373 (by decide) ?_
                    exact Z_zret hk hA hQ dX9_isOwnHere_377 (by decide) (by decide) ⟨rfl, rfl, _, rfl, (by exact ⟨rfl, (by omega)⟩)⟩
                  · refine Z_aload0 hk dX9_isOwnHere_317 ?_
                    refine Z_aload0 hk dX9_isOwnHere_318 ?_
                    refine Z_getR hk fl_9_99 dX9_isOwnHere_319 ob_48.1 ob_48.2.1 ob_48.2.2.1 ob_48.2.2.2 ft_9_36 rs_48_36 ?_
                    refine Z_Vi hk (c_X9_isHere_n κ.2.1 δ ad _ hA 77 4 ar_77 (by (omega)) (by (omega))) ov_X9_isHere ml_X9_268 dX9_isOwnHere_322 rfl ⟨by decide, by decide⟩ ob_48.1 (by decide) (by decide) rfl (Nat.le_of_ble_eq_true rfl) (fun r322 m322 p322 => ?_)
                    obtain ⟨rfl, p322⟩ := p322
                    refine Z_if_ne hk (tgt := 372) dX9_isOwnHere_325 (by decide) (by omega) (by omega) (fun h325 => ?_) (fun h325 => ?_)
                    · refine Z_iconst hk dX9_isOwnHere_372 ?_
                      refine Z_goto hk (tgt := 377) dX9_isOwnHere_373 (by decide) ?_
                      exact Z_zret hk hA hQ dX9_isOwnHere_377 (by decide) (by decide) ⟨rfl, rfl, _, rfl, (by exact ⟨rfl, (by omega)⟩)⟩
                    · refine Z_aload0 hk dX9_isOwnHere_328 ?_
                      refine Z_aload0 hk dX9_isOwnHere_329 ?_
                      refine Z_getR hk fl_9_102 dX9_isOwnHere_330 ob_48.1 ob_48.2.1 ob_48.2.2.1 ob_48.2.2.2 ft_9_37 rs_48_37 ?_
                      refine Z_Vi hk (c_X9_isHere_n κ.2.1 δ ad _ hA 78 5 ar_78 (by (omega)) (by (omega))) ov_X9_isHere ml_X9_268 dX9_isOwnHere_333 rfl ⟨by decide, by decide⟩ ob_48.1 (by decide) (by decide) rfl (Nat.le_of_ble_eq_true rfl) (fun r333 m333 p333 => ?_)
                      obtain ⟨rfl, p333⟩ := p333
                      refine Z_if_ne hk (tgt := 372) dX9_isOwnHere_336 (by decide) (by omega) (by omega) (fun h336 => ?_) (fun h336 => ?_)
                      · refine Z_iconst hk dX9_isOwnHere_372 ?_
                        refine Z_goto hk (tgt := 377) dX9_isOwnHere_373 (by decide) ?_
                        exact Z_zret hk hA hQ dX9_isOwnHere_377 (by decide) (by decide) ⟨rfl, rfl, _, rfl, (by exact ⟨rfl, (by omega)⟩)⟩
                      · refine Z_aload0 hk dX9_isOwnHere_339 ?_
                        refine Z_aload0 hk dX9_isOwnHere_340 ?_
                        refine Z_getR hk fl_9_105 dX9_isOwnHere_341 ob_48.1 ob_48.2.1 ob_48.2.2.1 ob_48.2.2.2 ft_9_38 rs_48_38 ?_
                        refine Z_Vi hk (c_X9_isHere_n κ.2.1 δ ad _ hA 79 3 ar_79 (by (omega)) (by (omega))) ov_X9_isHere ml_X9_268 dX9_isOwnHere_344 rfl ⟨by decide, by decide⟩ ob_48.1 (by decide) (by decide) rfl (Nat.le_of_ble_eq_true rfl) (fun r344 m344 p344 => ?_)
                        obtain ⟨rfl, p344⟩ := p344
                        refine Z_if_ne hk (tgt := 372) dX9_isOwnHere_347 (by decide) (by omega) (by omega) (fun h347 => ?_) (fun h347 => ?_)
                        · refine Z_iconst hk dX9_isOwnHere_372 ?_
                          refine Z_goto hk (tgt := 377) dX9_isOwnHere_373 (by decide) ?_
                          exact Z_zret hk hA hQ dX9_isOwnHere_377 (by decide) (by decide) ⟨rfl, rfl, _, rfl, (by exact ⟨rfl, (by omega)⟩)⟩
                        · refine Z_aload0 hk dX9_isOwnHere_350 ?_
                          refine Z_aload0 hk dX9_isOwnHere_351 ?_
                          refine Z_getR hk fl_9_108 dX9_isOwnHere_352 ob_48.1 ob_48.2.1 ob_48.2.2.1 ob_48.2.2.2 ft_9_39 rs_48_39 ?_
                          refine Z_Vi hk (c_X9_isHere_n κ.2.1 δ ad _ hA 80 3 ar_80 (by (omega)) (by (omega))) ov_X9_isHere ml_X9_268 dX9_isOwnHere_355 rfl ⟨by decide, by decide⟩ ob_48.1 (by decide) (by decide) rfl (Nat.le_of_ble_eq_true rfl) (fun r355 m355 p355 => ?_)
                          obtain ⟨rfl, p355⟩ := p355
                          refine Z_if_ne hk (tgt := 372) dX9_isOwnHere_358 (by decide) (by omega) (by omega) (fun h358 => ?_) (fun h358 => ?_)
                          · refine Z_iconst hk dX9_isOwnHere_372 ?_
                            refine Z_goto hk (tgt := 377) dX9_isOwnHere_373 (by decide) ?_
                            exact Z_zret hk hA hQ dX9_isOwnHere_377 (by decide) (by decide) ⟨rfl, rfl, _, rfl, (by exact ⟨rfl, (by omega)⟩)⟩
                          · refine Z_aload0 hk dX9_isOwnHere_361 ?_
                            refine Z_aload0 hk dX9_isOwnHere_362 ?_
                            refine Z_getR hk fl_9_111 dX9_isOwnHere_363 ob_48.1 ob_48.2.1 ob_48.2.2.1 ob_48.2.2.2 ft_9_40 rs_48_40 ?_
                            refine Z_Vi hk (c_X9_isHere_n κ.2.1 δ ad _ hA 81 7 ar_81 (by (omega)) (by (omega))) ov_X9_isHere ml_X9_268 dX9_isOwnHere_366 rfl ⟨by decide, by decide⟩ ob_48.1 (by decide) (by decide) rfl (Nat.le_of_ble_eq_true rfl) (fun r366 m366 p366 => ?_)
                            obtain ⟨rfl, p366⟩ := p366
                            refine Z_if_eq hk (tgt := 376) dX9_isOwnHere_369 (by decide) (by omega) (by omega) (fun h369 => ?_) (fun h369 => ?_)
                            · refine Z_iconst hk dX9_isOwnHere_376 ?_
                              exact Z_zret hk hA hQ dX9_isOwnHere_377 (by decide) (by decide) ⟨rfl, rfl, _, rfl, (by exact ⟨rfl, (by omega)⟩)⟩
                            · refine Z_iconst hk dX9_isOwnHere_372 ?_
                              refine Z_goto hk (tgt := 377) dX9_isOwnHere_373 (by decide) ?_
                              exact Z_zret hk hA hQ dX9_isOwnHere_377 (by decide) (by decide) ⟨rfl, rfl, _, rfl, (by exact ⟨rfl, (by omega)⟩)⟩
    have J241 : ∀ (_ : Unit), (True) → Zj κ δ ad rs Q 2 (121, 0, 0) 241 [some (.ref (ad 48)), some (iv y0_115)] [] M := by
      intro _ h241
      refine Z_iconst hk dX9_isOwnHere_241 ?_
      refine Z_goto hk (tgt := 246) dX9_isOwnHere_242 (by decide) ?_
      exact J246 _ (by omega)
    refine Z_if_ne hk (tgt := 241) dX9_isOwnHere_117 (by decide) (by omega) (by omega) (fun h117 => ?_) (fun h117 => ?_)
    · exact J241 () (by trivial)
    · refine Z_aload0 hk dX9_isOwnHere_120 ?_
      refine Z_aload0 hk dX9_isOwnHere_121 ?_
      refine Z_getR hk fl_9_48 dX9_isOwnHere_122 ob_48.1 ob_48.2.1 ob_48.2.2.1 ob_48.2.2.2 ft_9_19 rs_48_19 ?_
      refine Z_Vi hk (c_X9_isHere_n κ.2.1 δ ad _ hA 60 4 ar_60 (by (omega)) (by (omega))) ov_X9_isHere ml_X9_268 dX9_isOwnHere_125 rfl ⟨by decide, by decide⟩ ob_48.1 (by decide) (by decide) rfl (Nat.le_of_ble_eq_true rfl) (fun r125 m125 p125 => ?_)
      obtain ⟨rfl, p125⟩ := p125
      refine Z_if_ne hk (tgt := 241) dX9_isOwnHere_128 (by decide) (by omega) (by omega) (fun h128 => ?_) (fun h128 => ?_)
      · exact J241 () (by trivial)
      · refine Z_aload0 hk dX9_isOwnHere_131 ?_
        refine Z_aload0 hk dX9_isOwnHere_132 ?_
        refine Z_getR hk fl_9_51 dX9_isOwnHere_133 ob_48.1 ob_48.2.1 ob_48.2.2.1 ob_48.2.2.2 ft_9_20 rs_48_20 ?_
        refine Z_Vi hk (c_X9_isHere_n κ.2.1 δ ad _ hA 61 5 ar_61 (by (omega)) (by (omega))) ov_X9_isHere ml_X9_268 dX9_isOwnHere_136 rfl ⟨by decide, by decide⟩ ob_48.1 (by decide) (by decide) rfl (Nat.le_of_ble_eq_true rfl) (fun r136 m136 p136 => ?_)
        obtain ⟨rfl, p136⟩ := p136
        refine Z_if_ne hk (tgt := 241) dX9_isOwnHere_139 (by decide) (by omega) (by omega) (fun h139 => ?_) (fun h139 => ?_)
        · exact J241 () (by trivial)
        · refine Z_aload0 hk dX9_isOwnHere_142 ?_
          refine Z_aload0 hk dX9_isOwnHere_143 ?_
          refine Z_getR hk fl_9_54 dX9_isOwnHere_144 ob_48.1 ob_48.2.1 ob_48.2.2.1 ob_48.2.2.2 ft_9_21 rs_48_21 ?_
          refine Z_Vi hk (c_X9_isHere_n κ.2.1 δ ad _ hA 62 3 ar_62 (by (omega)) (by (omega))) ov_X9_isHere ml_X9_268 dX9_isOwnHere_147 rfl ⟨by decide, by decide⟩ ob_48.1 (by decide) (by decide) rfl (Nat.le_of_ble_eq_true rfl) (fun r147 m147 p147 => ?_)
          obtain ⟨rfl, p147⟩ := p147
          refine Z_if_ne hk (tgt := 241) dX9_isOwnHere_150 (by decide) (by omega) (by omega) (fun h150 => ?_) (fun h150 => ?_)
          · exact J241 () (by trivial)
          · refine Z_aload0 hk dX9_isOwnHere_153 ?_
            refine Z_aload0 hk dX9_isOwnHere_154 ?_
            refine Z_getR hk fl_9_57 dX9_isOwnHere_155 ob_48.1 ob_48.2.1 ob_48.2.2.1 ob_48.2.2.2 ft_9_22 rs_48_22 ?_
            refine Z_Vi hk (c_X9_isHere_n κ.2.1 δ ad _ hA 63 3 ar_63 (by (omega)) (by (omega))) ov_X9_isHere ml_X9_268 dX9_isOwnHere_158 rfl ⟨by decide, by decide⟩ ob_48.1 (by decide) (by decide) rfl (Nat.le_of_ble_eq_true rfl) (fun r158 m158 p158 => ?_)
            obtain ⟨rfl, p158⟩ := p158
            refine Z_if_ne hk (tgt := 241) dX9_isOwnHere_161 (by decide) (by omega) (by omega) (fun h161 => ?_) (fun h161 => ?_)
            · exact J241 () (by trivial)
            · refine Z_aload0 hk dX9_isOwnHere_164 ?_
              refine Z_aload0 hk dX9_isOwnHere_165 ?_
              refine Z_getR hk fl_9_60 dX9_isOwnHere_166 ob_48.1 ob_48.2.1 ob_48.2.2.1 ob_48.2.2.2 ft_9_23 rs_48_23 ?_
              refine Z_Vi hk (c_X9_isHere_n κ.2.1 δ ad _ hA 64 9 ar_64 (by (omega)) (by (omega))) ov_X9_isHere ml_X9_268 dX9_isOwnHere_169 rfl ⟨by decide, by decide⟩ ob_48.1 (by decide) (by decide) rfl (Nat.le_of_ble_eq_true rfl) (fun r169 m169 p169 => ?_)
              obtain ⟨rfl, p169⟩ := p169
              refine Z_if_ne hk (tgt := 241) dX9_isOwnHere_172 (by decide) (by omega) (by omega) (fun h172 => ?_) (fun h172 => ?_)
              · exact J241 () (by trivial)
              · refine Z_aload0 hk dX9_isOwnHere_175 ?_
                refine Z_aload0 hk dX9_isOwnHere_176 ?_
                refine Z_getR hk fl_9_63 dX9_isOwnHere_177 ob_48.1 ob_48.2.1 ob_48.2.2.1 ob_48.2.2.2 ft_9_24 rs_48_24 ?_
                refine Z_Vi hk (c_X9_isHere_n κ.2.1 δ ad _ hA 65 5 ar_65 (by (omega)) (by (omega))) ov_X9_isHere ml_X9_268 dX9_isOwnHere_180 rfl ⟨by decide, by decide⟩ ob_48.1 (by decide) (by decide) rfl (Nat.le_of_ble_eq_true rfl) (fun r180 m180 p180 => ?_)
                obtain ⟨rfl, p180⟩ := p180
                refine Z_if_ne hk (tgt := 241) dX9_isOwnHere_183 (by decide) (by omega) (by omega) (fun h183 => ?_) (fun h183 => ?_)
                · exact J241 () (by trivial)
                · refine Z_aload0 hk dX9_isOwnHere_186 ?_
                  refine Z_aload0 hk dX9_isOwnHere_187 ?_
                  refine Z_getR hk fl_9_66 dX9_isOwnHere_188 ob_48.1 ob_48.2.1 ob_48.2.2.1 ob_48.2.2.2 ft_9_25 rs_48_25 ?_
                  refine Z_Vi hk (c_X9_isHere_n κ.2.1 δ ad _ hA 66 4 ar_66 (by (omega)) (by (omega))) ov_X9_isHere ml_X9_268 dX9_isOwnHere_191 rfl ⟨by decide, by decide⟩ ob_48.1 (by decide) (by decide) rfl (Nat.le_of_ble_eq_true rfl) (fun r191 m191 p191 => ?_)
                  obtain ⟨rfl, p191⟩ := p191
                  refine Z_if_ne hk (tgt := 241) dX9_isOwnHere_194 (by decide) (by omega) (by omega) (fun h194 => ?_) (fun h194 => ?_)
                  · exact J241 () (by trivial)
                  · refine Z_aload0 hk dX9_isOwnHere_197 ?_
                    refine Z_aload0 hk dX9_isOwnHere_198 ?_
                    refine Z_getR hk fl_9_69 dX9_isOwnHere_199 ob_48.1 ob_48.2.1 ob_48.2.2.1 ob_48.2.2.2 ft_9_26 rs_48_26 ?_
                    refine Z_Vi hk (c_X9_isHere_n κ.2.1 δ ad _ hA 67 2 ar_67 (by (omega)) (by (omega))) ov_X9_isHere ml_X9_268 dX9_isOwnHere_202 rfl ⟨by decide, by decide⟩ ob_48.1 (by decide) (by decide) rfl (Nat.le_of_ble_eq_true rfl) (fun r202 m202 p202 => ?_)
                    obtain ⟨rfl, p202⟩ := p202
                    refine Z_if_ne hk (tgt := 241) dX9_isOwnHere_205 (by decide) (by omega) (by omega) (fun h205 => ?_) (fun h205 => ?_)
                    · exact J241 () (by trivial)
                    · refine Z_aload0 hk dX9_isOwnHere_208 ?_
                      refine Z_aload0 hk dX9_isOwnHere_209 ?_
                      refine Z_getR hk fl_9_72 dX9_isOwnHere_210 ob_48.1 ob_48.2.1 ob_48.2.2.1 ob_48.2.2.2 ft_9_27 rs_48_27 ?_
                      refine Z_Vi hk (c_X9_isHere_n κ.2.1 δ ad _ hA 68 3 ar_68 (by (omega)) (by (omega))) ov_X9_isHere ml_X9_268 dX9_isOwnHere_213 rfl ⟨by decide, by decide⟩ ob_48.1 (by decide) (by decide) rfl (Nat.le_of_ble_eq_true rfl) (fun r213 m213 p213 => ?_)
                      obtain ⟨rfl, p213⟩ := p213
                      refine Z_if_ne hk (tgt := 241) dX9_isOwnHere_216 (by decide) (by omega) (by omega) (fun h216 => ?_) (fun h216 => ?_)
                      · exact J241 () (by trivial)
                      · refine Z_aload0 hk dX9_isOwnHere_219 ?_
                        refine Z_aload0 hk dX9_isOwnHere_220 ?_
                        refine Z_getR hk fl_9_75 dX9_isOwnHere_221 ob_48.1 ob_48.2.1 ob_48.2.2.1 ob_48.2.2.2 ft_9_28 rs_48_28 ?_
                        refine Z_Vi hk (c_X9_isHere_n κ.2.1 δ ad _ hA 69 3 ar_69 (by (omega)) (by (omega))) ov_X9_isHere ml_X9_268 dX9_isOwnHere_224 rfl ⟨by decide, by decide⟩ ob_48.1 (by decide) (by decide) rfl (Nat.le_of_ble_eq_true rfl) (fun r224 m224 p224 => ?_)
                        obtain ⟨rfl, p224⟩ := p224
                        refine Z_if_ne hk (tgt := 241) dX9_isOwnHere_227 (by decide) (by omega) (by omega) (fun h227 => ?_) (fun h227 => ?_)
                        · exact J241 () (by trivial)
                        · refine Z_aload0 hk dX9_isOwnHere_230 ?_
                          refine Z_aload0 hk dX9_isOwnHere_231 ?_
                          refine Z_getR hk fl_9_78 dX9_isOwnHere_232 ob_48.1 ob_48.2.1 ob_48.2.2.1 ob_48.2.2.2 ft_9_29 rs_48_29 ?_
                          refine Z_Vi hk (c_X9_isHere_n κ.2.1 δ ad _ hA 70 4 ar_70 (by (omega)) (by (omega))) ov_X9_isHere ml_X9_268 dX9_isOwnHere_235 rfl ⟨by decide, by decide⟩ ob_48.1 (by decide) (by decide) rfl (Nat.le_of_ble_eq_true rfl) (fun r235 m235 p235 => ?_)
                          obtain ⟨rfl, p235⟩ := p235
                          refine Z_if_eq hk (tgt := 245) dX9_isOwnHere_238 (by decide) (by omega) (by omega) (fun h238 => ?_) (fun h238 => ?_)
                          · refine Z_iconst hk dX9_isOwnHere_245 ?_
                            exact J246 _ (by omega)
                          · exact J241 () (by trivial)
  have J110 : ∀ (_ : Unit), (True) → Zj κ δ ad rs Q 2 (121, 0, 0) 110 [some (.ref (ad 48)), none] [] M := by
    intro _ h110
    refine Z_iconst hk dX9_isOwnHere_110 ?_
    refine Z_goto hk (tgt := 115) dX9_isOwnHere_111 (by decide) ?_
    exact J115 _ (by omega)
  refine Z_if_ne hk (tgt := 110) dX9_isOwnHere_8 (by decide) (by omega) (by omega) (fun h8 => ?_) (fun h8 => ?_)
  · exact J110 () (by trivial)
  · refine Z_aload0 hk dX9_isOwnHere_11 ?_
    refine Z_aload0 hk dX9_isOwnHere_12 ?_
    refine Z_getR hk fl_9_21 dX9_isOwnHere_13 ob_48.1 ob_48.2.1 ob_48.2.2.1 ob_48.2.2.2 ft_9_10 rs_48_10 ?_
    refine Z_Vi hk (c_X9_isHere_n κ.2.1 δ ad _ hA 51 8 ar_51 (by (omega)) (by (omega))) ov_X9_isHere ml_X9_268 dX9_isOwnHere_16 rfl ⟨by decide, by decide⟩ ob_48.1 (by decide) (by decide) rfl (Nat.le_of_ble_eq_true rfl) (fun r16 m16 p16 => ?_)
    obtain ⟨rfl, p16⟩ := p16
    refine Z_if_ne hk (tgt := 110) dX9_isOwnHere_19 (by decide) (by omega) (by omega) (fun h19 => ?_) (fun h19 => ?_)
    · exact J110 () (by trivial)
    · refine Z_aload0 hk dX9_isOwnHere_22 ?_
      refine Z_aload0 hk dX9_isOwnHere_23 ?_
      refine Z_getR hk fl_9_24 dX9_isOwnHere_24 ob_48.1 ob_48.2.1 ob_48.2.2.1 ob_48.2.2.2 ft_9_11 rs_48_11 ?_
      refine Z_Vi hk (c_X9_isHere_n κ.2.1 δ ad _ hA 52 7 ar_52 (by (omega)) (by (omega))) ov_X9_isHere ml_X9_268 dX9_isOwnHere_27 rfl ⟨by decide, by decide⟩ ob_48.1 (by decide) (by decide) rfl (Nat.le_of_ble_eq_true rfl) (fun r27 m27 p27 => ?_)
      obtain ⟨rfl, p27⟩ := p27
      refine Z_if_ne hk (tgt := 110) dX9_isOwnHere_30 (by decide) (by omega) (by omega) (fun h30 => ?_) (fun h30 => ?_)
      · exact J110 () (by trivial)
      · refine Z_aload0 hk dX9_isOwnHere_33 ?_
        refine Z_aload0 hk dX9_isOwnHere_34 ?_
        refine Z_getR hk fl_9_27 dX9_isOwnHere_35 ob_48.1 ob_48.2.1 ob_48.2.2.1 ob_48.2.2.2 ft_9_12 rs_48_12 ?_
        refine Z_Vi hk (c_X9_isHere_n κ.2.1 δ ad _ hA 53 4 ar_53 (by (omega)) (by (omega))) ov_X9_isHere ml_X9_268 dX9_isOwnHere_38 rfl ⟨by decide, by decide⟩ ob_48.1 (by decide) (by decide) rfl (Nat.le_of_ble_eq_true rfl) (fun r38 m38 p38 => ?_)
        obtain ⟨rfl, p38⟩ := p38
        refine Z_if_ne hk (tgt := 110) dX9_isOwnHere_41 (by decide) (by omega) (by omega) (fun h41 => ?_) (fun h41 => ?_)
        · exact J110 () (by trivial)
        · refine Z_aload0 hk dX9_isOwnHere_44 ?_
          refine Z_aload0 hk dX9_isOwnHere_45 ?_
          refine Z_getR hk fl_9_30 dX9_isOwnHere_46 ob_48.1 ob_48.2.1 ob_48.2.2.1 ob_48.2.2.2 ft_9_13 rs_48_13 ?_
          refine Z_Vi hk (c_X9_isHere_n κ.2.1 δ ad _ hA 54 4 ar_54 (by (omega)) (by (omega))) ov_X9_isHere ml_X9_268 dX9_isOwnHere_49 rfl ⟨by decide, by decide⟩ ob_48.1 (by decide) (by decide) rfl (Nat.le_of_ble_eq_true rfl) (fun r49 m49 p49 => ?_)
          obtain ⟨rfl, p49⟩ := p49
          refine Z_if_ne hk (tgt := 110) dX9_isOwnHere_52 (by decide) (by omega) (by omega) (fun h52 => ?_) (fun h52 => ?_)
          · exact J110 () (by trivial)
          · refine Z_aload0 hk dX9_isOwnHere_55 ?_
            refine Z_aload0 hk dX9_isOwnHere_56 ?_
            refine Z_getR hk fl_9_33 dX9_isOwnHere_57 ob_48.1 ob_48.2.1 ob_48.2.2.1 ob_48.2.2.2 ft_9_14 rs_48_14 ?_
            refine Z_Vi hk (c_X9_isHere_n κ.2.1 δ ad _ hA 55 5 ar_55 (by (omega)) (by (omega))) ov_X9_isHere ml_X9_268 dX9_isOwnHere_60 rfl ⟨by decide, by decide⟩ ob_48.1 (by decide) (by decide) rfl (Nat.le_of_ble_eq_true rfl) (fun r60 m60 p60 => ?_)
            obtain ⟨rfl, p60⟩ := p60
            refine Z_if_ne hk (tgt := 110) dX9_isOwnHere_63 (by decide) (by omega) (by omega) (fun h63 => ?_) (fun h63 => ?_)
            · exact J110 () (by trivial)
            · refine Z_aload0 hk dX9_isOwnHere_66 ?_
              refine Z_aload0 hk dX9_isOwnHere_67 ?_
              refine Z_getR hk fl_9_36 dX9_isOwnHere_68 ob_48.1 ob_48.2.1 ob_48.2.2.1 ob_48.2.2.2 ft_9_15 rs_48_15 ?_
              refine Z_Vi hk (c_X9_isHere_n κ.2.1 δ ad _ hA 56 2 ar_56 (by (omega)) (by (omega))) ov_X9_isHere ml_X9_268 dX9_isOwnHere_71 rfl ⟨by decide, by decide⟩ ob_48.1 (by decide) (by decide) rfl (Nat.le_of_ble_eq_true rfl) (fun r71 m71 p71 => ?_)
              obtain ⟨rfl, p71⟩ := p71
              refine Z_if_ne hk (tgt := 110) dX9_isOwnHere_74 (by decide) (by omega) (by omega) (fun h74 => ?_) (fun h74 => ?_)
              · exact J110 () (by trivial)
              · refine Z_aload0 hk dX9_isOwnHere_77 ?_
                refine Z_aload0 hk dX9_isOwnHere_78 ?_
                refine Z_getR hk fl_9_39 dX9_isOwnHere_79 ob_48.1 ob_48.2.1 ob_48.2.2.1 ob_48.2.2.2 ft_9_16 rs_48_16 ?_
                refine Z_Vi hk (c_X9_isHere_n κ.2.1 δ ad _ hA 57 4 ar_57 (by (omega)) (by (omega))) ov_X9_isHere ml_X9_268 dX9_isOwnHere_82 rfl ⟨by decide, by decide⟩ ob_48.1 (by decide) (by decide) rfl (Nat.le_of_ble_eq_true rfl) (fun r82 m82 p82 => ?_)
                obtain ⟨rfl, p82⟩ := p82
                refine Z_if_ne hk (tgt := 110) dX9_isOwnHere_85 (by decide) (by omega) (by omega) (fun h85 => ?_) (fun h85 => ?_)
                · exact J110 () (by trivial)
                · refine Z_aload0 hk dX9_isOwnHere_88 ?_
                  refine Z_aload0 hk dX9_isOwnHere_89 ?_
                  refine Z_getR hk fl_9_42 dX9_isOwnHere_90 ob_48.1 ob_48.2.1 ob_48.2.2.1 ob_48.2.2.2 ft_9_17 rs_48_17 ?_
                  refine Z_Vi hk (c_X9_isHere_n κ.2.1 δ ad _ hA 58 4 ar_58 (by (omega)) (by (omega))) ov_X9_isHere ml_X9_268 dX9_isOwnHere_93 rfl ⟨by decide, by decide⟩ ob_48.1 (by decide) (by decide) rfl (Nat.le_of_ble_eq_true rfl) (fun r93 m93 p93 => ?_)
                  obtain ⟨rfl, p93⟩ := p93
                  refine Z_if_ne hk (tgt := 110) dX9_isOwnHere_96 (by decide) (by omega) (by omega) (fun h96 => ?_) (fun h96 => ?_)
                  · exact J110 () (by trivial)
                  · refine Z_aload0 hk dX9_isOwnHere_99 ?_
                    refine Z_aload0 hk dX9_isOwnHere_100 ?_
                    refine Z_getR hk fl_9_45 dX9_isOwnHere_101 ob_48.1 ob_48.2.1 ob_48.2.2.1 ob_48.2.2.2 ft_9_18 rs_48_18 ?_
                    refine Z_Vi hk (c_X9_isHere_n κ.2.1 δ ad _ hA 59 4 ar_59 (by (omega)) (by (omega))) ov_X9_isHere ml_X9_268 dX9_isOwnHere_104 rfl ⟨by decide, by decide⟩ ob_48.1 (by decide) (by decide) rfl (Nat.le_of_ble_eq_true rfl) (fun r104 m104 p104 => ?_)
                    obtain ⟨rfl, p104⟩ := p104
                    refine Z_if_eq hk (tgt := 114) dX9_isOwnHere_107 (by decide) (by omega) (by omega) (fun h107 => ?_) (fun h107 => ?_)
                    · refine Z_iconst hk dX9_isOwnHere_114 ?_
                      exact J115 _ (by omega)
                    · exact J110 () (by trivial)
set_option maxRecDepth 10000 in
theorem c_X9_name (l : Launch) (δ : Dp) (ad : Nat → Nat) (M : Mem) (hA : okA δ ad) (q0 : 0 ≤ (M 48 2) ∧ (M 48 2) ≤ (M 48 3) ∧ (M 48 3) ≤ 700) : Mj l δ yX9_name cX9_name 3 (some (.long)) 3 64 ad rs [.ref (ad 48)] M (fun r M' => ((M 48 2) ≤ (M' 48 2) ∧ (M' 48 2) ≤ (M 48 3) ∧ 0 ≤ r ∧ r ≤ 387420488 ∧ ((M 48 5) ≠ 0 → (M' 48 5) = (M 48 5)) ∧ ((M' 48 5) = 0 → (M 48 5) = 0 ∧ (M 48 2) < (M' 48 2))) ∧ (∀ c : Nat, c ≠ 48 → M' c = M c) ∧ (∀ i : Nat, i ≠ 2 → i ≠ 4 → i ≠ 5 → i ≠ 6 → i ≠ 41 → M' 48 i = M 48 i)) := by
  refine Mg.of (rm := rmN 3 64) (by decide) (Nat.le_of_ble_eq_true rfl) fun κ _ hk _ => ?_
  generalize hQ : Qg κ δ 121 (rmN 3 64).cells (rmN 3 64).slots _ = Q
  show Zj κ δ ad rs Q 3 (121, 0, 0) 0 [some (.ref (ad 48)), none, none] [] M
  refine Z_aload0 hk dX9_name_0 ?_
  refine Z_getI hk fl_9_245 dX9_name_1 ob_48.1 ob_48.2.1 ob_48.2.2.1 ob_48.2.2.2 ft_9_5 (fun v1 e1 a1 b1 => ?_)
  refine Z_if_eq hk (tgt := 9) dX9_name_4 (by decide) (by omega) (by omega) (fun h4 => ?_) (fun h4 => ?_)
  · refine Z_aload0 hk dX9_name_9 ?_
    refine Z_Vi hk (c_X9_look κ.2.1 δ ad _ hA  (by (omega))) ov_X9_look ml_X9_257 dX9_name_10 rfl ⟨by decide, by decide⟩ ob_48.1 (by decide) (by decide) rfl (Nat.le_of_ble_eq_true rfl) (fun r10 m10 p10 => ?_)
    obtain ⟨p10, f10_0, f10_1⟩ := p10
    try simp only [f10_0, f10_1, e1, and_true, true_and, or_true, true_or, implies_true, upn, reduceIte, Nat.reduceEqDiff, ne_eq, not_false_eq_true] at p10
    refine Z_Si hk (c_X9_isLetter κ.2.1 δ ad _ hA r10 (by (try simp only [f10_0, f10_1, and_true, true_and, or_true, true_or, implies_true, upn, reduceIte, Nat.reduceEqDiff, ne_eq, not_false_eq_true]) <;> (omega))) os_X9_isLetter ml_X9_261 dX9_name_13 rfl ⟨by decide, by decide⟩ rfl (Nat.le_of_ble_eq_true rfl) (fun r13 m13 p13 => ?_)
    obtain ⟨rfl, p13⟩ := p13
    try simp only [f10_0, f10_1, e1, and_true, true_and, or_true, true_or, implies_true, upn, reduceIte, Nat.reduceEqDiff, ne_eq, not_false_eq_true] at p13
    have J37 : ∀ (_ : Unit), (((M 48 2) ≤ (m10 48 2) ∧ (m10 48 2) ≤ (M 48 3)) ∧ (∀ c : Nat, c ≠ 48 → m10 c = m10 c) ∧ (∀ i : Nat, i ≠ 2 → m10 48 i = m10 48 i)) → Zj κ δ ad rs Q 3 (121, 0, 0) 37 [some (.ref (ad 48)), none, none] [] m10 := by
      intro _ h37
      obtain ⟨h37, f37_0, f37_1⟩ := h37
      try simp only [f37_0, f37_1, f10_0, f10_1, and_true, true_and, or_true, true_or, implies_true, upn, reduceIte, Nat.reduceEqDiff, ne_eq, not_false_eq_true] at h37
      refine Z_aload0 hk dX9_name_37 ?_
      refine Z_iconst hk dX9_name_38 ?_
      refine Z_aload0 hk dX9_name_39 ?_
      refine Z_getI hk fl_9_251 dX9_name_40 ob_48.1 ob_48.2.1 ob_48.2.2.1 ob_48.2.2.2 ft_9_2 (fun v40 e40 a40 b40 => ?_)
      try simp only [f37_0, f37_1, f10_0, f10_1, e1, and_true, true_and, or_true, true_or, implies_true, upn, reduceIte, Nat.reduceEqDiff, ne_eq, not_false_eq_true] at e40
      refine Z_Vv hk (c_X9_fail κ.2.1 δ ad _ hA 1 v40 (by (try simp only [f37_0, f37_1, f10_0, f10_1, and_true, true_and, or_true, true_or, implies_true, upn, reduceIte, Nat.reduceEqDiff, ne_eq, not_false_eq_true]) <;> (omega)) (by (try simp only [f37_0, f37_1, f10_0, f10_1, and_true, true_and, or_true, true_or, implies_true, upn, reduceIte, Nat.reduceEqDiff, ne_eq, not_false_eq_true]) <;> (omega))) ov_X9_fail ml_X9_275 dX9_name_43 rfl ⟨by decide, by decide⟩ ob_48.1 (by decide) (by decide) rfl (Nat.le_of_ble_eq_true rfl) (fun m43 p43 => ?_)
      obtain ⟨p43, f43_0, f43_1⟩ := p43
      try simp only [f43_0, f43_1, f37_0, f37_1, f10_0, f10_1, e1, e40, and_true, true_and, or_true, true_or, implies_true, upn, reduceIte, Nat.reduceEqDiff, ne_eq, not_false_eq_true] at p43
      refine Z_lconst0 hk dX9_name_46 ?_
      exact Z_lret hk hA hQ dX9_name_47 ⟨rfl, rfl, _, rfl, (by exact ⟨(by (try simp only [f43_0, f43_1, f37_0, f37_1, f10_0, f10_1, and_true, true_and, or_true, true_or, implies_true, upn, reduceIte, Nat.reduceEqDiff, ne_eq, not_false_eq_true]) <;> (omega)), (by intro c k0; simp only [f43_0, f43_1, f37_0, f37_1, f10_0, f10_1, upc, upn, k0, reduceIte, Nat.reduceEqDiff, ne_eq, not_false_eq_true]), (by intro i k0 k1 k2 k3 k4; simp only [f43_0, f43_1, f37_0, f37_1, f10_0, f10_1, upc, upn, k0, k1, k2, k3, k4, reduceIte, Nat.reduceEqDiff, ne_eq, not_false_eq_true])⟩)⟩
    refine Z_if_eq hk (tgt := 37) dX9_name_16 (by decide) (by omega) (by omega) (fun h16 => ?_) (fun h16 => ?_)
    · exact J37 () (by exact ⟨(by (try simp only [f10_0, f10_1, and_true, true_and, or_true, true_or, implies_true, upn, reduceIte, Nat.reduceEqDiff, ne_eq, not_false_eq_true]) <;> (omega)), (by intro c k0; simp only [f10_0, f10_1, upc, upn, k0, reduceIte, Nat.reduceEqDiff, ne_eq, not_false_eq_true]), (by intro i k0; simp only [f10_0, f10_1, upc, upn, k0, reduceIte, Nat.reduceEqDiff, ne_eq, not_false_eq_true])⟩)
    · refine Z_aload0 hk dX9_name_19 ?_
      refine Z_getI hk fl_9_251 dX9_name_20 ob_48.1 ob_48.2.1 ob_48.2.2.1 ob_48.2.2.2 ft_9_2 (fun v20 e20 a20 b20 => ?_)
      try simp only [f10_0, f10_1, e1, and_true, true_and, or_true, true_or, implies_true, upn, reduceIte, Nat.reduceEqDiff, ne_eq, not_false_eq_true] at e20
      refine Z_aload0 hk dX9_name_23 ?_
      refine Z_getI hk fl_9_265 dX9_name_24 ob_48.1 ob_48.2.1 ob_48.2.2.1 ob_48.2.2.2 ft_9_4 (fun v24 e24 a24 b24 => ?_)
      try simp only [f10_0, f10_1, e1, e20, and_true, true_and, or_true, true_or, implies_true, upn, reduceIte, Nat.reduceEqDiff, ne_eq, not_false_eq_true] at e24
      refine Z_icmp_eq hk (tgt := 37) dX9_name_27 (by decide) (by omega) (by omega) (by omega) (by omega) (fun h27 => ?_) (fun h27 => ?_)
      · exact J37 () (by exact ⟨(by (try simp only [f10_0, f10_1, and_true, true_and, or_true, true_or, implies_true, upn, reduceIte, Nat.reduceEqDiff, ne_eq, not_false_eq_true]) <;> (omega)), (by intro c k0; simp only [f10_0, f10_1, upc, upn, k0, reduceIte, Nat.reduceEqDiff, ne_eq, not_false_eq_true]), (by intro i k0; simp only [f10_0, f10_1, upc, upn, k0, reduceIte, Nat.reduceEqDiff, ne_eq, not_false_eq_true])⟩)
      · refine Z_aload0 hk dX9_name_30 ?_
        refine Z_Vi hk (c_X9_isOwnHere κ.2.1 δ ad _ hA  (by (try simp only [f10_0, f10_1, and_true, true_and, or_true, true_or, implies_true, upn, reduceIte, Nat.reduceEqDiff, ne_eq, not_false_eq_true]) <;> (omega)) (by (try simp only [f10_0, f10_1, and_true, true_and, or_true, true_or, implies_true, upn, reduceIte, Nat.reduceEqDiff, ne_eq, not_false_eq_true]) <;> (omega))) ov_X9_isOwnHere ml_X9_289 dX9_name_31 rfl ⟨by decide, by decide⟩ ob_48.1 (by decide) (by decide) rfl (Nat.le_of_ble_eq_true rfl) (fun r31 m31 p31 => ?_)
        obtain ⟨rfl, p31⟩ := p31
        try simp only [f10_0, f10_1, e1, e20, e24, and_true, true_and, or_true, true_or, implies_true, upn, reduceIte, Nat.reduceEqDiff, ne_eq, not_false_eq_true] at p31
        refine Z_if_eq hk (tgt := 48) dX9_name_34 (by decide) (by omega) (by omega) (fun h34 => ?_) (fun h34 => ?_)
        · refine Z_aload0 hk dX9_name_48 ?_
          refine Z_aload0 hk dX9_name_49 ?_
          refine Z_getI hk fl_9_251 dX9_name_50 ob_48.1 ob_48.2.1 ob_48.2.2.1 ob_48.2.2.2 ft_9_2 (fun v50 e50 a50 b50 => ?_)
          try simp only [f10_0, f10_1, e1, e20, e24, and_true, true_and, or_true, true_or, implies_true, upn, reduceIte, Nat.reduceEqDiff, ne_eq, not_false_eq_true] at e50
          refine Z_putI hk hA fl_9_293 dX9_name_53 ob_48.1 ob_48.2.1 ob_48.2.2.1 ob_48.2.2.2 ft_9_41 (by omega) (by omega) ?_
          refine Z_nm (fun m53 em53 => ?_)
          refine Z_lconst0 hk dX9_name_56 ?_
          have J58 : ∀ (n : Nat) (x1_58 : Int) (m58 : Mem), (((M 48 2) ≤ (m58 48 41) ∧ (m58 48 41) ≤ (m58 48 2) ∧ (m58 48 2) ≤ (M 48 3) ∧ 0 ≤ x1_58 ∧ (m58 48 2) ≤ (m58 48 41) + 6 ∧ ((m58 48 2) ≤ (m58 48 41) → x1_58 = 0) ∧ ((m58 48 2) ≤ (m58 48 41) + 1 → x1_58 ≤ 26) ∧ ((m58 48 2) ≤ (m58 48 41) + 2 → x1_58 ≤ 728) ∧ ((m58 48 2) ≤ (m58 48 41) + 3 → x1_58 ≤ 19682) ∧ ((m58 48 2) ≤ (m58 48 41) + 4 → x1_58 ≤ 531440) ∧ ((m58 48 2) ≤ (m58 48 41) + 5 → x1_58 ≤ 14348906) ∧ x1_58 ≤ 387420488 ∧ ((m58 48 2) = (m58 48 41) → (m58 48 2) < (M 48 3) ∧ 97 ≤ M 49 ((m58 48 2)).toNat ∧ M 49 ((m58 48 2)).toNat ≤ 122)) ∧ (∀ c : Nat, c ≠ 48 → m58 c = m53 c) ∧ (∀ i : Nat, i ≠ 2 → m58 48 i = m53 48 i)) → ((M 48 3) - (m58 48 2)) < (n : Int) → Zj κ δ ad rs Q 3 (121, 0, 0) 58 [some (.ref (ad 48)), some (jv x1_58), none] [] m58 := by
            intro n
            induction n with
            | zero => intro x1_58 m58 h58 hm58; exfalso; obtain ⟨h58, -⟩ := h58; omega
            | succ n ih58 =>
              intro x1_58 m58 h58 hm58
              obtain ⟨h58, f58_0, f58_1⟩ := h58
              try simp only [f58_0, f58_1, em53, f10_0, f10_1, and_true, true_and, or_true, true_or, implies_true, upn, reduceIte, Nat.reduceEqDiff, ne_eq, not_false_eq_true] at h58 hm58
              refine Z_aload0 hk dX9_name_58 ?_
              refine Z_getI hk fl_9_251 dX9_name_59 ob_48.1 ob_48.2.1 ob_48.2.2.1 ob_48.2.2.2 ft_9_2 (fun v59 e59 a59 b59 => ?_)
              try simp only [f58_0, f58_1, em53, f10_0, f10_1, e1, e20, e24, e50, and_true, true_and, or_true, true_or, implies_true, upn, reduceIte, Nat.reduceEqDiff, ne_eq, not_false_eq_true] at e59
              refine Z_aload0 hk dX9_name_62 ?_
              refine Z_getI hk fl_9_254 dX9_name_63 ob_48.1 ob_48.2.1 ob_48.2.2.1 ob_48.2.2.2 ft_9_3 (fun v63 e63 a63 b63 => ?_)
              try simp only [f58_0, f58_1, em53, f10_0, f10_1, e1, e20, e24, e50, e59, and_true, true_and, or_true, true_or, implies_true, upn, reduceIte, Nat.reduceEqDiff, ne_eq, not_false_eq_true] at e63
              refine Z_icmp_ge hk (tgt := 145) dX9_name_66 (by decide) (by omega) (by omega) (by omega) (by omega) (fun h66 => ?_) (fun h66 => ?_)
              · refine Z_aload0 hk dX9_name_145 ?_
                refine Z_aload0 hk dX9_name_146 ?_
                refine Z_getI hk fl_9_251 dX9_name_147 ob_48.1 ob_48.2.1 ob_48.2.2.1 ob_48.2.2.2 ft_9_2 (fun v147 e147 a147 b147 => ?_)
                try simp only [f58_0, f58_1, em53, f10_0, f10_1, e1, e20, e24, e50, e59, e63, and_true, true_and, or_true, true_or, implies_true, upn, reduceIte, Nat.reduceEqDiff, ne_eq, not_false_eq_true] at e147
                refine Z_putI hk hA fl_9_265 dX9_name_150 ob_48.1 ob_48.2.1 ob_48.2.2.1 ob_48.2.2.2 ft_9_4 (by omega) (by omega) ?_
                refine Z_nm (fun m150 em150 => ?_)
                refine Z_lload1 hk dX9_name_153 ?_
                exact Z_lret hk hA hQ dX9_name_154 ⟨rfl, rfl, _, rfl, (by exact ⟨(by (try simp only [em150, f58_0, f58_1, em53, f10_0, f10_1, and_true, true_and, or_true, true_or, implies_true, upn, reduceIte, Nat.reduceEqDiff, ne_eq, not_false_eq_true]) <;> (omega)), (by intro c k0; simp only [em150, f58_0, f58_1, em53, f10_0, f10_1, upc, upn, k0, reduceIte, Nat.reduceEqDiff, ne_eq, not_false_eq_true]), (by intro i k0 k1 k2 k3 k4; simp only [em150, f58_0, f58_1, em53, f10_0, f10_1, upc, upn, k0, k1, k2, k3, k4, reduceIte, Nat.reduceEqDiff, ne_eq, not_false_eq_true])⟩)⟩
              · refine Z_aload0 hk dX9_name_69 ?_
                refine Z_getR hk fl_9_7 dX9_name_70 ob_48.1 ob_48.2.1 ob_48.2.2.1 ob_48.2.2.2 ft_9_0 rs_48_0 ?_
                refine Z_aload0 hk dX9_name_73 ?_
                refine Z_getI hk fl_9_251 dX9_name_74 ob_48.1 ob_48.2.1 ob_48.2.2.1 ob_48.2.2.2 ft_9_2 (fun v74 e74 a74 b74 => ?_)
                try simp only [f58_0, f58_1, em53, f10_0, f10_1, e1, e20, e24, e50, e59, e63, and_true, true_and, or_true, true_or, implies_true, upn, reduceIte, Nat.reduceEqDiff, ne_eq, not_false_eq_true] at e74
                refine Z_iald hk dX9_name_77 ar_49.1 ar_49.2.1 ar_49.2.2 (by omega) (by omega) (fun v77 e77 a77 b77 => ?_)
                try simp only [f58_0, f58_1, em53, f10_0, f10_1, e1, e20, e24, e50, e59, e63, e74, and_true, true_and, or_true, true_or, implies_true, upn, reduceIte, Nat.reduceEqDiff, ne_eq, not_false_eq_true] at e77
                refine Z_Si hk (c_X9_isLetter κ.2.1 δ ad _ hA v77 (by (try simp only [f58_0, f58_1, em53, f10_0, f10_1, and_true, true_and, or_true, true_or, implies_true, upn, reduceIte, Nat.reduceEqDiff, ne_eq, not_false_eq_true]) <;> (omega))) os_X9_isLetter ml_X9_261 dX9_name_78 rfl ⟨by decide, by decide⟩ rfl (Nat.le_of_ble_eq_true rfl) (fun r78 m78 p78 => ?_)
                obtain ⟨rfl, p78⟩ := p78
                try simp only [f58_0, f58_1, em53, f10_0, f10_1, e1, e20, e24, e50, e59, e63, e74, e77, and_true, true_and, or_true, true_or, implies_true, upn, reduceIte, Nat.reduceEqDiff, ne_eq, not_false_eq_true] at p78
                refine Z_if_eq hk (tgt := 145) dX9_name_81 (by decide) (by omega) (by omega) (fun h81 => ?_) (fun h81 => ?_)
                · refine Z_aload0 hk dX9_name_145 ?_
                  refine Z_aload0 hk dX9_name_146 ?_
                  refine Z_getI hk fl_9_251 dX9_name_147 ob_48.1 ob_48.2.1 ob_48.2.2.1 ob_48.2.2.2 ft_9_2 (fun v147 e147 a147 b147 => ?_)
                  try simp only [f58_0, f58_1, em53, f10_0, f10_1, e1, e20, e24, e50, e59, e63, e74, e77, and_true, true_and, or_true, true_or, implies_true, upn, reduceIte, Nat.reduceEqDiff, ne_eq, not_false_eq_true] at e147
                  refine Z_putI hk hA fl_9_265 dX9_name_150 ob_48.1 ob_48.2.1 ob_48.2.2.1 ob_48.2.2.2 ft_9_4 (by omega) (by omega) ?_
                  refine Z_nm (fun m150 em150 => ?_)
                  refine Z_lload1 hk dX9_name_153 ?_
                  exact Z_lret hk hA hQ dX9_name_154 ⟨rfl, rfl, _, rfl, (by exact ⟨(by (try simp only [em150, f58_0, f58_1, em53, f10_0, f10_1, and_true, true_and, or_true, true_or, implies_true, upn, reduceIte, Nat.reduceEqDiff, ne_eq, not_false_eq_true]) <;> (omega)), (by intro c k0; simp only [em150, f58_0, f58_1, em53, f10_0, f10_1, upc, upn, k0, reduceIte, Nat.reduceEqDiff, ne_eq, not_false_eq_true]), (by intro i k0 k1 k2 k3 k4; simp only [em150, f58_0, f58_1, em53, f10_0, f10_1, upc, upn, k0, k1, k2, k3, k4, reduceIte, Nat.reduceEqDiff, ne_eq, not_false_eq_true])⟩)⟩
                · refine Z_aload0 hk dX9_name_84 ?_
                  refine Z_getI hk fl_9_251 dX9_name_85 ob_48.1 ob_48.2.1 ob_48.2.2.1 ob_48.2.2.2 ft_9_2 (fun v85 e85 a85 b85 => ?_)
                  try simp only [f58_0, f58_1, em53, f10_0, f10_1, e1, e20, e24, e50, e59, e63, e74, e77, and_true, true_and, or_true, true_or, implies_true, upn, reduceIte, Nat.reduceEqDiff, ne_eq, not_false_eq_true] at e85
                  refine Z_aload0 hk dX9_name_88 ?_
                  refine Z_getI hk fl_9_293 dX9_name_89 ob_48.1 ob_48.2.1 ob_48.2.2.1 ob_48.2.2.2 ft_9_41 (fun v89 e89 a89 b89 => ?_)
                  try simp only [f58_0, f58_1, em53, f10_0, f10_1, e1, e20, e24, e50, e59, e63, e74, e77, e85, and_true, true_and, or_true, true_or, implies_true, upn, reduceIte, Nat.reduceEqDiff, ne_eq, not_false_eq_true] at e89
                  refine Z_isub hk dX9_name_92 ?_
                  refine Z_bipush hk dX9_name_93 (by decide) ?_
                  refine Z_icmp_ne hk (tgt := 109) dX9_name_95 (by decide) (by omega) (by omega) (by decide) (by decide) (fun h95 => ?_) (fun h95 => ?_)
                  · refine Z_ldc2_w hk (n := 27) (mem_g (by decide +kernel)) dX9_name_109 ?_
                    refine Z_lload1 hk dX9_name_112 ?_
                    refine Z_lmul hk dX9_name_113 ?_
                    refine Z_aload0 hk dX9_name_114 ?_
                    refine Z_getR hk fl_9_7 dX9_name_115 ob_48.1 ob_48.2.1 ob_48.2.2.1 ob_48.2.2.2 ft_9_0 rs_48_0 ?_
                    refine Z_aload0 hk dX9_name_118 ?_
                    refine Z_getI hk fl_9_251 dX9_name_119 ob_48.1 ob_48.2.1 ob_48.2.2.1 ob_48.2.2.2 ft_9_2 (fun v119 e119 a119 b119 => ?_)
                    try simp only [f58_0, f58_1, em53, f10_0, f10_1, e1, e20, e24, e50, e59, e63, e74, e77, e85, e89, and_true, true_and, or_true, true_or, implies_true, upn, reduceIte, Nat.reduceEqDiff, ne_eq, not_false_eq_true] at e119
                    refine Z_iald hk dX9_name_122 ar_49.1 ar_49.2.1 ar_49.2.2 (by omega) (by omega) (fun v122 e122 a122 b122 => ?_)
                    try simp only [f58_0, f58_1, em53, f10_0, f10_1, e1, e20, e24, e50, e59, e63, e74, e77, e85, e89, e119, and_true, true_and, or_true, true_or, implies_true, upn, reduceIte, Nat.reduceEqDiff, ne_eq, not_false_eq_true] at e122
                    refine Z_i2l hk dX9_name_123 (by omega) (by omega) ?_
                    refine Z_ladd hk dX9_name_124 ?_
                    refine Z_ldc2_w hk (n := 97) (mem_g (by decide +kernel)) dX9_name_125 ?_
                    refine Z_lsub hk dX9_name_128 ?_
                    refine Z_lconst1 hk dX9_name_129 ?_
                    refine Z_ladd hk dX9_name_130 ?_
                    refine Z_lstore1 hk rfl (by decide) dX9_name_131 ?_
                    refine Z_aload0 hk dX9_name_132 ?_
                    refine Z_dup1 hk rfl dX9_name_133 ?_
                    refine Z_getI hk fl_9_251 dX9_name_134 ob_48.1 ob_48.2.1 ob_48.2.2.1 ob_48.2.2.2 ft_9_2 (fun v134 e134 a134 b134 => ?_)
                    try simp only [f58_0, f58_1, em53, f10_0, f10_1, e1, e20, e24, e50, e59, e63, e74, e77, e85, e89, e119, e122, and_true, true_and, or_true, true_or, implies_true, upn, reduceIte, Nat.reduceEqDiff, ne_eq, not_false_eq_true] at e134
                    refine Z_iconst hk dX9_name_137 ?_
                    refine Z_iadd hk dX9_name_138 ?_
                    refine Z_putI hk hA fl_9_251 dX9_name_139 ob_48.1 ob_48.2.1 ob_48.2.2.1 ob_48.2.2.2 ft_9_2 (by omega) (by omega) ?_
                    refine Z_nm (fun m139 em139 => ?_)
                    refine Z_goto hk (tgt := 58) dX9_name_142 (by decide) ?_
                    exact ih58 _ _ (by exact ⟨(by (try simp only [em139, f58_0, f58_1, em53, f10_0, f10_1, and_true, true_and, or_true, true_or, implies_true, upn, reduceIte, Nat.reduceEqDiff, ne_eq, not_false_eq_true]) <;> (omega)), (by intro c k0; simp only [em139, f58_0, f58_1, em53, f10_0, f10_1, upc, upn, k0, reduceIte, Nat.reduceEqDiff, ne_eq, not_false_eq_true]), (by intro i k0; simp only [em139, f58_0, f58_1, em53, f10_0, f10_1, upc, upn, k0, reduceIte, Nat.reduceEqDiff, ne_eq, not_false_eq_true])⟩) (by (try simp only [em139, f58_0, f58_1, em53, f10_0, f10_1, and_true, true_and, or_true, true_or, implies_true, upn, reduceIte, Nat.reduceEqDiff, ne_eq, not_false_eq_true]) <;> (omega))
                  · refine Z_aload0 hk dX9_name_98 ?_
                    refine Z_iconst hk dX9_name_99 ?_
                    refine Z_aload0 hk dX9_name_100 ?_
                    refine Z_getI hk fl_9_251 dX9_name_101 ob_48.1 ob_48.2.1 ob_48.2.2.1 ob_48.2.2.2 ft_9_2 (fun v101 e101 a101 b101 => ?_)
                    try simp only [f58_0, f58_1, em53, f10_0, f10_1, e1, e20, e24, e50, e59, e63, e74, e77, e85, e89, and_true, true_and, or_true, true_or, implies_true, upn, reduceIte, Nat.reduceEqDiff, ne_eq, not_false_eq_true] at e101
                    refine Z_Vv hk (c_X9_fail κ.2.1 δ ad _ hA 1 v101 (by (try simp only [f58_0, f58_1, em53, f10_0, f10_1, and_true, true_and, or_true, true_or, implies_true, upn, reduceIte, Nat.reduceEqDiff, ne_eq, not_false_eq_true]) <;> (omega)) (by (try simp only [f58_0, f58_1, em53, f10_0, f10_1, and_true, true_and, or_true, true_or, implies_true, upn, reduceIte, Nat.reduceEqDiff, ne_eq, not_false_eq_true]) <;> (omega))) ov_X9_fail ml_X9_275 dX9_name_104 rfl ⟨by decide, by decide⟩ ob_48.1 (by decide) (by decide) rfl (Nat.le_of_ble_eq_true rfl) (fun m104 p104 => ?_)
                    obtain ⟨p104, f104_0, f104_1⟩ := p104
                    try simp only [f104_0, f104_1, f58_0, f58_1, em53, f10_0, f10_1, e1, e20, e24, e50, e59, e63, e74, e77, e85, e89, e101, and_true, true_and, or_true, true_or, implies_true, upn, reduceIte, Nat.reduceEqDiff, ne_eq, not_false_eq_true] at p104
                    refine Z_lconst0 hk dX9_name_107 ?_
                    exact Z_lret hk hA hQ dX9_name_108 ⟨rfl, rfl, _, rfl, (by exact ⟨(by (try simp only [f104_0, f104_1, f58_0, f58_1, em53, f10_0, f10_1, and_true, true_and, or_true, true_or, implies_true, upn, reduceIte, Nat.reduceEqDiff, ne_eq, not_false_eq_true]) <;> (omega)), (by intro c k0; simp only [f104_0, f104_1, f58_0, f58_1, em53, f10_0, f10_1, upc, upn, k0, reduceIte, Nat.reduceEqDiff, ne_eq, not_false_eq_true]), (by intro i k0 k1 k2 k3 k4; simp only [f104_0, f104_1, f58_0, f58_1, em53, f10_0, f10_1, upc, upn, k0, k1, k2, k3, k4, reduceIte, Nat.reduceEqDiff, ne_eq, not_false_eq_true])⟩)⟩
          refine Z_lstore1 hk rfl (by decide) dX9_name_57 ?_
          exact J58 ((((M 48 3) - (m53 48 2)) : Int).toNat + 1) _ _ (by exact ⟨(by (try simp only [em53, f10_0, f10_1, and_true, true_and, or_true, true_or, implies_true, upn, reduceIte, Nat.reduceEqDiff, ne_eq, not_false_eq_true]) <;> (omega)), (by intro c k0; simp only [em53, f10_0, f10_1, upc, upn, k0, reduceIte, Nat.reduceEqDiff, ne_eq, not_false_eq_true]), (by intro i k0; simp only [em53, f10_0, f10_1, upc, upn, k0, reduceIte, Nat.reduceEqDiff, ne_eq, not_false_eq_true])⟩) (by omega)
        · exact J37 () (by exact ⟨(by (try simp only [f10_0, f10_1, and_true, true_and, or_true, true_or, implies_true, upn, reduceIte, Nat.reduceEqDiff, ne_eq, not_false_eq_true]) <;> (omega)), (by intro c k0; simp only [f10_0, f10_1, upc, upn, k0, reduceIte, Nat.reduceEqDiff, ne_eq, not_false_eq_true]), (by intro i k0; simp only [f10_0, f10_1, upc, upn, k0, reduceIte, Nat.reduceEqDiff, ne_eq, not_false_eq_true])⟩)
  · refine Z_lconst0 hk dX9_name_7 ?_
    exact Z_lret hk hA hQ dX9_name_8 ⟨rfl, rfl, _, rfl, (by exact ⟨(by (omega)), (by intro c k0; rfl), (by intro i k0 k1 k2 k3 k4; rfl)⟩)⟩
set_option maxRecDepth 10000 in
theorem c_X9_productOf (l : Launch) (δ : Dp) (ad : Nat → Nat) (M : Mem) (hA : okA δ ad) (v : Int) (q0 : 0 ≤ (M 48 48) ∧ (M 48 48) ≤ 6) (i_v : -9223372036854775808 ≤ v ∧ v ≤ 9223372036854775807) : Mi l δ yX9_productOf cX9_productOf 4 (some (.int)) 0 0 ad rs [.ref (ad 48), jv v] M (fun r M' => M = M' ∧ (-1 ≤ r ∧ r ≤ 5 ∧ (r = -1 ∨ r < (M 48 48)))) := by
  refine Mg.of (rm := rmN 0 0) (by decide) (Nat.le_of_ble_eq_true rfl) fun κ _ hk _ => ?_
  generalize hQ : Qg κ δ 121 (rmN 0 0).cells (rmN 0 0).slots _ = Q
  show Zj κ δ ad rs Q 4 (121, 0, 0) 0 [some (.ref (ad 48)), some (jv v), none, none] [] M
  refine Z_iconst hk dX9_productOf_0 ?_
  have J2 : ∀ (n : Nat) (x3_2 : Int), (0 ≤ x3_2 ∧ x3_2 ≤ (M 48 48)) → ((M 48 48) - x3_2) < (n : Int) → Zj κ δ ad rs Q 4 (121, 0, 0) 2 [some (.ref (ad 48)), some (jv v), none, some (iv x3_2)] [] M := by
    intro n
    induction n with
    | zero => intro x3_2 h2 hm2; exfalso; omega
    | succ n ih2 =>
      intro x3_2 h2 hm2
      refine Z_iload3 hk dX9_productOf_2 ?_
      refine Z_aload0 hk dX9_productOf_3 ?_
      refine Z_getI hk fl_9_300 dX9_productOf_4 ob_48.1 ob_48.2.1 ob_48.2.2.1 ob_48.2.2.2 ft_9_48 (fun v4 e4 a4 b4 => ?_)
      refine Z_icmp_ge hk (tgt := 29) dX9_productOf_7 (by decide) (by omega) (by omega) (by omega) (by omega) (fun h7 => ?_) (fun h7 => ?_)
      · refine Z_iconst hk dX9_productOf_29 ?_
        exact Z_iret hk hA hQ dX9_productOf_30 ⟨rfl, rfl, _, rfl, (by exact ⟨rfl, (by omega)⟩)⟩
      · refine Z_aload0 hk dX9_productOf_10 ?_
        refine Z_getR hk fl_9_120 dX9_productOf_11 ob_48.1 ob_48.2.1 ob_48.2.2.1 ob_48.2.2.2 ft_9_49 rs_48_49 ?_
        refine Z_iload3 hk dX9_productOf_14 ?_
        refine Z_lald hk dX9_productOf_15 ar_84.1 ar_84.2.1 ar_84.2.2 (by omega) (by omega) (fun v15 e15 a15 b15 => ?_)
        try simp only [e4, and_true, true_and, or_true, true_or, implies_true, upn, reduceIte, Nat.reduceEqDiff, ne_eq, not_false_eq_true] at e15
        refine Z_lload1 hk dX9_productOf_16 ?_
        refine Z_lcmp hk dX9_productOf_17 (by omega) (by omega) (by omega) (by omega) (fun v17 e17 => ?_)
        refine Z_if_ne hk (tgt := 23) dX9_productOf_18 (by decide) (by omega) (by omega) (fun h18 => ?_) (fun h18 => ?_)
        · refine Z_iinc3 hk rfl (by decide) dX9_productOf_23 ?_
          refine Z_goto hk (tgt := 2) dX9_productOf_26 (by decide) ?_
          exact ih2 _ (by omega) (by (omega))
        · refine Z_iload3 hk dX9_productOf_21 ?_
          exact Z_iret hk hA hQ dX9_productOf_22 ⟨rfl, rfl, _, rfl, (by exact ⟨rfl, (by omega)⟩)⟩
  refine Z_istore3 hk rfl (by decide) dX9_productOf_1 ?_
  exact J2 ((((M 48 48) - 0) : Int).toNat + 1) _ (by omega) (by omega)
set_option maxRecDepth 10000 in
theorem c_X9_product (l : Launch) (δ : Dp) (ad : Nat → Nat) (M : Mem) (hA : okA δ ad) (q0 : 0 ≤ (M 48 2) ∧ (M 48 2) ≤ (M 48 3) ∧ (M 48 3) ≤ 700) (q1 : 0 ≤ (M 48 48) ∧ (M 48 48) ≤ 6) : Mi l δ yX9_product cX9_product 4 (some (.int)) 4 86 ad rs [.ref (ad 48)] M (fun r M' => ((M 48 2) ≤ (M' 48 2) ∧ (M' 48 2) ≤ (M 48 3) ∧ 0 ≤ r ∧ r ≤ 5 ∧ ((M 48 5) ≠ 0 → (M' 48 5) = (M 48 5)) ∧ ((M' 48 5) = 0 → (M 48 5) = 0 ∧ (M 48 2) < (M' 48 2) ∧ r < (M 48 48))) ∧ (∀ c : Nat, c ≠ 48 → M' c = M c) ∧ (∀ i : Nat, i ≠ 2 → i ≠ 4 → i ≠ 5 → i ≠ 6 → i ≠ 41 → M' 48 i = M 48 i)) := by
  refine Mg.of (rm := rmN 4 86) (by decide) (Nat.le_of_ble_eq_true rfl) fun κ _ hk _ => ?_
  generalize hQ : Qg κ δ 121 (rmN 4 86).cells (rmN 4 86).slots _ = Q
  show Zj κ δ ad rs Q 4 (121, 0, 0) 0 [some (.ref (ad 48)), none, none, none] [] M
  refine Z_aload0 hk dX9_product_0 ?_
  refine Z_Vj hk (c_X9_name κ.2.1 δ ad _ hA  (by (omega))) ov_X9_name ml_X9_303 dX9_product_1 rfl ⟨by decide, by decide⟩ ob_48.1 (by decide) (by decide) rfl (Nat.le_of_ble_eq_true rfl) (fun r1 m1 p1 => ?_)
  obtain ⟨p1, f1_0, f1_1⟩ := p1
  try simp only [f1_0, f1_1, and_true, true_and, or_true, true_or, implies_true, upn, reduceIte, Nat.reduceEqDiff, ne_eq, not_false_eq_true] at p1
  refine Z_lstore1 hk rfl (by decide) dX9_product_4 ?_
  refine Z_aload0 hk dX9_product_5 ?_
  refine Z_getI hk fl_9_245 dX9_product_6 ob_48.1 ob_48.2.1 ob_48.2.2.1 ob_48.2.2.2 ft_9_5 (fun v6 e6 a6 b6 => ?_)
  try simp only [f1_0, f1_1, and_true, true_and, or_true, true_or, implies_true, upn, reduceIte, Nat.reduceEqDiff, ne_eq, not_false_eq_true] at e6
  refine Z_if_eq hk (tgt := 14) dX9_product_9 (by decide) (by omega) (by omega) (fun h9 => ?_) (fun h9 => ?_)
  · refine Z_aload0 hk dX9_product_14 ?_
    refine Z_lload1 hk dX9_product_15 ?_
    refine Z_Vi hk (c_X9_productOf κ.2.1 δ ad _ hA r1 (by (try simp only [f1_0, f1_1, and_true, true_and, or_true, true_or, implies_true, upn, reduceIte, Nat.reduceEqDiff, ne_eq, not_false_eq_true]) <;> (omega)) (by (try simp only [f1_0, f1_1, and_true, true_and, or_true, true_or, implies_true, upn, reduceIte, Nat.reduceEqDiff, ne_eq, not_false_eq_true]) <;> (omega))) ov_X9_productOf ml_X9_307 dX9_product_16 rfl ⟨by decide, by decide⟩ ob_48.1 (by decide) (by decide) rfl (Nat.le_of_ble_eq_true rfl) (fun r16 m16 p16 => ?_)
    obtain ⟨rfl, p16⟩ := p16
    try simp only [f1_0, f1_1, e6, and_true, true_and, or_true, true_or, implies_true, upn, reduceIte, Nat.reduceEqDiff, ne_eq, not_false_eq_true] at p16
    refine Z_istore3 hk rfl (by decide) dX9_product_19 ?_
    refine Z_iload3 hk dX9_product_20 ?_
    refine Z_iconst hk dX9_product_21 ?_
    have J34 : ∀ (m34 : Mem), ((-1 ≤ r16 ∧ r16 ≤ 5 ∧ (r16 = -1 ∨ r16 < (M 48 48)) ∧ (r16 = -1 → (m34 48 5) ≠ 0) ∧ (r16 ≠ -1 → (m34 48 5) = 0)) ∧ (∀ c : Nat, c ≠ 48 → m34 c = m1 c) ∧ (∀ i : Nat, i ≠ 5 → i ≠ 6 → m34 48 i = m1 48 i)) → Zj κ δ ad rs Q 4 (121, 0, 0) 34 [some (.ref (ad 48)), some (jv r1), none, some (iv r16)] [] m34 := by
      intro m34 h34
      obtain ⟨h34, f34_0, f34_1⟩ := h34
      try simp only [f34_0, f34_1, f1_0, f1_1, and_true, true_and, or_true, true_or, implies_true, upn, reduceIte, Nat.reduceEqDiff, ne_eq, not_false_eq_true] at h34
      refine Z_iload3 hk dX9_product_34 ?_
      refine Z_iconst hk dX9_product_35 ?_
      refine Z_icmp_ne hk (tgt := 43) dX9_product_36 (by decide) (by omega) (by omega) (by decide) (by decide) (fun h36 => ?_) (fun h36 => ?_)
      · refine Z_iload3 hk dX9_product_43 ?_
        exact Z_iret hk hA hQ dX9_product_44 ⟨rfl, rfl, _, rfl, (by exact ⟨(by (try simp only [f34_0, f34_1, f1_0, f1_1, and_true, true_and, or_true, true_or, implies_true, upn, reduceIte, Nat.reduceEqDiff, ne_eq, not_false_eq_true]) <;> (omega)), (by intro c k0; simp only [f34_0, f34_1, f1_0, f1_1, upc, upn, k0, reduceIte, Nat.reduceEqDiff, ne_eq, not_false_eq_true]), (by intro i k0 k1 k2 k3 k4; simp only [f34_0, f34_1, f1_0, f1_1, upc, upn, k0, k1, k2, k3, k4, reduceIte, Nat.reduceEqDiff, ne_eq, not_false_eq_true])⟩)⟩
      · refine Z_iconst hk dX9_product_39 ?_
        refine Z_goto hk (tgt := 44) dX9_product_40 (by decide) ?_
        exact Z_iret hk hA hQ dX9_product_44 ⟨rfl, rfl, _, rfl, (by exact ⟨(by (try simp only [f34_0, f34_1, f1_0, f1_1, and_true, true_and, or_true, true_or, implies_true, upn, reduceIte, Nat.reduceEqDiff, ne_eq, not_false_eq_true]) <;> (omega)), (by intro c k0; simp only [f34_0, f34_1, f1_0, f1_1, upc, upn, k0, reduceIte, Nat.reduceEqDiff, ne_eq, not_false_eq_true]), (by intro i k0 k1 k2 k3 k4; simp only [f34_0, f34_1, f1_0, f1_1, upc, upn, k0, k1, k2, k3, k4, reduceIte, Nat.reduceEqDiff, ne_eq, not_false_eq_true])⟩)⟩
    refine Z_icmp_ne hk (tgt := 34) dX9_product_22 (by decide) (by omega) (by omega) (by decide) (by decide) (fun h22 => ?_) (fun h22 => ?_)
    · exact J34 _ (by exact ⟨(by (try simp only [f1_0, f1_1, and_true, true_and, or_true, true_or, implies_true, upn, reduceIte, Nat.reduceEqDiff, ne_eq, not_false_eq_true]) <;> (omega)), (by intro c k0; simp only [f1_0, f1_1, upc, upn, k0, reduceIte, Nat.reduceEqDiff, ne_eq, not_false_eq_true]), (by intro i k0 k1; simp only [f1_0, f1_1, upc, upn, k0, k1, reduceIte, Nat.reduceEqDiff, ne_eq, not_false_eq_true])⟩)
    · refine Z_aload0 hk dX9_product_25 ?_
      refine Z_iconst hk dX9_product_26 ?_
      refine Z_aload0 hk dX9_product_27 ?_
      refine Z_getI hk fl_9_293 dX9_product_28 ob_48.1 ob_48.2.1 ob_48.2.2.1 ob_48.2.2.2 ft_9_41 (fun v28 e28 a28 b28 => ?_)
      try simp only [f1_0, f1_1, e6, and_true, true_and, or_true, true_or, implies_true, upn, reduceIte, Nat.reduceEqDiff, ne_eq, not_false_eq_true] at e28
      refine Z_Vv hk (c_X9_fail κ.2.1 δ ad _ hA 3 v28 (by (try simp only [f1_0, f1_1, and_true, true_and, or_true, true_or, implies_true, upn, reduceIte, Nat.reduceEqDiff, ne_eq, not_false_eq_true]) <;> (omega)) (by (try simp only [f1_0, f1_1, and_true, true_and, or_true, true_or, implies_true, upn, reduceIte, Nat.reduceEqDiff, ne_eq, not_false_eq_true]) <;> (omega))) ov_X9_fail ml_X9_275 dX9_product_31 rfl ⟨by decide, by decide⟩ ob_48.1 (by decide) (by decide) rfl (Nat.le_of_ble_eq_true rfl) (fun m31 p31 => ?_)
      obtain ⟨p31, f31_0, f31_1⟩ := p31
      try simp only [f31_0, f31_1, f1_0, f1_1, e6, e28, and_true, true_and, or_true, true_or, implies_true, upn, reduceIte, Nat.reduceEqDiff, ne_eq, not_false_eq_true] at p31
      exact J34 _ (by exact ⟨(by (try simp only [f31_0, f31_1, f1_0, f1_1, and_true, true_and, or_true, true_or, implies_true, upn, reduceIte, Nat.reduceEqDiff, ne_eq, not_false_eq_true]) <;> (omega)), (by intro c k0; simp only [f31_0, f31_1, f1_0, f1_1, upc, upn, k0, reduceIte, Nat.reduceEqDiff, ne_eq, not_false_eq_true]), (by intro i k0 k1; simp only [f31_0, f31_1, f1_0, f1_1, upc, upn, k0, k1, reduceIte, Nat.reduceEqDiff, ne_eq, not_false_eq_true])⟩)
  · refine Z_iconst hk dX9_product_12 ?_
    exact Z_iret hk hA hQ dX9_product_13 ⟨rfl, rfl, _, rfl, (by exact ⟨(by (try simp only [f1_0, f1_1, and_true, true_and, or_true, true_or, implies_true, upn, reduceIte, Nat.reduceEqDiff, ne_eq, not_false_eq_true]) <;> (omega)), (by intro c k0; simp only [f1_0, f1_1, upc, upn, k0, reduceIte, Nat.reduceEqDiff, ne_eq, not_false_eq_true]), (by intro i k0 k1 k2 k3 k4; simp only [f1_0, f1_1, upc, upn, k0, k1, k2, k3, k4, reduceIte, Nat.reduceEqDiff, ne_eq, not_false_eq_true])⟩)⟩
set_option maxRecDepth 10000 in
theorem c_X9_fresh (l : Launch) (δ : Dp) (ad : Nat → Nat) (M : Mem) (hA : okA δ ad) (q0 : 0 ≤ (M 48 2) ∧ (M 48 2) ≤ (M 48 3) ∧ (M 48 3) ≤ 700) (q1 : 0 ≤ (M 48 48) ∧ (M 48 48) ≤ 6) (q2 : 0 ≤ (M 48 61) ∧ (M 48 61) ≤ 8) : Mj l δ yX9_fresh cX9_fresh 5 (some (.long)) 4 86 ad rs [.ref (ad 48)] M (fun r M' => ((M 48 2) ≤ (M' 48 2) ∧ (M' 48 2) ≤ (M 48 3) ∧ 0 ≤ r ∧ r ≤ 387420488 ∧ ((M 48 5) ≠ 0 → (M' 48 5) = (M 48 5)) ∧ ((M' 48 5) = 0 → (M 48 5) = 0 ∧ (M 48 2) < (M' 48 2))) ∧ (∀ c : Nat, c ≠ 48 → M' c = M c) ∧ (∀ i : Nat, i ≠ 2 → i ≠ 4 → i ≠ 5 → i ≠ 6 → i ≠ 41 → M' 48 i = M 48 i)) := by
  refine Mg.of (rm := rmN 4 86) (by decide) (Nat.le_of_ble_eq_true rfl) fun κ _ hk _ => ?_
  generalize hQ : Qg κ δ 121 (rmN 4 86).cells (rmN 4 86).slots _ = Q
  show Zj κ δ ad rs Q 5 (121, 0, 0) 0 [some (.ref (ad 48)), none, none, none, none] [] M
  refine Z_aload0 hk dX9_fresh_0 ?_
  refine Z_Vj hk (c_X9_name κ.2.1 δ ad _ hA  (by (omega))) ov_X9_name ml_X9_303 dX9_fresh_1 rfl ⟨by decide, by decide⟩ ob_48.1 (by decide) (by decide) rfl (Nat.le_of_ble_eq_true rfl) (fun r1 m1 p1 => ?_)
  obtain ⟨p1, f1_0, f1_1⟩ := p1
  try simp only [f1_0, f1_1, and_true, true_and, or_true, true_or, implies_true, upn, reduceIte, Nat.reduceEqDiff, ne_eq, not_false_eq_true] at p1
  refine Z_lstore1 hk rfl (by decide) dX9_fresh_4 ?_
  refine Z_aload0 hk dX9_fresh_5 ?_
  refine Z_getI hk fl_9_245 dX9_fresh_6 ob_48.1 ob_48.2.1 ob_48.2.2.1 ob_48.2.2.2 ft_9_5 (fun v6 e6 a6 b6 => ?_)
  try simp only [f1_0, f1_1, and_true, true_and, or_true, true_or, implies_true, upn, reduceIte, Nat.reduceEqDiff, ne_eq, not_false_eq_true] at e6
  refine Z_if_eq hk (tgt := 14) dX9_fresh_9 (by decide) (by omega) (by omega) (fun h9 => ?_) (fun h9 => ?_)
  · refine Z_aload0 hk dX9_fresh_14 ?_
    refine Z_lload1 hk dX9_fresh_15 ?_
    refine Z_Vi hk (c_X9_productOf κ.2.1 δ ad _ hA r1 (by (try simp only [f1_0, f1_1, and_true, true_and, or_true, true_or, implies_true, upn, reduceIte, Nat.reduceEqDiff, ne_eq, not_false_eq_true]) <;> (omega)) (by (try simp only [f1_0, f1_1, and_true, true_and, or_true, true_or, implies_true, upn, reduceIte, Nat.reduceEqDiff, ne_eq, not_false_eq_true]) <;> (omega))) ov_X9_productOf ml_X9_307 dX9_fresh_16 rfl ⟨by decide, by decide⟩ ob_48.1 (by decide) (by decide) rfl (Nat.le_of_ble_eq_true rfl) (fun r16 m16 p16 => ?_)
    obtain ⟨rfl, p16⟩ := p16
    try simp only [f1_0, f1_1, e6, and_true, true_and, or_true, true_or, implies_true, upn, reduceIte, Nat.reduceEqDiff, ne_eq, not_false_eq_true] at p16
    refine Z_iconst hk dX9_fresh_19 ?_
    have J28 : ∀ (y0_28 : Int), (0 ≤ y0_28 ∧ y0_28 ≤ 1) → Zj κ δ ad rs Q 5 (121, 0, 0) 28 [some (.ref (ad 48)), some (jv r1), none, none, none] [iv y0_28] m1 := by
      intro y0_28 h28
      try simp only [f1_0, f1_1, and_true, true_and, or_true, true_or, implies_true, upn, reduceIte, Nat.reduceEqDiff, ne_eq, not_false_eq_true] at h28
      refine Z_istore3 hk rfl (by decide) dX9_fresh_28 ?_
      refine Z_iconst hk dX9_fresh_29 ?_
      have J32 : ∀ (n : Nat) (x3_32 : Int) (x4_32 : Int), (0 ≤ x4_32 ∧ x4_32 ≤ (M 48 61) ∧ 0 ≤ x3_32 ∧ x3_32 ≤ 1) → ((M 48 61) - x4_32) < (n : Int) → Zj κ δ ad rs Q 5 (121, 0, 0) 32 [some (.ref (ad 48)), some (jv r1), none, some (iv x3_32), some (iv x4_32)] [] m1 := by
        intro n
        induction n with
        | zero => intro x3_32 x4_32 h32 hm32; exfalso; (try simp only [f1_0, f1_1, and_true, true_and, or_true, true_or, implies_true, upn, reduceIte, Nat.reduceEqDiff, ne_eq, not_false_eq_true] at h32 hm32); omega
        | succ n ih32 =>
          intro x3_32 x4_32 h32 hm32
          try simp only [f1_0, f1_1, and_true, true_and, or_true, true_or, implies_true, upn, reduceIte, Nat.reduceEqDiff, ne_eq, not_false_eq_true] at h32 hm32
          refine Z_iload4 hk dX9_fresh_32 ?_
          refine Z_aload0 hk dX9_fresh_34 ?_
          refine Z_getI hk fl_9_311 dX9_fresh_35 ob_48.1 ob_48.2.1 ob_48.2.2.1 ob_48.2.2.2 ft_9_61 (fun v35 e35 a35 b35 => ?_)
          try simp only [f1_0, f1_1, e6, and_true, true_and, or_true, true_or, implies_true, upn, reduceIte, Nat.reduceEqDiff, ne_eq, not_false_eq_true] at e35
          refine Z_icmp_ge hk (tgt := 69) dX9_fresh_38 (by decide) (by omega) (by omega) (by omega) (by omega) (fun h38 => ?_) (fun h38 => ?_)
          · refine Z_iload3 hk dX9_fresh_69 ?_
            refine Z_if_eq hk (tgt := 82) dX9_fresh_70 (by decide) (by omega) (by omega) (fun h70 => ?_) (fun h70 => ?_)
            · refine Z_lload1 hk dX9_fresh_82 ?_
              exact Z_lret hk hA hQ dX9_fresh_83 ⟨rfl, rfl, _, rfl, (by exact ⟨(by (try simp only [f1_0, f1_1, and_true, true_and, or_true, true_or, implies_true, upn, reduceIte, Nat.reduceEqDiff, ne_eq, not_false_eq_true]) <;> (omega)), (by intro c k0; simp only [f1_0, f1_1, upc, upn, k0, reduceIte, Nat.reduceEqDiff, ne_eq, not_false_eq_true]), (by intro i k0 k1 k2 k3 k4; simp only [f1_0, f1_1, upc, upn, k0, k1, k2, k3, k4, reduceIte, Nat.reduceEqDiff, ne_eq, not_false_eq_true])⟩)⟩
            · refine Z_aload0 hk dX9_fresh_73 ?_
              refine Z_iconst hk dX9_fresh_74 ?_
              refine Z_aload0 hk dX9_fresh_75 ?_
              refine Z_getI hk fl_9_293 dX9_fresh_76 ob_48.1 ob_48.2.1 ob_48.2.2.1 ob_48.2.2.2 ft_9_41 (fun v76 e76 a76 b76 => ?_)
              try simp only [f1_0, f1_1, e6, e35, and_true, true_and, or_true, true_or, implies_true, upn, reduceIte, Nat.reduceEqDiff, ne_eq, not_false_eq_true] at e76
              refine Z_Vv hk (c_X9_fail κ.2.1 δ ad _ hA 3 v76 (by (try simp only [f1_0, f1_1, and_true, true_and, or_true, true_or, implies_true, upn, reduceIte, Nat.reduceEqDiff, ne_eq, not_false_eq_true]) <;> (omega)) (by (try simp only [f1_0, f1_1, and_true, true_and, or_true, true_or, implies_true, upn, reduceIte, Nat.reduceEqDiff, ne_eq, not_false_eq_true]) <;> (omega))) ov_X9_fail ml_X9_275 dX9_fresh_79 rfl ⟨by decide, by decide⟩ ob_48.1 (by decide) (by decide) rfl (Nat.le_of_ble_eq_true rfl) (fun m79 p79 => ?_)
              obtain ⟨p79, f79_0, f79_1⟩ := p79
              try simp only [f79_0, f79_1, f1_0, f1_1, e6, e35, e76, and_true, true_and, or_true, true_or, implies_true, upn, reduceIte, Nat.reduceEqDiff, ne_eq, not_false_eq_true] at p79
              refine Z_lload1 hk dX9_fresh_82 ?_
              exact Z_lret hk hA hQ dX9_fresh_83 ⟨rfl, rfl, _, rfl, (by exact ⟨(by (try simp only [f79_0, f79_1, f1_0, f1_1, and_true, true_and, or_true, true_or, implies_true, upn, reduceIte, Nat.reduceEqDiff, ne_eq, not_false_eq_true]) <;> (omega)), (by intro c k0; simp only [f79_0, f79_1, f1_0, f1_1, upc, upn, k0, reduceIte, Nat.reduceEqDiff, ne_eq, not_false_eq_true]), (by intro i k0 k1 k2 k3 k4; simp only [f79_0, f79_1, f1_0, f1_1, upc, upn, k0, k1, k2, k3, k4, reduceIte, Nat.reduceEqDiff, ne_eq, not_false_eq_true])⟩)⟩
          · refine Z_iload3 hk dX9_fresh_41 ?_
            have J62 : ∀ (y0_62 : Int), (0 ≤ y0_62 ∧ y0_62 ≤ 1) → Zj κ δ ad rs Q 5 (121, 0, 0) 62 [some (.ref (ad 48)), some (jv r1), none, some (iv x3_32), some (iv x4_32)] [iv y0_62] m1 := by
              intro y0_62 h62
              try simp only [f1_0, f1_1, and_true, true_and, or_true, true_or, implies_true, upn, reduceIte, Nat.reduceEqDiff, ne_eq, not_false_eq_true] at h62
              refine Z_istore3 hk rfl (by decide) dX9_fresh_62 ?_
              refine Z_iinc4 hk rfl (by decide) dX9_fresh_63 ?_
              refine Z_goto hk (tgt := 32) dX9_fresh_66 (by decide) ?_
              exact ih32 _ _ (by (try simp only [f1_0, f1_1, and_true, true_and, or_true, true_or, implies_true, upn, reduceIte, Nat.reduceEqDiff, ne_eq, not_false_eq_true]) <;> (omega)) (by (try simp only [f1_0, f1_1, and_true, true_and, or_true, true_or, implies_true, upn, reduceIte, Nat.reduceEqDiff, ne_eq, not_false_eq_true]) <;> (omega))
            have J57 : ∀ (_ : Unit), (True) → Zj κ δ ad rs Q 5 (121, 0, 0) 57 [some (.ref (ad 48)), some (jv r1), none, some (iv x3_32), some (iv x4_32)] [] m1 := by
              intro _ h57
              try simp only [f1_0, f1_1, and_true, true_and, or_true, true_or, implies_true, upn, reduceIte, Nat.reduceEqDiff, ne_eq, not_false_eq_true] at h57
              refine Z_iconst hk dX9_fresh_57 ?_
              refine Z_goto hk (tgt := 62) dX9_fresh_58 (by decide) ?_
              exact J62 _ (by (try simp only [f1_0, f1_1, and_true, true_and, or_true, true_or, implies_true, upn, reduceIte, Nat.reduceEqDiff, ne_eq, not_false_eq_true]) <;> (omega))
            refine Z_if_ne hk (tgt := 57) dX9_fresh_42 (by decide) (by omega) (by omega) (fun h42 => ?_) (fun h42 => ?_)
            · exact J57 () (by trivial)
            · refine Z_aload0 hk dX9_fresh_45 ?_
              refine Z_getR hk fl_9_146 dX9_fresh_46 ob_48.1 ob_48.2.1 ob_48.2.2.1 ob_48.2.2.2 ft_9_62 rs_48_62 ?_
              refine Z_iload4 hk dX9_fresh_49 ?_
              refine Z_lald hk dX9_fresh_51 ar_92.1 ar_92.2.1 ar_92.2.2 (by omega) (by omega) (fun v51 e51 a51 b51 => ?_)
              try simp only [f1_0, f1_1, e6, e35, and_true, true_and, or_true, true_or, implies_true, upn, reduceIte, Nat.reduceEqDiff, ne_eq, not_false_eq_true] at e51
              refine Z_lload1 hk dX9_fresh_52 ?_
              refine Z_lcmp hk dX9_fresh_53 (by omega) (by omega) (by omega) (by omega) (fun v53 e53 => ?_)
              refine Z_if_ne hk (tgt := 61) dX9_fresh_54 (by decide) (by omega) (by omega) (fun h54 => ?_) (fun h54 => ?_)
              · refine Z_iconst hk dX9_fresh_61 ?_
                exact J62 _ (by (try simp only [f1_0, f1_1, and_true, true_and, or_true, true_or, implies_true, upn, reduceIte, Nat.reduceEqDiff, ne_eq, not_false_eq_true]) <;> (omega))
              · exact J57 () (by trivial)
      refine Z_istore4 hk rfl (by decide) dX9_fresh_30 ?_
      exact J32 ((((M 48 61) - 0) : Int).toNat + 1) _ _ (by (try simp only [f1_0, f1_1, and_true, true_and, or_true, true_or, implies_true, upn, reduceIte, Nat.reduceEqDiff, ne_eq, not_false_eq_true]) <;> (omega)) (by omega)
    refine Z_icmp_eq hk (tgt := 27) dX9_fresh_20 (by decide) (by omega) (by omega) (by decide) (by decide) (fun h20 => ?_) (fun h20 => ?_)
    · refine Z_iconst hk dX9_fresh_27 ?_
      exact J28 _ (by (try simp only [f1_0, f1_1, and_true, true_and, or_true, true_or, implies_true, upn, reduceIte, Nat.reduceEqDiff, ne_eq, not_false_eq_true]) <;> (omega))
    · refine Z_iconst hk dX9_fresh_23 ?_
      refine Z_goto hk (tgt := 28) dX9_fresh_24 (by decide) ?_
      exact J28 _ (by (try simp only [f1_0, f1_1, and_true, true_and, or_true, true_or, implies_true, upn, reduceIte, Nat.reduceEqDiff, ne_eq, not_false_eq_true]) <;> (omega))
  · refine Z_lconst0 hk dX9_fresh_12 ?_
    exact Z_lret hk hA hQ dX9_fresh_13 ⟨rfl, rfl, _, rfl, (by exact ⟨(by (try simp only [f1_0, f1_1, and_true, true_and, or_true, true_or, implies_true, upn, reduceIte, Nat.reduceEqDiff, ne_eq, not_false_eq_true]) <;> (omega)), (by intro c k0; simp only [f1_0, f1_1, upc, upn, k0, reduceIte, Nat.reduceEqDiff, ne_eq, not_false_eq_true]), (by intro i k0 k1 k2 k3 k4; simp only [f1_0, f1_1, upc, upn, k0, k1, k2, k3, k4, reduceIte, Nat.reduceEqDiff, ne_eq, not_false_eq_true])⟩)⟩
