/-- what waits in a test: and, or, not, [ -/
def TI (M : Mem) : Prop := ∀ j : Nat, (j : Int) < M 48 45 → (M 83 j = 14 ∨ M 83 j = 15 ∨ M 83 j = 16 ∨ M 83 j = 25)
def HasSq (M : Mem) : Prop := ∃ j : Nat, (j : Int) < M 48 45 ∧ M 83 j = 25
theorem TI.wt {M : Mem} (h : TI M) : WTw M := fun j hj => by have := h j hj; omega
theorem TI.le {M M' : Mem} (h : TI M) (e3 : M' 83 = M 83) (W : M' 48 45 ≤ M 48 45) : TI M' := fun j hj => by rw [e3]; exact h j (by omega)
theorem TI.push {M M' : Mem} {v : Int} (h : TI M) (h0 : 0 ≤ M 48 45) (e3 : M' 83 = upr (M 83) (M 48 45).toNat v) (e4 : M' 48 45 = M 48 45 + 1) (hv : v = 14 ∨ v = 15 ∨ v = 16 ∨ v = 25) : TI M' := fun j hj => by
  rw [e3]
  by_cases ej : j = (M 48 45).toNat
  · rw [ej, upr_eq]; exact hv
  · rw [upr_ne ej]; exact h j (by omega)
theorem WTw.kep {M M' : Mem} (h : WTw M) (k : Kep M M') (e : M' 48 45 = M 48 45) : WTw M' := fun j hj => by rw [k j (by omega)]; exact h j (by omega)
theorem TI.kep {M M' : Mem} (h : TI M) (k : Kep M M') (e : M' 48 45 = M 48 45) : TI M' := fun j hj => by rw [k j (by omega)]; exact h j (by omega)
theorem bn_to {c : Int} (h : c = 14 ∨ c = 15 ∨ c = 16) : bn c = 1 ∨ c = 16 := by
  rcases h with rfl | rfl | rfl
  · left; decide
  · left; decide
  · right; rfl
set_option maxRecDepth 10000 in
theorem c_X9_fact (l : Launch) (δ : Dp) (ad : Nat → Nat) (M : Mem) (hA : okA δ ad) (a : GA) (s : Int) (q0 : 0 ≤ (M 48 2) ∧ (M 48 2) ≤ (M 48 3) ∧ (M 48 3) ≤ 700) (q1 : (M 48 5) = 0) (q2 : 0 ≤ (M 48 45) ∧ (M 48 45) ≤ 800) (q3 : 0 ≤ (M 48 43) ∧ (M 48 43) + (M 48 45) ≤ (M 48 2)) (q4 : -((M 48 2) + (M 48 43)) ≤ (M 48 46) ∧ (M 48 46) ≤ 6) (q5 : 0 ≤ (M 48 50) ∧ (M 48 50) ≤ 4) (q6 : 0 ≤ (M 48 48) ∧ (M 48 48) ≤ 6) (q7 : RP M a s) (q8 : 0 ≤ s) (q9 : WTw M) : Mv l δ yX9_fact cX9_fact 2 none 7 155 ad rs [.ref (ad 48)] M (fun M' => ((M 48 2) ≤ (M' 48 2) ∧ (M' 48 2) ≤ (M 48 3) ∧ (M 48 43) ≤ (M' 48 43) ∧ (M 48 45) ≤ (M' 48 45) ∧ (M 48 2) - (M 48 43) - (M 48 45) - 1 ≤ (M' 48 2) - (M' 48 43) - (M' 48 45) ∧ -((M' 48 2) + (M' 48 43)) ≤ (M' 48 46) ∧ (M' 48 46) ≤ 6 ∧ (M' 48 79) = (M 48 79) ∧ ((M' 48 5) = 0 → (M 48 2) - (M 48 43) - (M 48 45) ≤ (M' 48 2) - (M' 48 43) - (M' 48 45) ∧ (M 48 2) < (M' 48 2) ∧ (M' 48 45) = (M 48 45))) ∧ (∀ c : Nat, c ≠ 48 → c ≠ 82 → c ≠ 83 → M' c = M c) ∧ (∀ i : Nat, i ≠ 2 → i ≠ 4 → i ≠ 5 → i ≠ 6 → i ≠ 41 → i ≠ 43 → i ≠ 45 → i ≠ 46 → i ≠ 79 → M' 48 i = M 48 i) ∧ (Imp ((M' 48 5) = 0) (RP M' a (s + 1))) ∧ (Kep M M')) := by
  refine Mg.of (rm := rmN 7 155) (by decide) (Nat.le_of_ble_eq_true rfl) fun κ _ hk _ => ?_
  generalize hQ : Qg κ δ 121 (rmN 7 155).cells (rmN 7 155).slots _ = Q
  show Zj κ δ ad rs Q 2 (121, 0, 0) 0 [some (.ref (ad 48)), none] [] M
  refine Z_aload0 hk dX9_fact_0 ?_
  refine Z_aload0 hk dX9_fact_1 ?_
  refine Z_getR hk fl_9_111 dX9_fact_2 ob_48.1 ob_48.2.1 ob_48.2.2.1 ob_48.2.2.2 ft_9_40 rs_48_40 ?_
  refine Z_Vi hk (c_X9_takes κ.2.1 δ ad _ hA 81 7 ar_81 (by (omega))) ov_X9_takes ml_X9_272 dX9_fact_5 rfl ⟨by decide, by decide⟩ ob_48.1 (by decide) (by decide) rfl (Nat.le_of_ble_eq_true rfl) (fun r5 m5 p5 => ?_)
  obtain ⟨p5, f5_0, f5_1⟩ := p5
  try simp only [f5_0, f5_1, and_true, true_and, or_true, true_or, implies_true, upn, reduceIte, Nat.reduceEqDiff, ne_eq, not_false_eq_true] at p5
  refine Z_if_eq hk (tgt := 31) dX9_fact_8 (by decide) (by omega) (by omega) (fun h8 => ?_) (fun h8 => ?_)
  · refine Z_aload0 hk dX9_fact_31 ?_
    refine Z_Vv hk (c_X9_sum κ.2.1 δ ad _ hA a s (by (try simp only [f5_0, f5_1, and_true, true_and, or_true, true_or, implies_true, upn, reduceIte, Nat.reduceEqDiff, ne_eq, not_false_eq_true]) <;> (omega)) (by (try simp only [f5_0, f5_1, and_true, true_and, or_true, true_or, implies_true, upn, reduceIte, Nat.reduceEqDiff, ne_eq, not_false_eq_true]) <;> (omega)) (by (try simp only [f5_0, f5_1, and_true, true_and, or_true, true_or, implies_true, upn, reduceIte, Nat.reduceEqDiff, ne_eq, not_false_eq_true]) <;> (omega)) (by (try simp only [f5_0, f5_1, and_true, true_and, or_true, true_or, implies_true, upn, reduceIte, Nat.reduceEqDiff, ne_eq, not_false_eq_true]) <;> (omega)) (by (try simp only [f5_0, f5_1, and_true, true_and, or_true, true_or, implies_true, upn, reduceIte, Nat.reduceEqDiff, ne_eq, not_false_eq_true]) <;> (omega)) (by (try simp only [f5_0, f5_1, and_true, true_and, or_true, true_or, implies_true, upn, reduceIte, Nat.reduceEqDiff, ne_eq, not_false_eq_true]) <;> (omega)) (by (try simp only [f5_0, f5_1, and_true, true_and, or_true, true_or, implies_true, upn, reduceIte, Nat.reduceEqDiff, ne_eq, not_false_eq_true]) <;> (omega)) (by (exact RP.same q7 (by simp only [f5_0, f5_1, and_true, true_and, or_true, true_or, implies_true, upn, reduceIte, Nat.reduceEqDiff, ne_eq, not_false_eq_true, upc]) (by simp only [f5_0, f5_1, and_true, true_and, or_true, true_or, implies_true, upn, reduceIte, Nat.reduceEqDiff, ne_eq, not_false_eq_true, upc]) (by simp only [f5_0, f5_1, and_true, true_and, or_true, true_or, implies_true, upn, reduceIte, Nat.reduceEqDiff, ne_eq, not_false_eq_true, upc]) (by simp only [f5_0, f5_1, and_true, true_and, or_true, true_or, implies_true, upn, reduceIte, Nat.reduceEqDiff, ne_eq, not_false_eq_true, upc]))) (by (try simp only [f5_0, f5_1, and_true, true_and, or_true, true_or, implies_true, upn, reduceIte, Nat.reduceEqDiff, ne_eq, not_false_eq_true]) <;> (omega)) (by (exact WTw.kep q9 (Kep.same (Kep.rf M) (by simp only [f5_0, f5_1, and_true, true_and, or_true, true_or, implies_true, upn, reduceIte, Nat.reduceEqDiff, ne_eq, not_false_eq_true, upc])) (by simp only [f5_0, f5_1, and_true, true_and, or_true, true_or, implies_true, upn, reduceIte, Nat.reduceEqDiff, ne_eq, not_false_eq_true, upc])))) ov_X9_sum ml_X9_371 dX9_fact_32 rfl ⟨by decide, by decide⟩ ob_48.1 (by decide) (by decide) rfl (Nat.le_of_ble_eq_true rfl) (fun m32 p32 => ?_)
    obtain ⟨p32, f32_0, f32_1, f32_2, f32_3⟩ := p32
    try simp only [f32_0, f32_1, f32_2, f32_3, f5_0, f5_1, and_true, true_and, or_true, true_or, implies_true, upn, reduceIte, Nat.reduceEqDiff, ne_eq, not_false_eq_true] at p32
    have kk : Kep M m32 := Kep.trans (Kep.same (M1 := M) (M' := m5) (Kep.rf M) (by simp only [f32_0, f32_1, f32_2, f32_3, f5_0, f5_1, and_true, true_and, or_true, true_or, implies_true, upn, reduceIte, Nat.reduceEqDiff, ne_eq, not_false_eq_true, upc])) f32_3 (by (try simp only [f32_0, f32_1, f32_2, f32_3, f5_0, f5_1, and_true, true_and, or_true, true_or, implies_true, upn, reduceIte, Nat.reduceEqDiff, ne_eq, not_false_eq_true, upc]) <;> omega)
    refine Z_aload0 hk dX9_fact_35 ?_
    refine Z_getI hk fl_9_245 dX9_fact_36 ob_48.1 ob_48.2.1 ob_48.2.2.1 ob_48.2.2.2 ft_9_5 (fun v36 e36 a36 b36 => ?_)
    try simp only [f32_0, f32_1, f32_2, f32_3, f5_0, f5_1, and_true, true_and, or_true, true_or, implies_true, upn, reduceIte, Nat.reduceEqDiff, ne_eq, not_false_eq_true] at e36
    refine Z_if_eq hk (tgt := 43) dX9_fact_39 (by decide) (by omega) (by omega) (fun h39 => ?_) (fun h39 => ?_)
    · refine Z_aload0 hk dX9_fact_43 ?_
      refine Z_Vi hk (c_X9_look κ.2.1 δ ad _ hA  (by (try simp only [f32_0, f32_1, f32_2, f32_3, f5_0, f5_1, and_true, true_and, or_true, true_or, implies_true, upn, reduceIte, Nat.reduceEqDiff, ne_eq, not_false_eq_true]) <;> (omega))) ov_X9_look ml_X9_257 dX9_fact_44 rfl ⟨by decide, by decide⟩ ob_48.1 (by decide) (by decide) rfl (Nat.le_of_ble_eq_true rfl) (fun r44 m44 p44 => ?_)
      obtain ⟨p44, f44_0, f44_1⟩ := p44
      try simp only [f44_0, f44_1, f32_0, f32_1, f32_2, f32_3, f5_0, f5_1, e36, and_true, true_and, or_true, true_or, implies_true, upn, reduceIte, Nat.reduceEqDiff, ne_eq, not_false_eq_true] at p44
      refine Z_istore1 hk rfl (by decide) dX9_fact_47 ?_
      refine Z_iload1 hk dX9_fact_48 ?_
      refine Z_bipush hk dX9_fact_49 (by decide) ?_
      have J76 : ∀ (_ : Unit), (r44 = 60 ∨ r44 = 62 ∨ r44 = 61) → Zj κ δ ad rs Q 2 (121, 0, 0) 76 [some (.ref (ad 48)), some (iv r44)] [] m44 := by
        intro _ h76
        try simp only [f44_0, f44_1, f32_0, f32_1, f32_2, f32_3, f5_0, f5_1, and_true, true_and, or_true, true_or, implies_true, upn, reduceIte, Nat.reduceEqDiff, ne_eq, not_false_eq_true] at h76
        refine Z_aload0 hk dX9_fact_76 ?_
        refine Z_dup1 hk rfl dX9_fact_77 ?_
        refine Z_getI hk fl_9_251 dX9_fact_78 ob_48.1 ob_48.2.1 ob_48.2.2.1 ob_48.2.2.2 ft_9_2 (fun v78 e78 a78 b78 => ?_)
        try simp only [f44_0, f44_1, f32_0, f32_1, f32_2, f32_3, f5_0, f5_1, e36, and_true, true_and, or_true, true_or, implies_true, upn, reduceIte, Nat.reduceEqDiff, ne_eq, not_false_eq_true] at e78
        refine Z_iconst hk dX9_fact_81 ?_
        refine Z_iadd hk dX9_fact_82 ?_
        refine Z_putI hk hA fl_9_251 dX9_fact_83 ob_48.1 ob_48.2.1 ob_48.2.2.1 ob_48.2.2.2 ft_9_2 (by omega) (by omega) ?_
        refine Z_nm (fun m83 em83 => ?_)
        have k83 : Kep M m83 := Kep.same kk (by simp only [em83, f44_0, f44_1, f32_0, f32_1, f32_2, f32_3, f5_0, f5_1, e36, e78, and_true, true_and, or_true, true_or, implies_true, upn, reduceIte, Nat.reduceEqDiff, ne_eq, not_false_eq_true, upc])
        have r83 : RP m83 a (s + 1) := RP.same (f32_2 (by (try simp only [em83, f44_0, f44_1, f32_0, f32_1, f32_2, f32_3, f5_0, f5_1, e36, e78, and_true, true_and, or_true, true_or, implies_true, upn, reduceIte, Nat.reduceEqDiff, ne_eq, not_false_eq_true, upc]) <;> omega)) (by simp only [em83, f44_0, f44_1, f32_0, f32_1, f32_2, f32_3, f5_0, f5_1, e36, e78, and_true, true_and, or_true, true_or, implies_true, upn, reduceIte, Nat.reduceEqDiff, ne_eq, not_false_eq_true, upc]) (by simp only [em83, f44_0, f44_1, f32_0, f32_1, f32_2, f32_3, f5_0, f5_1, e36, e78, and_true, true_and, or_true, true_or, implies_true, upn, reduceIte, Nat.reduceEqDiff, ne_eq, not_false_eq_true, upc]) (by simp only [em83, f44_0, f44_1, f32_0, f32_1, f32_2, f32_3, f5_0, f5_1, e36, e78, and_true, true_and, or_true, true_or, implies_true, upn, reduceIte, Nat.reduceEqDiff, ne_eq, not_false_eq_true, upc]) (by simp only [em83, f44_0, f44_1, f32_0, f32_1, f32_2, f32_3, f5_0, f5_1, e36, e78, and_true, true_and, or_true, true_or, implies_true, upn, reduceIte, Nat.reduceEqDiff, ne_eq, not_false_eq_true, upc])
        have w83 : WTw m83 := WTw.kep q9 k83 (by (try simp only [em83, f44_0, f44_1, f32_0, f32_1, f32_2, f32_3, f5_0, f5_1, e36, e78, and_true, true_and, or_true, true_or, implies_true, upn, reduceIte, Nat.reduceEqDiff, ne_eq, not_false_eq_true, upc]) <;> omega)
        refine Z_aload0 hk dX9_fact_86 ?_
        refine Z_Vv hk (c_X9_sum κ.2.1 δ ad _ hA a (s + 1) (by (try simp only [em83, f44_0, f44_1, f32_0, f32_1, f32_2, f32_3, f5_0, f5_1, and_true, true_and, or_true, true_or, implies_true, upn, reduceIte, Nat.reduceEqDiff, ne_eq, not_false_eq_true]) <;> (omega)) (by (try simp only [em83, f44_0, f44_1, f32_0, f32_1, f32_2, f32_3, f5_0, f5_1, and_true, true_and, or_true, true_or, implies_true, upn, reduceIte, Nat.reduceEqDiff, ne_eq, not_false_eq_true]) <;> (omega)) (by (try simp only [em83, f44_0, f44_1, f32_0, f32_1, f32_2, f32_3, f5_0, f5_1, and_true, true_and, or_true, true_or, implies_true, upn, reduceIte, Nat.reduceEqDiff, ne_eq, not_false_eq_true]) <;> (omega)) (by (try simp only [em83, f44_0, f44_1, f32_0, f32_1, f32_2, f32_3, f5_0, f5_1, and_true, true_and, or_true, true_or, implies_true, upn, reduceIte, Nat.reduceEqDiff, ne_eq, not_false_eq_true]) <;> (omega)) (by (try simp only [em83, f44_0, f44_1, f32_0, f32_1, f32_2, f32_3, f5_0, f5_1, and_true, true_and, or_true, true_or, implies_true, upn, reduceIte, Nat.reduceEqDiff, ne_eq, not_false_eq_true]) <;> (omega)) (by (try simp only [em83, f44_0, f44_1, f32_0, f32_1, f32_2, f32_3, f5_0, f5_1, and_true, true_and, or_true, true_or, implies_true, upn, reduceIte, Nat.reduceEqDiff, ne_eq, not_false_eq_true]) <;> (omega)) (by (try simp only [em83, f44_0, f44_1, f32_0, f32_1, f32_2, f32_3, f5_0, f5_1, and_true, true_and, or_true, true_or, implies_true, upn, reduceIte, Nat.reduceEqDiff, ne_eq, not_false_eq_true]) <;> (omega)) (by (exact r83)) (by (try simp only [em83, f44_0, f44_1, f32_0, f32_1, f32_2, f32_3, f5_0, f5_1, and_true, true_and, or_true, true_or, implies_true, upn, reduceIte, Nat.reduceEqDiff, ne_eq, not_false_eq_true]) <;> (omega)) (by (exact w83))) ov_X9_sum ml_X9_371 dX9_fact_87 rfl ⟨by decide, by decide⟩ ob_48.1 (by decide) (by decide) rfl (Nat.le_of_ble_eq_true rfl) (fun m87 p87 => ?_)
        obtain ⟨p87, f87_0, f87_1, f87_2, f87_3⟩ := p87
        try simp only [f87_0, f87_1, f87_2, f87_3, em83, f44_0, f44_1, f32_0, f32_1, f32_2, f32_3, f5_0, f5_1, e36, e78, and_true, true_and, or_true, true_or, implies_true, upn, reduceIte, Nat.reduceEqDiff, ne_eq, not_false_eq_true] at p87
        refine Z_aload0 hk dX9_fact_90 ?_
        refine Z_iload1 hk dX9_fact_91 ?_
        refine Z_bipush hk dX9_fact_92 (by decide) ?_
        have J115 : ∀ (y1_115 : Int), (y1_115 = 11 ∨ y1_115 = 12 ∨ y1_115 = 13) → Zj κ δ ad rs Q 2 (121, 0, 0) 115 [some (.ref (ad 48)), some (iv r44)] [iv y1_115, .ref (ad 48)] m87 := by
          intro y1_115 h115
          try simp only [f87_0, f87_1, f87_2, f87_3, em83, f44_0, f44_1, f32_0, f32_1, f32_2, f32_3, f5_0, f5_1, and_true, true_and, or_true, true_or, implies_true, upn, reduceIte, Nat.reduceEqDiff, ne_eq, not_false_eq_true] at h115
          refine Z_Vv hk (c_X9_puts κ.2.1 δ ad _ hA y1_115 (by (try simp only [f87_0, f87_1, f87_2, f87_3, em83, f44_0, f44_1, f32_0, f32_1, f32_2, f32_3, f5_0, f5_1, and_true, true_and, or_true, true_or, implies_true, upn, reduceIte, Nat.reduceEqDiff, ne_eq, not_false_eq_true]) <;> (omega)) (by (try simp only [f87_0, f87_1, f87_2, f87_3, em83, f44_0, f44_1, f32_0, f32_1, f32_2, f32_3, f5_0, f5_1, and_true, true_and, or_true, true_or, implies_true, upn, reduceIte, Nat.reduceEqDiff, ne_eq, not_false_eq_true]) <;> (omega))) ov_X9_puts ml_X9_323 dX9_fact_115 rfl ⟨by decide, by decide⟩ ob_48.1 (by decide) (by decide) rfl (Nat.le_of_ble_eq_true rfl) (fun m115 p115 => ?_)
          obtain ⟨p115, f115_0, f115_1, f115_2⟩ := p115
          try simp only [f115_0, f115_1, f115_2, f87_0, f87_1, f87_2, f87_3, em83, f44_0, f44_1, f32_0, f32_1, f32_2, f32_3, f5_0, f5_1, e36, e78, and_true, true_and, or_true, true_or, implies_true, upn, reduceIte, Nat.reduceEqDiff, ne_eq, not_false_eq_true] at p115
          have k115 : Kep M m115 := Kep.same (Kep.trans k83 f87_3 (by (try simp only [f115_0, f115_1, f115_2, f87_0, f87_1, f87_2, f87_3, em83, f44_0, f44_1, f32_0, f32_1, f32_2, f32_3, f5_0, f5_1, e36, e78, and_true, true_and, or_true, true_or, implies_true, upn, reduceIte, Nat.reduceEqDiff, ne_eq, not_false_eq_true, upc]) <;> omega)) (by simp only [f115_0, f115_1, f115_2, f87_0, f87_1, f87_2, f87_3, em83, f44_0, f44_1, f32_0, f32_1, f32_2, f32_3, f5_0, f5_1, e36, e78, and_true, true_and, or_true, true_or, implies_true, upn, reduceIte, Nat.reduceEqDiff, ne_eq, not_false_eq_true, upc])
          have hx : m115 48 5 = 0 → RP m115 a (s + 1) := fun hb => by (try simp only [f115_0, f115_1, f115_2, f87_0, f87_1, f87_2, f87_3, em83, f44_0, f44_1, f32_0, f32_1, f32_2, f32_3, f5_0, f5_1, e36, e78, and_true, true_and, or_true, true_or, implies_true, upn, reduceIte, Nat.reduceEqDiff, ne_eq, not_false_eq_true, upc] at hb); rw [show s + 1 = s + 1 + 1 + ef y1_115 from by rcases h115 with q | q | q <;> rw [q] <;> simp only [ef] <;> omega]; exact RP.code (f87_2 hb) (by (try simp only [f115_0, f115_1, f115_2, f87_0, f87_1, f87_2, f87_3, em83, f44_0, f44_1, f32_0, f32_1, f32_2, f32_3, f5_0, f5_1, e36, e78, and_true, true_and, or_true, true_or, implies_true, upn, reduceIte, Nat.reduceEqDiff, ne_eq, not_false_eq_true, upc]) <;> omega) f115_2 (by simp only [f115_0, f115_1, f115_2, f87_0, f87_1, f87_2, f87_3, em83, f44_0, f44_1, f32_0, f32_1, f32_2, f32_3, f5_0, f5_1, e36, e78, and_true, true_and, or_true, true_or, implies_true, upn, reduceIte, Nat.reduceEqDiff, ne_eq, not_false_eq_true, upc]) (by simp only [f115_0, f115_1, f115_2, f87_0, f87_1, f87_2, f87_3, em83, f44_0, f44_1, f32_0, f32_1, f32_2, f32_3, f5_0, f5_1, e36, e78, and_true, true_and, or_true, true_or, implies_true, upn, reduceIte, Nat.reduceEqDiff, ne_eq, not_false_eq_true, upc]) (by unfold okc; omega) (fun _ _ => by omega) (fun z => by omega)
          exact Z_vret hk hA hQ dX9_fact_118 ⟨rfl, rfl, rfl, (by exact ⟨(by (try simp only [f115_0, f115_1, f115_2, f87_0, f87_1, f87_2, f87_3, em83, f44_0, f44_1, f32_0, f32_1, f32_2, f32_3, f5_0, f5_1, and_true, true_and, or_true, true_or, implies_true, upn, reduceIte, Nat.reduceEqDiff, ne_eq, not_false_eq_true]) <;> (omega)), (by intro c k0 k1 k2; simp only [f115_0, f115_1, f115_2, f87_0, f87_1, f87_2, f87_3, em83, f44_0, f44_1, f32_0, f32_1, f32_2, f32_3, f5_0, f5_1, upc, upn, k0, k1, k2, reduceIte, Nat.reduceEqDiff, ne_eq, not_false_eq_true]), (by intro i k0 k1 k2 k3 k4 k5 k6 k7 k8; simp only [f115_0, f115_1, f115_2, f87_0, f87_1, f87_2, f87_3, em83, f44_0, f44_1, f32_0, f32_1, f32_2, f32_3, f5_0, f5_1, upc, upn, k0, k1, k2, k3, k4, k5, k6, k7, k8, reduceIte, Nat.reduceEqDiff, ne_eq, not_false_eq_true]), (by exact hx), (by first | exact k115 | exact kk)⟩)⟩
        refine Z_icmp_ne hk (tgt := 102) dX9_fact_94 (by decide) (by omega) (by omega) (by decide) (by decide) (fun h94 => ?_) (fun h94 => ?_)
        · refine Z_iload1 hk dX9_fact_102 ?_
          refine Z_bipush hk dX9_fact_103 (by decide) ?_
          refine Z_icmp_ne hk (tgt := 113) dX9_fact_105 (by decide) (by omega) (by omega) (by decide) (by decide) (fun h105 => ?_) (fun h105 => ?_)
          · refine Z_bipush hk dX9_fact_113 (by decide) ?_
            exact J115 _ (by (try simp only [f87_0, f87_1, f87_2, f87_3, em83, f44_0, f44_1, f32_0, f32_1, f32_2, f32_3, f5_0, f5_1, and_true, true_and, or_true, true_or, implies_true, upn, reduceIte, Nat.reduceEqDiff, ne_eq, not_false_eq_true]) <;> (omega))
          · refine Z_bipush hk dX9_fact_108 (by decide) ?_
            refine Z_goto hk (tgt := 115) dX9_fact_110 (by decide) ?_
            exact J115 _ (by (try simp only [f87_0, f87_1, f87_2, f87_3, em83, f44_0, f44_1, f32_0, f32_1, f32_2, f32_3, f5_0, f5_1, and_true, true_and, or_true, true_or, implies_true, upn, reduceIte, Nat.reduceEqDiff, ne_eq, not_false_eq_true]) <;> (omega))
        · refine Z_bipush hk dX9_fact_97 (by decide) ?_
          refine Z_goto hk (tgt := 115) dX9_fact_99 (by decide) ?_
          exact J115 _ (by (try simp only [f87_0, f87_1, f87_2, f87_3, em83, f44_0, f44_1, f32_0, f32_1, f32_2, f32_3, f5_0, f5_1, and_true, true_and, or_true, true_or, implies_true, upn, reduceIte, Nat.reduceEqDiff, ne_eq, not_false_eq_true]) <;> (omega))
      refine Z_icmp_eq hk (tgt := 76) dX9_fact_51 (by decide) (by omega) (by omega) (by decide) (by decide) (fun h51 => ?_) (fun h51 => ?_)
      · exact J76 () (by (try simp only [f44_0, f44_1, f32_0, f32_1, f32_2, f32_3, f5_0, f5_1, and_true, true_and, or_true, true_or, implies_true, upn, reduceIte, Nat.reduceEqDiff, ne_eq, not_false_eq_true]) <;> (omega))
      · refine Z_iload1 hk dX9_fact_54 ?_
        refine Z_bipush hk dX9_fact_55 (by decide) ?_
        refine Z_icmp_eq hk (tgt := 76) dX9_fact_57 (by decide) (by omega) (by omega) (by decide) (by decide) (fun h57 => ?_) (fun h57 => ?_)
        · exact J76 () (by (try simp only [f44_0, f44_1, f32_0, f32_1, f32_2, f32_3, f5_0, f5_1, and_true, true_and, or_true, true_or, implies_true, upn, reduceIte, Nat.reduceEqDiff, ne_eq, not_false_eq_true]) <;> (omega))
        · refine Z_iload1 hk dX9_fact_60 ?_
          refine Z_bipush hk dX9_fact_61 (by decide) ?_
          refine Z_icmp_eq hk (tgt := 76) dX9_fact_63 (by decide) (by omega) (by omega) (by decide) (by decide) (fun h63 => ?_) (fun h63 => ?_)
          · exact J76 () (by (try simp only [f44_0, f44_1, f32_0, f32_1, f32_2, f32_3, f5_0, f5_1, and_true, true_and, or_true, true_or, implies_true, upn, reduceIte, Nat.reduceEqDiff, ne_eq, not_false_eq_true]) <;> (omega))
          · refine Z_aload0 hk dX9_fact_66 ?_
            refine Z_iconst hk dX9_fact_67 ?_
            refine Z_aload0 hk dX9_fact_68 ?_
            refine Z_getI hk fl_9_251 dX9_fact_69 ob_48.1 ob_48.2.1 ob_48.2.2.1 ob_48.2.2.2 ft_9_2 (fun v69 e69 a69 b69 => ?_)
            try simp only [f44_0, f44_1, f32_0, f32_1, f32_2, f32_3, f5_0, f5_1, e36, and_true, true_and, or_true, true_or, implies_true, upn, reduceIte, Nat.reduceEqDiff, ne_eq, not_false_eq_true] at e69
            refine Z_Vv hk (c_X9_fail κ.2.1 δ ad _ hA 1 v69 (by (try simp only [f44_0, f44_1, f32_0, f32_1, f32_2, f32_3, f5_0, f5_1, and_true, true_and, or_true, true_or, implies_true, upn, reduceIte, Nat.reduceEqDiff, ne_eq, not_false_eq_true]) <;> (omega)) (by (try simp only [f44_0, f44_1, f32_0, f32_1, f32_2, f32_3, f5_0, f5_1, and_true, true_and, or_true, true_or, implies_true, upn, reduceIte, Nat.reduceEqDiff, ne_eq, not_false_eq_true]) <;> (omega))) ov_X9_fail ml_X9_275 dX9_fact_72 rfl ⟨by decide, by decide⟩ ob_48.1 (by decide) (by decide) rfl (Nat.le_of_ble_eq_true rfl) (fun m72 p72 => ?_)
            obtain ⟨p72, f72_0, f72_1⟩ := p72
            try simp only [f72_0, f72_1, f44_0, f44_1, f32_0, f32_1, f32_2, f32_3, f5_0, f5_1, e36, e69, and_true, true_and, or_true, true_or, implies_true, upn, reduceIte, Nat.reduceEqDiff, ne_eq, not_false_eq_true] at p72
            have kk := Kep.same (M' := m72) kk (by simp only [f72_0, f72_1, f44_0, f44_1, f32_0, f32_1, f32_2, f32_3, f5_0, f5_1, e36, e69, and_true, true_and, or_true, true_or, implies_true, upn, reduceIte, Nat.reduceEqDiff, ne_eq, not_false_eq_true, upc])
            exact Z_vret hk hA hQ dX9_fact_75 ⟨rfl, rfl, rfl, (by exact ⟨(by (try simp only [f72_0, f72_1, f44_0, f44_1, f32_0, f32_1, f32_2, f32_3, f5_0, f5_1, and_true, true_and, or_true, true_or, implies_true, upn, reduceIte, Nat.reduceEqDiff, ne_eq, not_false_eq_true]) <;> (omega)), (by intro c k0 k1 k2; simp only [f72_0, f72_1, f44_0, f44_1, f32_0, f32_1, f32_2, f32_3, f5_0, f5_1, upc, upn, k0, k1, k2, reduceIte, Nat.reduceEqDiff, ne_eq, not_false_eq_true]), (by intro i k0 k1 k2 k3 k4 k5 k6 k7 k8; simp only [f72_0, f72_1, f44_0, f44_1, f32_0, f32_1, f32_2, f32_3, f5_0, f5_1, upc, upn, k0, k1, k2, k3, k4, k5, k6, k7, k8, reduceIte, Nat.reduceEqDiff, ne_eq, not_false_eq_true]), (by intro hb; (try simp only [f72_0, f72_1, f44_0, f44_1, f32_0, f32_1, f32_2, f32_3, f5_0, f5_1, e36, e69, and_true, true_and, or_true, true_or, implies_true, upn, reduceIte, Nat.reduceEqDiff, ne_eq, not_false_eq_true, upc] at hb); omega), (by first | exact k115 | exact kk)⟩)⟩
    · exact Z_vret hk hA hQ dX9_fact_42 ⟨rfl, rfl, rfl, (by exact ⟨(by (try simp only [f32_0, f32_1, f32_2, f32_3, f5_0, f5_1, and_true, true_and, or_true, true_or, implies_true, upn, reduceIte, Nat.reduceEqDiff, ne_eq, not_false_eq_true]) <;> (omega)), (by intro c k0 k1 k2; simp only [f32_0, f32_1, f32_2, f32_3, f5_0, f5_1, upc, upn, k0, k1, k2, reduceIte, Nat.reduceEqDiff, ne_eq, not_false_eq_true]), (by intro i k0 k1 k2 k3 k4 k5 k6 k7 k8; simp only [f32_0, f32_1, f32_2, f32_3, f5_0, f5_1, upc, upn, k0, k1, k2, k3, k4, k5, k6, k7, k8, reduceIte, Nat.reduceEqDiff, ne_eq, not_false_eq_true]), (by intro hb; (try simp only [f32_0, f32_1, f32_2, f32_3, f5_0, f5_1, e36, and_true, true_and, or_true, true_or, implies_true, upn, reduceIte, Nat.reduceEqDiff, ne_eq, not_false_eq_true, upc] at hb); omega), (by first | exact k115 | exact kk)⟩)⟩
  · refine Z_aload0 hk dX9_fact_11 ?_
    refine Z_sipush hk dX9_fact_12 (by decide) ?_
    refine Z_aload0 hk dX9_fact_15 ?_
    refine Z_iconst hk dX9_fact_16 ?_
    refine Z_aload0 hk dX9_fact_17 ?_
    refine Z_getI hk fl_9_346 dX9_fact_18 ob_48.1 ob_48.2.1 ob_48.2.2.1 ob_48.2.2.2 ft_9_50 (fun v18 e18 a18 b18 => ?_)
    try simp only [f5_0, f5_1, and_true, true_and, or_true, true_or, implies_true, upn, reduceIte, Nat.reduceEqDiff, ne_eq, not_false_eq_true] at e18
    refine Z_iconst hk dX9_fact_21 ?_
    refine Z_isub hk dX9_fact_22 ?_
    refine Z_Vi hk (c_X9_number κ.2.1 δ ad _ hA 0 (v18 - 1) (by (try simp only [f5_0, f5_1, and_true, true_and, or_true, true_or, implies_true, upn, reduceIte, Nat.reduceEqDiff, ne_eq, not_false_eq_true]) <;> (omega)) (by (try simp only [f5_0, f5_1, and_true, true_and, or_true, true_or, implies_true, upn, reduceIte, Nat.reduceEqDiff, ne_eq, not_false_eq_true]) <;> (omega)) (by (try simp only [f5_0, f5_1, and_true, true_and, or_true, true_or, implies_true, upn, reduceIte, Nat.reduceEqDiff, ne_eq, not_false_eq_true]) <;> (omega))) ov_X9_number ml_X9_349 dX9_fact_23 rfl ⟨by decide, by decide⟩ ob_48.1 (by decide) (by decide) rfl (Nat.le_of_ble_eq_true rfl) (fun r23 m23 p23 => ?_)
    obtain ⟨p23, f23_0, f23_1⟩ := p23
    try simp only [f23_0, f23_1, f5_0, f5_1, e18, and_true, true_and, or_true, true_or, implies_true, upn, reduceIte, Nat.reduceEqDiff, ne_eq, not_false_eq_true] at p23
    refine Z_iadd hk dX9_fact_26 ?_
    refine Z_Vv hk (c_X9_puts κ.2.1 δ ad _ hA (180 + r23) (by (try simp only [f23_0, f23_1, f5_0, f5_1, and_true, true_and, or_true, true_or, implies_true, upn, reduceIte, Nat.reduceEqDiff, ne_eq, not_false_eq_true]) <;> (omega)) (by (try simp only [f23_0, f23_1, f5_0, f5_1, and_true, true_and, or_true, true_or, implies_true, upn, reduceIte, Nat.reduceEqDiff, ne_eq, not_false_eq_true]) <;> (omega))) ov_X9_puts ml_X9_323 dX9_fact_27 rfl ⟨by decide, by decide⟩ ob_48.1 (by decide) (by decide) rfl (Nat.le_of_ble_eq_true rfl) (fun m27 p27 => ?_)
    obtain ⟨p27, f27_0, f27_1, f27_2⟩ := p27
    try simp only [f27_0, f27_1, f27_2, f23_0, f23_1, f5_0, f5_1, e18, and_true, true_and, or_true, true_or, implies_true, upn, reduceIte, Nat.reduceEqDiff, ne_eq, not_false_eq_true] at p27
    have kk : Kep M m27 := Kep.same (Kep.rf M) (by simp only [f27_0, f27_1, f27_2, f23_0, f23_1, f5_0, f5_1, e18, and_true, true_and, or_true, true_or, implies_true, upn, reduceIte, Nat.reduceEqDiff, ne_eq, not_false_eq_true, upc])
    have hx : m27 48 5 = 0 → RP m27 a (s + 1) := fun hb => by (try simp only [f27_0, f27_1, f27_2, f23_0, f23_1, f5_0, f5_1, e18, and_true, true_and, or_true, true_or, implies_true, upn, reduceIte, Nat.reduceEqDiff, ne_eq, not_false_eq_true, upc] at hb); rw [show s + 1 = s + ef (180 + r23) from by rw [ef_big (by omega)]]; exact RP.code (M := m23) (RP.same q7 (by simp only [f27_0, f27_1, f27_2, f23_0, f23_1, f5_0, f5_1, e18, and_true, true_and, or_true, true_or, implies_true, upn, reduceIte, Nat.reduceEqDiff, ne_eq, not_false_eq_true, upc]) (by simp only [f27_0, f27_1, f27_2, f23_0, f23_1, f5_0, f5_1, e18, and_true, true_and, or_true, true_or, implies_true, upn, reduceIte, Nat.reduceEqDiff, ne_eq, not_false_eq_true, upc]) (by simp only [f27_0, f27_1, f27_2, f23_0, f23_1, f5_0, f5_1, e18, and_true, true_and, or_true, true_or, implies_true, upn, reduceIte, Nat.reduceEqDiff, ne_eq, not_false_eq_true, upc]) (by simp only [f27_0, f27_1, f27_2, f23_0, f23_1, f5_0, f5_1, e18, and_true, true_and, or_true, true_or, implies_true, upn, reduceIte, Nat.reduceEqDiff, ne_eq, not_false_eq_true, upc])) (by (try simp only [f27_0, f27_1, f27_2, f23_0, f23_1, f5_0, f5_1, e18, and_true, true_and, or_true, true_or, implies_true, upn, reduceIte, Nat.reduceEqDiff, ne_eq, not_false_eq_true, upc]) <;> omega) f27_2 (by simp only [f27_0, f27_1, f27_2, f23_0, f23_1, f5_0, f5_1, e18, and_true, true_and, or_true, true_or, implies_true, upn, reduceIte, Nat.reduceEqDiff, ne_eq, not_false_eq_true, upc]) (by simp only [f27_0, f27_1, f27_2, f23_0, f23_1, f5_0, f5_1, e18, and_true, true_and, or_true, true_or, implies_true, upn, reduceIte, Nat.reduceEqDiff, ne_eq, not_false_eq_true, upc]) (by unfold okc; omega) (fun z => by omega) (fun z => by omega)
    exact Z_vret hk hA hQ dX9_fact_30 ⟨rfl, rfl, rfl, (by exact ⟨(by (try simp only [f27_0, f27_1, f27_2, f23_0, f23_1, f5_0, f5_1, and_true, true_and, or_true, true_or, implies_true, upn, reduceIte, Nat.reduceEqDiff, ne_eq, not_false_eq_true]) <;> (omega)), (by intro c k0 k1 k2; simp only [f27_0, f27_1, f27_2, f23_0, f23_1, f5_0, f5_1, upc, upn, k0, k1, k2, reduceIte, Nat.reduceEqDiff, ne_eq, not_false_eq_true]), (by intro i k0 k1 k2 k3 k4 k5 k6 k7 k8; simp only [f27_0, f27_1, f27_2, f23_0, f23_1, f5_0, f5_1, upc, upn, k0, k1, k2, k3, k4, k5, k6, k7, k8, reduceIte, Nat.reduceEqDiff, ne_eq, not_false_eq_true]), (by exact hx), (by first | exact k115 | exact kk)⟩)⟩
set_option maxRecDepth 10000 in
theorem c_X9_dropsNots (l : Launch) (δ : Dp) (ad : Nat → Nat) (M : Mem) (hA : okA δ ad) (a : GA) (s : Int) (q2 : 0 ≤ (M 48 45) ∧ (M 48 45) ≤ 800) (q3 : 0 ≤ (M 48 43) ∧ (M 48 43) + (M 48 45) ≤ 800) (q4 : -9000 ≤ (M 48 46) - (M 48 43) ∧ -9000 ≤ (M 48 46) + (M 48 43) ∧ (M 48 46) ≤ 6) (q7 : Imp ((M 48 5) = 0) (RP M a s)) (q8 : 1 ≤ s) : Mv l δ yX9_dropsNots cX9_dropsNots 1 none 2 41 ad rs [.ref (ad 48)] M (fun M' => (0 ≤ (M' 48 45) ∧ (M' 48 45) ≤ (M 48 45) ∧ (M' 48 43) + (M' 48 45) = (M 48 43) + (M 48 45) ∧ (M 48 43) ≤ (M' 48 43) ∧ (M' 48 46) + (M' 48 43) = (M 48 46) + (M 48 43) ∧ (M' 48 46) ≤ 6) ∧ (∀ c : Nat, c ≠ 48 → c ≠ 82 → M' c = M c) ∧ (∀ i : Nat, i ≠ 43 → i ≠ 45 → i ≠ 46 → M' 48 i = M 48 i) ∧ (Imp ((M 48 5) = 0) (RP M' a s))) := by
  refine Mg.of (rm := rmN 2 41) (by decide) (Nat.le_of_ble_eq_true rfl) fun κ _ hk _ => ?_
  generalize hQ : Qg κ δ 121 (rmN 2 41).cells (rmN 2 41).slots _ = Q
  show Zj κ δ ad rs Q 1 (121, 0, 0) 0 [some (.ref (ad 48))] [] M
  have J0 : ∀ (n : Nat) (m0 : Mem), (((0 ≤ (m0 48 45) ∧ (m0 48 45) ≤ (M 48 45) ∧ (m0 48 43) + (m0 48 45) = (M 48 43) + (M 48 45) ∧ (M 48 43) ≤ (m0 48 43) ∧ (m0 48 46) + (m0 48 43) = (M 48 46) + (M 48 43) ∧ (m0 48 46) ≤ 6) ∧ Imp ((M 48 5) = 0) (RP m0 a s)) ∧ (∀ c : Nat, c ≠ 48 → c ≠ 82 → m0 c = M c) ∧ (∀ i : Nat, i ≠ 43 → i ≠ 45 → i ≠ 46 → m0 48 i = M 48 i)) → ((m0 48 45)) < (n : Int) → Zj κ δ ad rs Q 1 (121, 0, 0) 0 [some (.ref (ad 48))] [] m0 := by
    intro n
    induction n with
    | zero => intro m0 h0 hm0; exfalso; obtain ⟨h0, -⟩ := h0; obtain ⟨h0, -⟩ := h0; omega
    | succ n ih0 =>
      intro m0 h0 hm0
      obtain ⟨h0, f0_0, f0_1⟩ := h0
      try simp only [f0_0, f0_1, and_true, true_and, or_true, true_or, implies_true, upn, reduceIte, Nat.reduceEqDiff, ne_eq, not_false_eq_true] at h0 hm0
      obtain ⟨h0, h0x⟩ := h0
      refine Z_aload0 hk dX9_dropsNots_0 ?_
      refine Z_getI hk fl_9_245 dX9_dropsNots_1 ob_48.1 ob_48.2.1 ob_48.2.2.1 ob_48.2.2.2 ft_9_5 (fun v1 e1 a1 b1 => ?_)
      try simp only [f0_0, f0_1, and_true, true_and, or_true, true_or, implies_true, upn, reduceIte, Nat.reduceEqDiff, ne_eq, not_false_eq_true] at e1
      refine Z_if_ne hk (tgt := 33) dX9_dropsNots_4 (by decide) (by omega) (by omega) (fun h4 => ?_) (fun h4 => ?_)
      · exact Z_vret hk hA hQ dX9_dropsNots_33 ⟨rfl, rfl, rfl, (by exact ⟨(by (try simp only [f0_0, f0_1, and_true, true_and, or_true, true_or, implies_true, upn, reduceIte, Nat.reduceEqDiff, ne_eq, not_false_eq_true]) <;> (omega)), (by intro c k0 k1; simp only [f0_0, f0_1, upc, upn, k0, k1, reduceIte, Nat.reduceEqDiff, ne_eq, not_false_eq_true]), (by intro i k0 k1 k2; simp only [f0_0, f0_1, upc, upn, k0, k1, k2, reduceIte, Nat.reduceEqDiff, ne_eq, not_false_eq_true]), (by exact h0x)⟩)⟩
      · refine Z_aload0 hk dX9_dropsNots_7 ?_
        refine Z_bipush hk dX9_dropsNots_8 (by decide) ?_
        refine Z_Vi hk (c_X9_isOn κ.2.1 δ ad _ hA 16 (by (try simp only [f0_0, f0_1, and_true, true_and, or_true, true_or, implies_true, upn, reduceIte, Nat.reduceEqDiff, ne_eq, not_false_eq_true]) <;> (omega)) (by (try simp only [f0_0, f0_1, and_true, true_and, or_true, true_or, implies_true, upn, reduceIte, Nat.reduceEqDiff, ne_eq, not_false_eq_true]) <;> (omega))) ov_X9_isOn ml_X9_362 dX9_dropsNots_10 rfl ⟨by decide, by decide⟩ ob_48.1 (by decide) (by decide) rfl (Nat.le_of_ble_eq_true rfl) (fun r10 m10 p10 => ?_)
        obtain ⟨rfl, p10⟩ := p10
        try simp only [f0_0, f0_1, e1, and_true, true_and, or_true, true_or, implies_true, upn, reduceIte, Nat.reduceEqDiff, ne_eq, not_false_eq_true] at p10
        refine Z_if_eq hk (tgt := 33) dX9_dropsNots_13 (by decide) (by omega) (by omega) (fun h13 => ?_) (fun h13 => ?_)
        · exact Z_vret hk hA hQ dX9_dropsNots_33 ⟨rfl, rfl, rfl, (by exact ⟨(by (try simp only [f0_0, f0_1, and_true, true_and, or_true, true_or, implies_true, upn, reduceIte, Nat.reduceEqDiff, ne_eq, not_false_eq_true]) <;> (omega)), (by intro c k0 k1; simp only [f0_0, f0_1, upc, upn, k0, k1, reduceIte, Nat.reduceEqDiff, ne_eq, not_false_eq_true]), (by intro i k0 k1 k2; simp only [f0_0, f0_1, upc, upn, k0, k1, k2, reduceIte, Nat.reduceEqDiff, ne_eq, not_false_eq_true]), (by exact h0x)⟩)⟩
        · refine Z_aload0 hk dX9_dropsNots_16 ?_
          refine Z_dup1 hk rfl dX9_dropsNots_17 ?_
          refine Z_getI hk fl_9_317 dX9_dropsNots_18 ob_48.1 ob_48.2.1 ob_48.2.2.1 ob_48.2.2.2 ft_9_46 (fun v18 e18 a18 b18 => ?_)
          try simp only [f0_0, f0_1, e1, and_true, true_and, or_true, true_or, implies_true, upn, reduceIte, Nat.reduceEqDiff, ne_eq, not_false_eq_true] at e18
          refine Z_iconst hk dX9_dropsNots_21 ?_
          refine Z_isub hk dX9_dropsNots_22 ?_
          refine Z_putI hk hA fl_9_317 dX9_dropsNots_23 ob_48.1 ob_48.2.1 ob_48.2.2.1 ob_48.2.2.2 ft_9_46 (by omega) (by omega) ?_
          refine Z_nm (fun m23 em23 => ?_)
          refine Z_aload0 hk dX9_dropsNots_26 ?_
          refine Z_Vv hk (c_X9_drops κ.2.1 δ ad _ hA  (by (try simp only [em23, f0_0, f0_1, and_true, true_and, or_true, true_or, implies_true, upn, reduceIte, Nat.reduceEqDiff, ne_eq, not_false_eq_true]) <;> (omega)) (by (try simp only [em23, f0_0, f0_1, and_true, true_and, or_true, true_or, implies_true, upn, reduceIte, Nat.reduceEqDiff, ne_eq, not_false_eq_true]) <;> (omega))) ov_X9_drops ml_X9_333 dX9_dropsNots_27 rfl ⟨by decide, by decide⟩ ob_48.1 (by decide) (by decide) rfl (Nat.le_of_ble_eq_true rfl) (fun m27 p27 => ?_)
          obtain ⟨p27, f27_0, f27_1, f27_2⟩ := p27
          try simp only [f27_0, f27_1, f27_2, em23, f0_0, f0_1, e1, e18, and_true, true_and, or_true, true_or, implies_true, upn, reduceIte, Nat.reduceEqDiff, ne_eq, not_false_eq_true] at p27
          refine Z_goto hk (tgt := 0) dX9_dropsNots_30 (by decide) ?_
          exact ih0 _ (by exact ⟨(by (exact ⟨(by (try simp only [f27_0, f27_1, f27_2, em23, f0_0, f0_1, e1, e18, and_true, true_and, or_true, true_or, implies_true, upn, reduceIte, Nat.reduceEqDiff, ne_eq, not_false_eq_true, upc]) <;> omega), fun z => RP.drop (M := m23) (RP.same (h0x z) (by simp only [f27_0, f27_1, f27_2, em23, f0_0, f0_1, e1, e18, and_true, true_and, or_true, true_or, implies_true, upn, reduceIte, Nat.reduceEqDiff, ne_eq, not_false_eq_true, upc]) (by simp only [f27_0, f27_1, f27_2, em23, f0_0, f0_1, e1, e18, and_true, true_and, or_true, true_or, implies_true, upn, reduceIte, Nat.reduceEqDiff, ne_eq, not_false_eq_true, upc]) (by simp only [f27_0, f27_1, f27_2, em23, f0_0, f0_1, e1, e18, and_true, true_and, or_true, true_or, implies_true, upn, reduceIte, Nat.reduceEqDiff, ne_eq, not_false_eq_true, upc]) (by simp only [f27_0, f27_1, f27_2, em23, f0_0, f0_1, e1, e18, and_true, true_and, or_true, true_or, implies_true, upn, reduceIte, Nat.reduceEqDiff, ne_eq, not_false_eq_true, upc])) (by (try simp only [f27_0, f27_1, f27_2, em23, f0_0, f0_1, e1, e18, and_true, true_and, or_true, true_or, implies_true, upn, reduceIte, Nat.reduceEqDiff, ne_eq, not_false_eq_true, upc]) <;> omega) (by (try simp only [f27_0, f27_1, f27_2, em23, f0_0, f0_1, e1, e18, and_true, true_and, or_true, true_or, implies_true, upn, reduceIte, Nat.reduceEqDiff, ne_eq, not_false_eq_true, upc]) <;> omega) f27_2 (by simp only [f27_0, f27_1, f27_2, em23, f0_0, f0_1, e1, e18, and_true, true_and, or_true, true_or, implies_true, upn, reduceIte, Nat.reduceEqDiff, ne_eq, not_false_eq_true, upc]) (by (try simp only [f27_0, f27_1, f27_2, em23, f0_0, f0_1, e1, e18, and_true, true_and, or_true, true_or, implies_true, upn, reduceIte, Nat.reduceEqDiff, ne_eq, not_false_eq_true, upc]) <;> omega) q8 (Or.inr (by (try simp only [f27_0, f27_1, f27_2, em23, f0_0, f0_1, e1, e18, and_true, true_and, or_true, true_or, implies_true, upn, reduceIte, Nat.reduceEqDiff, ne_eq, not_false_eq_true, upc]) <;> omega))⟩)), (by intro c k0 k1; simp only [f27_0, f27_1, f27_2, em23, f0_0, f0_1, upc, upn, k0, k1, reduceIte, Nat.reduceEqDiff, ne_eq, not_false_eq_true]), (by intro i k0 k1 k2; simp only [f27_0, f27_1, f27_2, em23, f0_0, f0_1, upc, upn, k0, k1, k2, reduceIte, Nat.reduceEqDiff, ne_eq, not_false_eq_true])⟩) (by (try simp only [f27_0, f27_1, f27_2, em23, f0_0, f0_1, and_true, true_and, or_true, true_or, implies_true, upn, reduceIte, Nat.reduceEqDiff, ne_eq, not_false_eq_true]) <;> (omega))
  exact J0 ((((M 48 45)) : Int).toNat + 1) _ (by exact ⟨(by (exact ⟨by omega, q7⟩)), (by intro c k0 k1; rfl), (by intro i k0 k1 k2; rfl)⟩) (by omega)
set_option maxRecDepth 10000 in
theorem c_X9_hasSquare (l : Launch) (δ : Dp) (ad : Nat → Nat) (M : Mem) (hA : okA δ ad) (q2 : 0 ≤ (M 48 45) ∧ (M 48 45) ≤ 800) : Mi l δ yX9_hasSquare cX9_hasSquare 2 (some (.boolean)) 0 0 ad rs [.ref (ad 48)] M (fun r M' => M = M' ∧ ((r = 1 ∧ HasSq M) ∨ (r = 0 ∧ ∀ j : Nat, (j : Int) < (M 48 45) → M 83 j ≠ 25))) := by
  refine Mg.of (rm := rmN 0 0) (by decide) (Nat.le_of_ble_eq_true rfl) fun κ _ hk _ => ?_
  generalize hQ : Qg κ δ 121 (rmN 0 0).cells (rmN 0 0).slots _ = Q
  show Zj κ δ ad rs Q 2 (121, 0, 0) 0 [some (.ref (ad 48)), none] [] M
  refine Z_iconst hk dX9_hasSquare_0 ?_
  have J2 : ∀ (n : Nat) (x1_2 : Int), ((0 ≤ x1_2 ∧ x1_2 ≤ (M 48 45)) ∧ ∀ j : Nat, (j : Int) < x1_2 → M 83 j ≠ 25) → ((M 48 45) - x1_2) < (n : Int) → Zj κ δ ad rs Q 2 (121, 0, 0) 2 [some (.ref (ad 48)), some (iv x1_2)] [] M := by
    intro n
    induction n with
    | zero => intro x1_2 h2 hm2; exfalso; obtain ⟨h2, -⟩ := h2; omega
    | succ n ih2 =>
      intro x1_2 h2 hm2
      obtain ⟨h2, g2⟩ := h2
      refine Z_iload1 hk dX9_hasSquare_2 ?_
      refine Z_aload0 hk dX9_hasSquare_3 ?_
      refine Z_getI hk fl_9_320 dX9_hasSquare_4 ob_48.1 ob_48.2.1 ob_48.2.2.1 ob_48.2.2.2 ft_9_45 (fun v4 e4 a4 b4 => ?_)
      refine Z_icmp_ge hk (tgt := 29) dX9_hasSquare_7 (by decide) (by omega) (by omega) (by omega) (by omega) (fun h7 => ?_) (fun h7 => ?_)
      · refine Z_iconst hk dX9_hasSquare_29 ?_
        exact Z_zret hk hA hQ dX9_hasSquare_30 (by decide) (by decide) ⟨rfl, rfl, _, rfl, (by exact ⟨rfl, (by exact Or.inr ⟨rfl, fun j hj => g2 j (by omega)⟩)⟩)⟩
      · refine Z_aload0 hk dX9_hasSquare_10 ?_
        refine Z_getR hk fl_9_117 dX9_hasSquare_11 ob_48.1 ob_48.2.1 ob_48.2.2.1 ob_48.2.2.2 ft_9_44 rs_48_44 ?_
        refine Z_iload1 hk dX9_hasSquare_14 ?_
        refine Z_iald hk dX9_hasSquare_15 ar_83.1 ar_83.2.1 ar_83.2.2 (by omega) (by omega) (fun v15 e15 a15 b15 => ?_)
        try simp only [e4, and_true, true_and, or_true, true_or, implies_true, upn, reduceIte, Nat.reduceEqDiff, ne_eq, not_false_eq_true] at e15
        refine Z_bipush hk dX9_hasSquare_16 (by decide) ?_
        refine Z_icmp_ne hk (tgt := 23) dX9_hasSquare_18 (by decide) (by omega) (by omega) (by decide) (by decide) (fun h18 => ?_) (fun h18 => ?_)
        · refine Z_iinc1 hk rfl (by decide) dX9_hasSquare_23 ?_
          refine Z_goto hk (tgt := 2) dX9_hasSquare_26 (by decide) ?_
          exact ih2 _ (by refine ⟨by omega, fun j hj => ?_⟩; by_cases ej : (j : Int) = x1_2; exact (by have e : j = (x1_2).toNat := (by omega); rw [e]; omega); exact g2 j (by omega)) (by (omega))
        · refine Z_iconst hk dX9_hasSquare_21 ?_
          exact Z_zret hk hA hQ dX9_hasSquare_22 (by decide) (by decide) ⟨rfl, rfl, _, rfl, (by exact ⟨rfl, (by exact Or.inl ⟨rfl, (x1_2).toNat, by omega, by omega⟩)⟩)⟩
  refine Z_istore1 hk rfl (by decide) dX9_hasSquare_1 ?_
  exact J2 ((((M 48 45) - 0) : Int).toNat + 1) _ (by exact ⟨by omega, fun j hj => by omega⟩) (by omega)
