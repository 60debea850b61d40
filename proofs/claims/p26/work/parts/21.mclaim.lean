theorem WF.congr {f g : Nat → Int} {a n : Nat} (h : WF f a n) (e : ∀ j, j < a + n → g j = f j) : WF g a n := by
  have hd : ∀ m, m ≤ n → dpt g a m = dpt f a m := by
    intro m
    induction m with
    | zero => intro _; rfl
    | succ m ih =>
      intro hm
      show dpt g a m + ef (g (a + m)) = dpt f a m + ef (f (a + m))
      rw [ih (by omega), e _ (by omega)]
  intro j hj
  rw [e _ (by omega), hd j (by omega)]
  exact h j hj
theorem RP.start {M M1 : Mem} (e1 : M1 48 43 = M 48 43) (e2 : M1 82 = M 82) (h : 0 ≤ M 48 43) (w : M1 48 45 = 0) : RP M1 ((M 48 43).toNat, M 82) 0 := by
  have hz : (M1 48 43).toNat - (M 48 43).toNat = 0 := by rw [e1]; omega
  refine ⟨by rw [e1]; exact h, by rw [w]; exact Int.le_refl 0, ⟨by rw [e1]; exact Nat.le_refl _, fun j _ => by rw [e2]⟩, ?_, ?_⟩
  · show WF (M1 82) (M 48 43).toNat ((M1 48 43).toNat - (M 48 43).toNat)
    rw [hz]; intro j hj; omega
  · show dpt (M1 82) (M 48 43).toNat ((M1 48 43).toNat - (M 48 43).toNat) = _
    rw [hz, w]; rfl
/-- where a claim's codes begin -/
def cst (M : Mem) (k : Nat) : Int := if k = 0 then 0 else M 93 (k - 1)
/-- the claims told so far: each one's codes are good for a stack -/
def CS (M : Mem) : Prop := M 48 43 = cst M (M 48 61).toNat ∧ ∀ k : Nat, (k : Int) < M 48 61 → 0 ≤ cst M k ∧ cst M k ≤ M 93 k ∧ M 93 k ≤ M 48 43 ∧ WF (M 82) (cst M k).toNat ((M 93 k).toNat - (cst M k).toNat)
theorem CS.same {M M' : Mem} (h : CS M) (e1 : M' 48 43 = M 48 43) (e2 : M' 82 = M 82) (e3 : M' 93 = M 93) (e4 : M' 48 61 = M 48 61) : CS M' := by
  unfold CS cst at *
  rw [e1, e2, e3, e4]
  exact h
theorem CS.add {M M1 M' : Mem} (h : CS M) (hn : 0 ≤ M 48 61) (h0 : 0 ≤ M 48 43) (r : RP M1 ((M 48 43).toNat, M 82) 1) (e2 : M' 82 = M1 82) (e1 : M' 48 43 = M1 48 43) (e3 : M' 93 = upr (M 93) (M 48 61).toNat (M1 48 43)) (e4 : M' 48 61 = M 48 61 + 1) : CS M' := by
  obtain ⟨r1, -, ⟨r3, r4⟩, r5, -⟩ := r
  obtain ⟨c1, c2⟩ := h
  have r3 : (M 48 43).toNat ≤ (M1 48 43).toNat := r3
  have hs : ∀ k : Nat, k ≤ (M 48 61).toNat → cst M' k = cst M k := by
    intro k hk
    unfold cst
    split
    · rfl
    · rw [e3, upr_ne (by omega)]
  refine ⟨?_, fun k hk => ?_⟩
  · unfold cst
    rw [if_neg (by rw [e4]; omega), e3, show (M' 48 61).toNat - 1 = (M 48 61).toNat from (by rw [e4]; omega), upr_eq, e1]
  · rw [e4] at hk
    rw [hs k (by omega), e1, e2, e3]
    by_cases ek : k = (M 48 61).toNat
    · subst ek
      rw [upr_eq, ← c1]
      exact ⟨h0, by omega, Int.le_refl _, r5⟩
    · obtain ⟨d1, d2, d3, d4⟩ := c2 k (by omega)
      rw [upr_ne ek]
      refine ⟨d1, d2, by omega, d4.congr (fun j hj => r4 j ?_)⟩
      show j < (M 48 43).toNat
      omega
set_option maxRecDepth 10000 in
theorem c_X9_claimTold (l : Launch) (δ : Dp) (ad : Nat → Nat) (M : Mem) (hA : okA δ ad) (q0 : 0 ≤ (M 48 2) ∧ (M 48 2) ≤ (M 48 3) ∧ (M 48 3) ≤ 700) (q1 : (M 48 5) = 0) (q2 : 0 ≤ (M 48 61) ∧ (M 48 61) ≤ 8) (q3 : 0 ≤ (M 48 43) ∧ (M 48 43) ≤ (M 48 2)) (q5 : 0 ≤ (M 48 50) ∧ (M 48 50) ≤ 4) (q6 : 0 ≤ (M 48 48) ∧ (M 48 48) ≤ 6) (q7 : CS M) : Mv l δ yX9_claimTold cX9_claimTold 3 none 9 198 ad rs [.ref (ad 48)] M (fun M' => ((M 48 2) ≤ (M' 48 2) ∧ (M' 48 2) ≤ (M 48 3) ∧ (M 48 43) ≤ (M' 48 43) ∧ (M' 48 43) ≤ (M' 48 2) + 1 ∧ ((M' 48 5) = 0 → (M' 48 43) ≤ (M' 48 2)) ∧ 0 ≤ (M' 48 61) ∧ (M' 48 61) ≤ 8) ∧ (∀ c : Nat, c ≠ 48 → c ≠ 82 → c ≠ 83 → c ≠ 92 → c ≠ 93 → M' c = M c) ∧ (∀ i : Nat, i ≠ 2 → i ≠ 4 → i ≠ 5 → i ≠ 6 → i ≠ 41 → i ≠ 43 → i ≠ 45 → i ≠ 46 → i ≠ 61 → i ≠ 79 → M' 48 i = M 48 i) ∧ (Imp ((M' 48 5) = 0) (CS M')) ∧ (∀ j : Nat, 800 ≤ j → M' 82 j = M 82 j)) := by
  refine Mg.of (rm := rmN 9 198) (by decide) (Nat.le_of_ble_eq_true rfl) fun κ _ hk _ => ?_
  generalize hQ : Qg κ δ 121 (rmN 9 198).cells (rmN 9 198).slots _ = Q
  show Zj κ δ ad rs Q 3 (121, 0, 0) 0 [some (.ref (ad 48)), none, none] [] M
  refine Z_aload0 hk dX9_claimTold_0 ?_
  refine Z_getI hk fl_9_311 dX9_claimTold_1 ob_48.1 ob_48.2.1 ob_48.2.2.1 ob_48.2.2.2 ft_9_61 (fun v1 e1 a1 b1 => ?_)
  refine Z_bipush hk dX9_claimTold_4 (by decide) ?_
  refine Z_icmp_ne hk (tgt := 19) dX9_claimTold_6 (by decide) (by omega) (by omega) (by decide) (by decide) (fun h6 => ?_) (fun h6 => ?_)
  · refine Z_aload0 hk dX9_claimTold_19 ?_
    refine Z_Vj hk (c_X9_fresh κ.2.1 δ ad _ hA  (by (omega)) (by (omega)) (by (omega))) ov_X9_fresh ml_X9_389 dX9_claimTold_20 rfl ⟨by decide, by decide⟩ ob_48.1 (by decide) (by decide) rfl (Nat.le_of_ble_eq_true rfl) (fun r20 m20 p20 => ?_)
    obtain ⟨p20, f20_0, f20_1⟩ := p20
    try simp only [f20_0, f20_1, e1, and_true, true_and, or_true, true_or, implies_true, upn, reduceIte, Nat.reduceEqDiff, ne_eq, not_false_eq_true] at p20
    refine Z_lstore1 hk rfl (by decide) dX9_claimTold_23 ?_
    refine Z_aload0 hk dX9_claimTold_24 ?_
    refine Z_aload0 hk dX9_claimTold_25 ?_
    refine Z_getR hk fl_9_66 dX9_claimTold_26 ob_48.1 ob_48.2.1 ob_48.2.2.1 ob_48.2.2.2 ft_9_25 rs_48_25 ?_
    refine Z_Vv hk (c_X9_asks κ.2.1 δ ad _ hA 66 4 ar_66 (by (try simp only [f20_0, f20_1, and_true, true_and, or_true, true_or, implies_true, upn, reduceIte, Nat.reduceEqDiff, ne_eq, not_false_eq_true]) <;> (omega))) ov_X9_asks ml_X9_339 dX9_claimTold_29 rfl ⟨by decide, by decide⟩ ob_48.1 (by decide) (by decide) rfl (Nat.le_of_ble_eq_true rfl) (fun m29 p29 => ?_)
    obtain ⟨p29, f29_0, f29_1⟩ := p29
    try simp only [f29_0, f29_1, f20_0, f20_1, e1, and_true, true_and, or_true, true_or, implies_true, upn, reduceIte, Nat.reduceEqDiff, ne_eq, not_false_eq_true] at p29
    refine Z_aload0 hk dX9_claimTold_32 ?_
    refine Z_iconst hk dX9_claimTold_33 ?_
    refine Z_putI hk hA fl_9_320 dX9_claimTold_34 ob_48.1 ob_48.2.1 ob_48.2.2.1 ob_48.2.2.2 ft_9_45 (by decide) (by decide) ?_
    refine Z_nm (fun m34 em34 => ?_)
    refine Z_aload0 hk dX9_claimTold_37 ?_
    refine Z_iconst hk dX9_claimTold_38 ?_
    refine Z_putI hk hA fl_9_317 dX9_claimTold_39 ob_48.1 ob_48.2.1 ob_48.2.2.1 ob_48.2.2.2 ft_9_46 (by decide) (by decide) ?_
    refine Z_nm (fun m39 em39 => ?_)
    refine Z_aload0 hk dX9_claimTold_42 ?_
    refine Z_iconst hk dX9_claimTold_43 ?_
    refine Z_putI hk hA fl_9_327 dX9_claimTold_44 ob_48.1 ob_48.2.1 ob_48.2.2.1 ob_48.2.2.2 ft_9_79 (by decide) (by decide) ?_
    refine Z_nm (fun m44 em44 => ?_)
    refine Z_aload0 hk dX9_claimTold_47 ?_
    refine Z_getI hk fl_9_245 dX9_claimTold_48 ob_48.1 ob_48.2.1 ob_48.2.2.1 ob_48.2.2.2 ft_9_5 (fun v48 e48 a48 b48 => ?_)
    try simp only [em44, em39, em34, f29_0, f29_1, f20_0, f20_1, e1, and_true, true_and, or_true, true_or, implies_true, upn, reduceIte, Nat.reduceEqDiff, ne_eq, not_false_eq_true] at e48
    have J58 : ∀ (m58 : Mem), ((((M 48 2) ≤ (m58 48 2) ∧ (m58 48 2) ≤ (M 48 3) ∧ (M 48 43) ≤ (m58 48 43) ∧ (m58 48 43) ≤ (m58 48 2) + 1 ∧ ((m58 48 5) = 0 → (m58 48 43) ≤ (m58 48 2))) ∧ Imp ((m58 48 5) = 0) (RP m58 (((M 48 43).toNat, M 82) : GA) 1)) ∧ (∀ c : Nat, c ≠ 48 → c ≠ 82 → c ≠ 83 → m58 c = m44 c) ∧ (∀ i : Nat, i ≠ 2 → i ≠ 4 → i ≠ 5 → i ≠ 6 → i ≠ 41 → i ≠ 43 → i ≠ 45 → i ≠ 46 → i ≠ 79 → m58 48 i = m44 48 i) ∧ (∀ j : Nat, 800 ≤ j → m58 82 j = m44 82 j)) → Zj κ δ ad rs Q 3 (121, 0, 0) 58 [some (.ref (ad 48)), some (jv r20), none] [] m58 := by
      intro m58 h58
      obtain ⟨h58, f58_0, f58_1, f58_2⟩ := h58
      try simp only [f58_0, f58_1, f58_2, em44, em39, em34, f29_0, f29_1, f20_0, f20_1, and_true, true_and, or_true, true_or, implies_true, upn, reduceIte, Nat.reduceEqDiff, ne_eq, not_false_eq_true] at h58
      obtain ⟨h58, h58x⟩ := h58
      refine Z_aload0 hk dX9_claimTold_58 ?_
      refine Z_getR hk fl_9_146 dX9_claimTold_59 ob_48.1 ob_48.2.1 ob_48.2.2.1 ob_48.2.2.2 ft_9_62 rs_48_62 ?_
      refine Z_aload0 hk dX9_claimTold_62 ?_
      refine Z_getI hk fl_9_311 dX9_claimTold_63 ob_48.1 ob_48.2.1 ob_48.2.2.1 ob_48.2.2.2 ft_9_61 (fun v63 e63 a63 b63 => ?_)
      try simp only [f58_0, f58_1, f58_2, em44, em39, em34, f29_0, f29_1, f20_0, f20_1, e1, e48, and_true, true_and, or_true, true_or, implies_true, upn, reduceIte, Nat.reduceEqDiff, ne_eq, not_false_eq_true] at e63
      refine Z_lload1 hk dX9_claimTold_66 ?_
      refine Z_last hk hA dX9_claimTold_67 ar_92.1 ar_92.2.1 ar_92.2.2 (by omega) (by omega) (by omega) (by omega) ?_
      refine Z_nm (fun m67 em67 => ?_)
      refine Z_aload0 hk dX9_claimTold_68 ?_
      refine Z_getR hk fl_9_149 dX9_claimTold_69 ob_48.1 ob_48.2.1 ob_48.2.2.1 ob_48.2.2.2 ft_9_63 rs_48_63 ?_
      refine Z_aload0 hk dX9_claimTold_72 ?_
      refine Z_getI hk fl_9_311 dX9_claimTold_73 ob_48.1 ob_48.2.1 ob_48.2.2.1 ob_48.2.2.2 ft_9_61 (fun v73 e73 a73 b73 => ?_)
      try simp only [em67, f58_0, f58_1, f58_2, em44, em39, em34, f29_0, f29_1, f20_0, f20_1, e1, e48, e63, and_true, true_and, or_true, true_or, implies_true, upn, reduceIte, Nat.reduceEqDiff, ne_eq, not_false_eq_true] at e73
      refine Z_aload0 hk dX9_claimTold_76 ?_
      refine Z_getI hk fl_9_314 dX9_claimTold_77 ob_48.1 ob_48.2.1 ob_48.2.2.1 ob_48.2.2.2 ft_9_43 (fun v77 e77 a77 b77 => ?_)
      try simp only [em67, f58_0, f58_1, f58_2, em44, em39, em34, f29_0, f29_1, f20_0, f20_1, e1, e48, e63, e73, and_true, true_and, or_true, true_or, implies_true, upn, reduceIte, Nat.reduceEqDiff, ne_eq, not_false_eq_true] at e77
      refine Z_iast hk hA dX9_claimTold_80 ar_93.1 ar_93.2.1 ar_93.2.2 (by omega) (by omega) (by omega) (by omega) ?_
      refine Z_nm (fun m80 em80 => ?_)
      refine Z_aload0 hk dX9_claimTold_81 ?_
      refine Z_dup1 hk rfl dX9_claimTold_82 ?_
      refine Z_getI hk fl_9_311 dX9_claimTold_83 ob_48.1 ob_48.2.1 ob_48.2.2.1 ob_48.2.2.2 ft_9_61 (fun v83 e83 a83 b83 => ?_)
      try simp only [em80, em67, f58_0, f58_1, f58_2, em44, em39, em34, f29_0, f29_1, f20_0, f20_1, e1, e48, e63, e73, e77, and_true, true_and, or_true, true_or, implies_true, upn, reduceIte, Nat.reduceEqDiff, ne_eq, not_false_eq_true] at e83
      refine Z_iconst hk dX9_claimTold_86 ?_
      refine Z_iadd hk dX9_claimTold_87 ?_
      refine Z_putI hk hA fl_9_311 dX9_claimTold_88 ob_48.1 ob_48.2.1 ob_48.2.2.1 ob_48.2.2.2 ft_9_61 (by omega) (by omega) ?_
      refine Z_nm (fun m88 em88 => ?_)
      have hx : m88 48 5 = 0 → CS m88 := fun hb => by (try simp only [em88, em80, em67, f58_0, f58_1, f58_2, em44, em39, em34, f29_0, f29_1, f20_0, f20_1, e1, e48, e63, e73, e77, e83, and_true, true_and, or_true, true_or, implies_true, upn, reduceIte, Nat.reduceEqDiff, ne_eq, not_false_eq_true, upc] at hb); exact CS.add q7 (by omega) (by omega) (h58x (by (try simp only [em88, em80, em67, f58_0, f58_1, f58_2, em44, em39, em34, f29_0, f29_1, f20_0, f20_1, e1, e48, e63, e73, e77, e83, and_true, true_and, or_true, true_or, implies_true, upn, reduceIte, Nat.reduceEqDiff, ne_eq, not_false_eq_true, upc]) <;> omega)) (by simp only [em88, em80, em67, f58_0, f58_1, f58_2, em44, em39, em34, f29_0, f29_1, f20_0, f20_1, e1, e48, e63, e73, e77, e83, and_true, true_and, or_true, true_or, implies_true, upn, reduceIte, Nat.reduceEqDiff, ne_eq, not_false_eq_true, upc]) (by simp only [em88, em80, em67, f58_0, f58_1, f58_2, em44, em39, em34, f29_0, f29_1, f20_0, f20_1, e1, e48, e63, e73, e77, e83, and_true, true_and, or_true, true_or, implies_true, upn, reduceIte, Nat.reduceEqDiff, ne_eq, not_false_eq_true, upc]) (by simp only [em88, em80, em67, f58_0, f58_1, f58_2, em44, em39, em34, f29_0, f29_1, f20_0, f20_1, e1, e48, e63, e73, e77, e83, and_true, true_and, or_true, true_or, implies_true, upn, reduceIte, Nat.reduceEqDiff, ne_eq, not_false_eq_true, upc]) (by simp only [em88, em80, em67, f58_0, f58_1, f58_2, em44, em39, em34, f29_0, f29_1, f20_0, f20_1, e1, e48, e63, e73, e77, e83, and_true, true_and, or_true, true_or, implies_true, upn, reduceIte, Nat.reduceEqDiff, ne_eq, not_false_eq_true, upc])
      exact Z_vret hk hA hQ dX9_claimTold_91 ⟨rfl, rfl, rfl, (by exact ⟨(by (try simp only [em88, em80, em67, f58_0, f58_1, f58_2, em44, em39, em34, f29_0, f29_1, f20_0, f20_1, and_true, true_and, or_true, true_or, implies_true, upn, reduceIte, Nat.reduceEqDiff, ne_eq, not_false_eq_true]) <;> (omega)), (by intro c k0 k1 k2 k3 k4; simp only [em88, em80, em67, f58_0, f58_1, f58_2, em44, em39, em34, f29_0, f29_1, f20_0, f20_1, upc, upn, k0, k1, k2, k3, k4, reduceIte, Nat.reduceEqDiff, ne_eq, not_false_eq_true]), (by intro i k0 k1 k2 k3 k4 k5 k6 k7 k8 k9; simp only [em88, em80, em67, f58_0, f58_1, f58_2, em44, em39, em34, f29_0, f29_1, f20_0, f20_1, upc, upn, k0, k1, k2, k3, k4, k5, k6, k7, k8, k9, reduceIte, Nat.reduceEqDiff, ne_eq, not_false_eq_true]), (by first | exact hx | (intro hb; (try simp only [em88, em80, em67, f58_0, f58_1, f58_2, em44, em39, em34, f29_0, f29_1, f20_0, f20_1, e1, e48, e63, e73, e77, e83, and_true, true_and, or_true, true_or, implies_true, upn, reduceIte, Nat.reduceEqDiff, ne_eq, not_false_eq_true, upc] at hb); omega)), (by intro j kj; first | (simp only [em88, em80, em67, f58_0, f58_1, f58_2, em44, em39, em34, f29_0, f29_1, f20_0, f20_1, upc, upn, kj, reduceIte, Nat.reduceEqDiff, ne_eq, not_false_eq_true]; done) | (simp only [em88, em80, em67, f58_0, f58_1, f58_2, em44, em39, em34, f29_0, f29_1, f20_0, f20_1, upc, upn, kj, reduceIte, Nat.reduceEqDiff, ne_eq, not_false_eq_true]; split; (exfalso; omega); rfl))⟩)⟩
    refine Z_if_ne hk (tgt := 58) dX9_claimTold_51 (by decide) (by omega) (by omega) (fun h51 => ?_) (fun h51 => ?_)
    · exact J58 _ (by exact ⟨(by (exact ⟨(by (try simp only [em44, em39, em34, f29_0, f29_1, f20_0, f20_1, e1, e48, and_true, true_and, or_true, true_or, implies_true, upn, reduceIte, Nat.reduceEqDiff, ne_eq, not_false_eq_true, upc]) <;> (repeat' (first | refine And.intro ?_ ?_ | omega))), fun z => by exfalso; (try simp only [em44, em39, em34, f29_0, f29_1, f20_0, f20_1, e1, e48, and_true, true_and, or_true, true_or, implies_true, upn, reduceIte, Nat.reduceEqDiff, ne_eq, not_false_eq_true, upc] at z); omega⟩)), (by intro c k0 k1 k2; simp only [em44, em39, em34, f29_0, f29_1, f20_0, f20_1, upc, upn, k0, k1, k2, reduceIte, Nat.reduceEqDiff, ne_eq, not_false_eq_true]), (by intro i k0 k1 k2 k3 k4 k5 k6 k7 k8; simp only [em44, em39, em34, f29_0, f29_1, f20_0, f20_1, upc, upn, k0, k1, k2, k3, k4, k5, k6, k7, k8, reduceIte, Nat.reduceEqDiff, ne_eq, not_false_eq_true]), (by intro j kj; first | (simp only [em44, em39, em34, f29_0, f29_1, f20_0, f20_1, upc, upn, kj, reduceIte, Nat.reduceEqDiff, ne_eq, not_false_eq_true]; done) | (simp only [em44, em39, em34, f29_0, f29_1, f20_0, f20_1, upc, upn, kj, reduceIte, Nat.reduceEqDiff, ne_eq, not_false_eq_true]; split; (exfalso; omega); rfl))⟩)
    · refine Z_aload0 hk dX9_claimTold_54 ?_
      refine Z_Vv hk (c_X9_test κ.2.1 δ ad _ hA (((M 48 43).toNat, M 82) : GA) (by (try simp only [em44, em39, em34, f29_0, f29_1, f20_0, f20_1, and_true, true_and, or_true, true_or, implies_true, upn, reduceIte, Nat.reduceEqDiff, ne_eq, not_false_eq_true]) <;> (omega)) (by (try simp only [em44, em39, em34, f29_0, f29_1, f20_0, f20_1, and_true, true_and, or_true, true_or, implies_true, upn, reduceIte, Nat.reduceEqDiff, ne_eq, not_false_eq_true]) <;> (omega)) (by (try simp only [em44, em39, em34, f29_0, f29_1, f20_0, f20_1, and_true, true_and, or_true, true_or, implies_true, upn, reduceIte, Nat.reduceEqDiff, ne_eq, not_false_eq_true]) <;> (omega)) (by (try simp only [em44, em39, em34, f29_0, f29_1, f20_0, f20_1, and_true, true_and, or_true, true_or, implies_true, upn, reduceIte, Nat.reduceEqDiff, ne_eq, not_false_eq_true]) <;> (omega)) (by (try simp only [em44, em39, em34, f29_0, f29_1, f20_0, f20_1, and_true, true_and, or_true, true_or, implies_true, upn, reduceIte, Nat.reduceEqDiff, ne_eq, not_false_eq_true]) <;> (omega)) (by (try simp only [em44, em39, em34, f29_0, f29_1, f20_0, f20_1, and_true, true_and, or_true, true_or, implies_true, upn, reduceIte, Nat.reduceEqDiff, ne_eq, not_false_eq_true]) <;> (omega)) (by (try simp only [em44, em39, em34, f29_0, f29_1, f20_0, f20_1, and_true, true_and, or_true, true_or, implies_true, upn, reduceIte, Nat.reduceEqDiff, ne_eq, not_false_eq_true]) <;> (omega)) (by (exact RP.start (by simp only [em44, em39, em34, f29_0, f29_1, f20_0, f20_1, e1, e48, and_true, true_and, or_true, true_or, implies_true, upn, reduceIte, Nat.reduceEqDiff, ne_eq, not_false_eq_true, upc]) (by simp only [em44, em39, em34, f29_0, f29_1, f20_0, f20_1, e1, e48, and_true, true_and, or_true, true_or, implies_true, upn, reduceIte, Nat.reduceEqDiff, ne_eq, not_false_eq_true, upc]) (by omega) (by simp only [em44, em39, em34, f29_0, f29_1, f20_0, f20_1, e1, e48, and_true, true_and, or_true, true_or, implies_true, upn, reduceIte, Nat.reduceEqDiff, ne_eq, not_false_eq_true, upc])))) ov_X9_test ml_X9_392 dX9_claimTold_55 rfl ⟨by decide, by decide⟩ ob_48.1 (by decide) (by decide) rfl (Nat.le_of_ble_eq_true rfl) (fun m55 p55 => ?_)
      obtain ⟨p55, f55_0, f55_1, f55_2, f55_3⟩ := p55
      try simp only [f55_0, f55_1, f55_2, f55_3, em44, em39, em34, f29_0, f29_1, f20_0, f20_1, e1, e48, and_true, true_and, or_true, true_or, implies_true, upn, reduceIte, Nat.reduceEqDiff, ne_eq, not_false_eq_true] at p55
      exact J58 _ (by exact ⟨(by (exact ⟨(by (try simp only [f55_0, f55_1, f55_2, f55_3, em44, em39, em34, f29_0, f29_1, f20_0, f20_1, e1, e48, and_true, true_and, or_true, true_or, implies_true, upn, reduceIte, Nat.reduceEqDiff, ne_eq, not_false_eq_true, upc]) <;> (repeat' (first | refine And.intro ?_ ?_ | omega))), f55_2⟩)), (by intro c k0 k1 k2; simp only [f55_0, f55_1, f55_2, f55_3, em44, em39, em34, f29_0, f29_1, f20_0, f20_1, upc, upn, k0, k1, k2, reduceIte, Nat.reduceEqDiff, ne_eq, not_false_eq_true]), (by intro i k0 k1 k2 k3 k4 k5 k6 k7 k8; simp only [f55_0, f55_1, f55_2, f55_3, em44, em39, em34, f29_0, f29_1, f20_0, f20_1, upc, upn, k0, k1, k2, k3, k4, k5, k6, k7, k8, reduceIte, Nat.reduceEqDiff, ne_eq, not_false_eq_true]), (by intro j kj; first | (simp only [f55_0, f55_1, f55_2, f55_3, em44, em39, em34, f29_0, f29_1, f20_0, f20_1, upc, upn, kj, reduceIte, Nat.reduceEqDiff, ne_eq, not_false_eq_true]; done) | (simp only [f55_0, f55_1, f55_2, f55_3, em44, em39, em34, f29_0, f29_1, f20_0, f20_1, upc, upn, kj, reduceIte, Nat.reduceEqDiff, ne_eq, not_false_eq_true]; split; (exfalso; omega); rfl))⟩)
  · refine Z_aload0 hk dX9_claimTold_9 ?_
    refine Z_iconst hk dX9_claimTold_10 ?_
    refine Z_aload0 hk dX9_claimTold_11 ?_
    refine Z_getI hk fl_9_386 dX9_claimTold_12 ob_48.1 ob_48.2.1 ob_48.2.2.1 ob_48.2.2.2 ft_9_80 (fun v12 e12 a12 b12 => ?_)
    try simp only [e1, and_true, true_and, or_true, true_or, implies_true, upn, reduceIte, Nat.reduceEqDiff, ne_eq, not_false_eq_true] at e12
    refine Z_Vv hk (c_X9_fail κ.2.1 δ ad _ hA 5 v12 (by (omega)) (by (omega))) ov_X9_fail ml_X9_275 dX9_claimTold_15 rfl ⟨by decide, by decide⟩ ob_48.1 (by decide) (by decide) rfl (Nat.le_of_ble_eq_true rfl) (fun m15 p15 => ?_)
    obtain ⟨p15, f15_0, f15_1⟩ := p15
    try simp only [f15_0, f15_1, e1, e12, and_true, true_and, or_true, true_or, implies_true, upn, reduceIte, Nat.reduceEqDiff, ne_eq, not_false_eq_true] at p15
    exact Z_vret hk hA hQ dX9_claimTold_18 ⟨rfl, rfl, rfl, (by exact ⟨(by (try simp only [f15_0, f15_1, and_true, true_and, or_true, true_or, implies_true, upn, reduceIte, Nat.reduceEqDiff, ne_eq, not_false_eq_true]) <;> (omega)), (by intro c k0 k1 k2 k3 k4; simp only [f15_0, f15_1, upc, upn, k0, k1, k2, k3, k4, reduceIte, Nat.reduceEqDiff, ne_eq, not_false_eq_true]), (by intro i k0 k1 k2 k3 k4 k5 k6 k7 k8 k9; simp only [f15_0, f15_1, upc, upn, k0, k1, k2, k3, k4, k5, k6, k7, k8, k9, reduceIte, Nat.reduceEqDiff, ne_eq, not_false_eq_true]), (by first | exact hx | (intro hb; (try simp only [f15_0, f15_1, e1, e12, and_true, true_and, or_true, true_or, implies_true, upn, reduceIte, Nat.reduceEqDiff, ne_eq, not_false_eq_true, upc] at hb); omega)), (by intro j kj; first | (simp only [f15_0, f15_1, upc, upn, kj, reduceIte, Nat.reduceEqDiff, ne_eq, not_false_eq_true]; done) | (simp only [f15_0, f15_1, upc, upn, kj, reduceIte, Nat.reduceEqDiff, ne_eq, not_false_eq_true]; split; (exfalso; omega); rfl))⟩)⟩
