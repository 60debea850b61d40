/-- n over i, as both sides reckon it -/
def ovN (n : Nat) : Nat → Nat
  | 0 => 1
  | i + 1 => ovN n i * (n - i) / (i + 1)
/-- the ways of guessing in which at most m are wrong, of n; z = 1: of three cups -/
def gsF (z : Int) (n : Nat) : Nat → Nat
  | 0 => 0
  | m + 1 => gsF z n m + ovN n m * (if z = 1 then 2 ^ m else 1)
theorem ov_le : ∀ n, n < 31 → ∀ i, i < 32 → ovN n i < 268435456 := by decide +kernel
theorem ov_sym : ∀ n, n < 31 → ∀ j, j < n + 1 → ovN n j = ovN n (n - j) := by decide +kernel
theorem gs_le1 : ∀ n, n < 31 → ∀ m, m < 32 → gsF 1 n m < 281474976710656 := by decide +kernel
theorem gs_le0 : ∀ n, n < 31 → ∀ m, m < 32 → gsF 0 n m < 281474976710656 := by decide +kernel
theorem gs_le {z : Int} (h : z = 0 ∨ z = 1) {n m : Nat} (hn : n < 31) (hm : m < 32) : gsF z n m < 281474976710656 := by
  rcases h with rfl | rfl
  · exact gs_le0 n hn m hm
  · exact gs_le1 n hn m hm
theorem ov_step {n i : Int} {v : Int} (hn : 0 ≤ n) (hi : 1 ≤ i) (hin : i ≤ n + 1) (hv : v = (ovN n.toNat (i - 1).toNat : Nat)) : Int.tdiv (v * (n + 1 - i)) i = (ovN n.toNat i.toNat : Nat) := by
  have e1 : i.toNat = (i - 1).toNat + 1 := by omega
  rw [e1]
  show _ = ((ovN n.toNat (i - 1).toNat * (n.toNat - (i - 1).toNat) / ((i - 1).toNat + 1) : Nat) : Int)
  rw [Int.tdiv_eq_ediv_of_nonneg (by rw [hv]; exact Int.mul_nonneg (Int.natCast_nonneg _) (by omega)), hv]
  have e2 : n + 1 - i = ((n.toNat - (i - 1).toNat : Nat) : Int) := by omega
  have e3 : i = (((i - 1).toNat + 1 : Nat) : Int) := by omega
  rw [e2]
  generalize (i - 1).toNat = w at *
  rw [e3]
  push_cast
  rfl
set_option maxRecDepth 10000 in
theorem c_X9_over (l : Launch) (δ : Dp) (ad : Nat → Nat) (M : Mem) (hA : okA δ ad) (nn : Int) (k : Int) (q0 : 0 ≤ nn ∧ nn ≤ 30 ∧ 0 ≤ k ∧ k ≤ nn) : Mj l δ yX9_over cX9_over 5 (some (.long)) 0 0 ad rs [iv nn, iv k] M (fun r M' => M = M' ∧ (r = (ovN nn.toNat k.toNat : Nat))) := by
  refine Mg.of (rm := rmN 0 0) (by decide) (Nat.le_of_ble_eq_true rfl) fun κ _ hk _ => ?_
  generalize hQ : Qg κ δ 121 (rmN 0 0).cells (rmN 0 0).slots _ = Q
  show Zj κ δ ad rs Q 5 (121, 0, 0) 0 [some (iv nn), some (iv k), none, none, none] [] M
  refine Z_lconst1 hk dX9_over_0 ?_
  refine Z_lstore2 hk rfl (by decide) dX9_over_1 ?_
  refine Z_iconst hk dX9_over_2 ?_
  have J5 : ∀ (n : Nat) (x2_5 : Int) (x4_5 : Int), ((1 ≤ x4_5 ∧ x4_5 ≤ k + 1) ∧ x2_5 = (ovN nn.toNat (x4_5 - 1).toNat : Nat)) → (k + 1 - x4_5) < (n : Int) → Zj κ δ ad rs Q 5 (121, 0, 0) 5 [some (iv nn), some (iv k), some (jv x2_5), none, some (iv x4_5)] [] M := by
    intro n
    induction n with
    | zero => intro x2_5 x4_5 h5 hm5; exfalso; obtain ⟨h5, -⟩ := h5; omega
    | succ n ih5 =>
      intro x2_5 x4_5 h5 hm5
      have o5 := ov_le nn.toNat (by omega) (x4_5 - 1).toNat (by omega)
      refine Z_iload4 hk dX9_over_5 ?_
      refine Z_iload1 hk dX9_over_7 ?_
      refine Z_icmp_gt hk (tgt := 31) dX9_over_8 (by decide) (by omega) (by omega) (by omega) (by omega) (fun h8 => ?_) (fun h8 => ?_)
      · refine Z_lload2 hk dX9_over_31 ?_
        exact Z_lret hk hA hQ dX9_over_32 ⟨rfl, rfl, _, rfl, (by exact ⟨rfl, (by rw [h5.2]; congr 2; omega)⟩)⟩
      · refine Z_lload2 hk dX9_over_11 ?_
        refine Z_iload0 hk dX9_over_12 ?_
        refine Z_iconst hk dX9_over_13 ?_
        refine Z_iadd hk dX9_over_14 ?_
        refine Z_iload4 hk dX9_over_15 ?_
        refine Z_isub hk dX9_over_17 ?_
        refine Z_i2l hk dX9_over_18 (by omega) (by omega) ?_
        refine Z_lmul hk dX9_over_19 ?_
        refine Z_iload4 hk dX9_over_20 ?_
        refine Z_i2l hk dX9_over_22 (by omega) (by omega) ?_
        refine Z_ldiv hk dX9_over_23 (by first | omega | (have m1 : 0 ≤ x2_5 * (nn + 1 - x4_5) := Int.mul_nonneg (by omega) (by omega); have m2 : x2_5 * (nn + 1 - x4_5) ≤ 268435456 * 30 := Int.mul_le_mul (by omega) (by omega) (by omega) (by omega); omega)) (by first | omega | (have m1 : 0 ≤ x2_5 * (nn + 1 - x4_5) := Int.mul_nonneg (by omega) (by omega); have m2 : x2_5 * (nn + 1 - x4_5) ≤ 268435456 * 30 := Int.mul_le_mul (by omega) (by omega) (by omega) (by omega); omega)) (by first | omega | (have m1 : 0 ≤ x2_5 * (nn + 1 - x4_5) := Int.mul_nonneg (by omega) (by omega); have m2 : x2_5 * (nn + 1 - x4_5) ≤ 268435456 * 30 := Int.mul_le_mul (by omega) (by omega) (by omega) (by omega); omega)) (by first | omega | (have m1 : 0 ≤ x2_5 * (nn + 1 - x4_5) := Int.mul_nonneg (by omega) (by omega); have m2 : x2_5 * (nn + 1 - x4_5) ≤ 268435456 * 30 := Int.mul_le_mul (by omega) (by omega) (by omega) (by omega); omega)) (by first | omega | (have m1 : 0 ≤ x2_5 * (nn + 1 - x4_5) := Int.mul_nonneg (by omega) (by omega); have m2 : x2_5 * (nn + 1 - x4_5) ≤ 268435456 * 30 := Int.mul_le_mul (by omega) (by omega) (by omega) (by omega); omega)) ?_
        refine Z_lstore2 hk rfl (by decide) dX9_over_24 ?_
        refine Z_iinc4 hk rfl (by decide) dX9_over_25 ?_
        refine Z_goto hk (tgt := 5) dX9_over_28 (by decide) ?_
        exact ih5 _ _ (by refine ⟨by omega, ?_⟩; rw [ov_step (by omega) h5.1.1 (by omega) h5.2]; congr 2; omega) (by (omega))
  refine Z_istore4 hk rfl (by decide) dX9_over_3 ?_
  exact J5 (((k + 1 - 1) : Int).toNat + 1) _ _ (by exact ⟨by omega, rfl⟩) (by omega)
set_option maxRecDepth 10000 in
theorem c_X9_power (l : Launch) (δ : Dp) (ad : Nat → Nat) (M : Mem) (hA : okA δ ad) (b : Int) (nn : Int) (q0 : 0 ≤ nn ∧ nn ≤ 100) : Mj l δ yX9_power cX9_power 6 (some (.long)) 0 0 ad rs [jv b, iv nn] M (fun r M' => M = M' ∧ (r = b ^ nn.toNat)) := by
  refine Mg.of (rm := rmN 0 0) (by decide) (Nat.le_of_ble_eq_true rfl) fun κ _ hk _ => ?_
  generalize hQ : Qg κ δ 121 (rmN 0 0).cells (rmN 0 0).slots _ = Q
  show Zj κ δ ad rs Q 6 (121, 0, 0) 0 [some (jv b), none, some (iv nn), none, none, none] [] M
  refine Z_lconst1 hk dX9_power_0 ?_
  refine Z_lstore3 hk rfl (by decide) dX9_power_1 ?_
  refine Z_iconst hk dX9_power_2 ?_
  have J5 : ∀ (n : Nat) (x3_5 : Int) (x5_5 : Int), ((0 ≤ x5_5 ∧ x5_5 ≤ nn) ∧ x3_5 = b ^ (x5_5).toNat) → (nn - x5_5) < (n : Int) → Zj κ δ ad rs Q 6 (121, 0, 0) 5 [some (jv b), none, some (iv nn), some (jv x3_5), none, some (iv x5_5)] [] M := by
    intro n
    induction n with
    | zero => intro x3_5 x5_5 h5 hm5; exfalso; obtain ⟨h5, -⟩ := h5; omega
    | succ n ih5 =>
      intro x3_5 x5_5 h5 hm5
      refine Z_iload5 hk dX9_power_5 ?_
      refine Z_iload2 hk dX9_power_7 ?_
      refine Z_icmp_ge hk (tgt := 21) dX9_power_8 (by decide) (by omega) (by omega) (by omega) (by omega) (fun h8 => ?_) (fun h8 => ?_)
      · refine Z_lload3 hk dX9_power_21 ?_
        exact Z_lret hk hA hQ dX9_power_22 ⟨rfl, rfl, _, rfl, (by exact ⟨rfl, (by rw [h5.2]; congr 1; omega)⟩)⟩
      · refine Z_lload3 hk dX9_power_11 ?_
        refine Z_lload0 hk dX9_power_12 ?_
        refine Z_lmul hk dX9_power_13 ?_
        refine Z_lstore3 hk rfl (by decide) dX9_power_14 ?_
        refine Z_iinc5 hk rfl (by decide) dX9_power_15 ?_
        refine Z_goto hk (tgt := 5) dX9_power_18 (by decide) ?_
        exact ih5 _ _ (by refine ⟨by omega, ?_⟩; rw [h5.2, show (x5_5 + 1).toNat = x5_5.toNat + 1 from (by omega), Int.pow_succ]) (by (omega))
  refine Z_istore5 hk rfl (by decide) dX9_power_3 ?_
  exact J5 (((nn - 0) : Int).toNat + 1) _ _ (by exact ⟨by omega, (Int.pow_zero b).symm⟩) (by omega)
