theorem wb_tb (n : Nat) : (lN n).toBitVec = BitVec.ofNat 64 n := rfl
theorem wb_inj {a b : Int64} (h : a.toBitVec = b.toBitVec) : a = b := Int64.toBitVec_inj.mp h
theorem wb_c : ∀ k, k < 64 → ((nI k).toInt64 &&& 63) = lN k := by decide +kernel
theorem wb_sm : ∀ k, k < 64 → (BitVec.ofNat 64 k).smod 64 = BitVec.ofNat 64 k := by decide +kernel
theorem wb_shl (n : Nat) {k : Nat} (hk : k < 64) : lN n <<< ((nI k).toInt64 &&& 63) = lN (n * 2 ^ k) := by
  rw [wb_c k hk]
  apply wb_inj
  rw [Int64.toBitVec_shiftLeft, wb_tb, wb_tb, wb_tb, wb_sm k hk]
  apply BitVec.eq_of_toNat_eq
  rw [BitVec.shiftLeft_eq', BitVec.toNat_shiftLeft, BitVec.toNat_ofNat, BitVec.toNat_ofNat, BitVec.toNat_ofNat, Nat.mod_eq_of_lt (show k < 2 ^ 64 by omega), Nat.shiftLeft_eq, Nat.mul_mod, Nat.mod_mod, ← Nat.mul_mod]
theorem zJ_lN {x : Int} (h0 : 0 ≤ x) (h1 : x ≤ 9223372036854775807) : Int64.ofInt x = lN x.toNat := Int64.toInt_inj.mp (by rw [zJ_toInt (by omega) h1, pk_lT (by omega)]; omega)
theorem shl_pow {v m : Int} (h0 : 0 ≤ v) (h1 : v < 268435456) (m0 : 0 ≤ m) (m1 : m ≤ 30) : (Int64.ofInt v <<< ((Int32.ofInt m).toInt64 &&& 63)).toInt = v * 2 ^ m.toNat := by
  rw [zJ_lN h0 (by omega), zI_nI m0 (by omega), wb_shl _ (by omega)]
  have hp : 2 ^ m.toNat ≤ 2 ^ 30 := Nat.pow_le_pow_right (by decide) (by omega)
  have hq : v.toNat * 2 ^ m.toNat ≤ 268435456 * 2 ^ 30 := Nat.mul_le_mul (by omega) hp
  rw [pk_lT (by omega)]
  push_cast
  rw [show ((v.toNat : Nat) : Int) = v by omega]
set_option maxRecDepth 10000 in
theorem c_X0_above (l : Launch) (δ : Dp) (ad : Nat → Nat) (M : Mem) (hA : okA δ ad) (z : Int) (k : Int) (nn : Int) (q0 : 0 ≤ nn ∧ nn ≤ 30 ∧ 0 ≤ k ∧ k ≤ nn) (q1 : z = 0 ∨ z = 1) : Mj l δ yX0_above cX0_above 9 (some (.long)) 0 0 ad rs [.ref (ad 8), iv z, iv k, iv nn] M (fun r M' => M = M' ∧ (r = (gsF z nn.toNat (nn - k + 1).toNat : Nat))) := by
  refine Mg.of (rm := rmN 0 0) (by decide) (Nat.le_of_ble_eq_true rfl) fun κ _ hk _ => ?_
  generalize hQ : Qg κ δ 121 (rmN 0 0).cells (rmN 0 0).slots _ = Q
  show Zj κ δ ad rs Q 9 (121, 0, 0) 0 [some (.ref (ad 8)), some (iv z), some (iv k), some (iv nn), none, none, none, none, none] [] M
  refine Z_lconst1 hk dX0_above_0 ?_
  refine Z_lstore4 hk rfl (by decide) dX0_above_1 ?_
  refine Z_lconst0 hk dX0_above_3 ?_
  refine Z_lstore6 hk rfl (by decide) dX0_above_4 ?_
  refine Z_iload3 hk dX0_above_6 ?_
  have J9 : ∀ (n : Nat) (x4_9 : Int) (x6_9 : Int) (x8_9 : Int), ((k - 1 ≤ x8_9 ∧ x8_9 ≤ nn) ∧ x4_9 = (ovN nn.toNat (nn - x8_9).toNat : Nat) ∧ x6_9 = (gsF z nn.toNat (nn - x8_9).toNat : Nat)) → (x8_9 + 1) < (n : Int) → Zj κ δ ad rs Q 9 (121, 0, 0) 9 [some (.ref (ad 8)), some (iv z), some (iv k), some (iv nn), some (jv x4_9), none, some (jv x6_9), none, some (iv x8_9)] [] M := by
    intro n
    induction n with
    | zero => intro x4_9 x6_9 x8_9 h9 hm9; exfalso; obtain ⟨h9, -⟩ := h9; omega
    | succ n ih9 =>
      intro x4_9 x6_9 x8_9 h9 hm9
      have o9 := ov_le nn.toNat (by omega) (nn - x8_9).toNat (by omega)
      obtain ⟨h9, h9a, h9b⟩ := h9
      refine Z_iload8 hk dX0_above_9 ?_
      refine Z_iload2 hk dX0_above_11 ?_
      refine Z_icmp_lt hk (tgt := 58) dX0_above_12 (by decide) (by omega) (by omega) (by omega) (by omega) (fun h12 => ?_) (fun h12 => ?_)
      · refine Z_lload6 hk dX0_above_58 ?_
        exact Z_lret hk hA hQ dX0_above_60 ⟨rfl, rfl, _, rfl, (by exact ⟨rfl, (by rw [h9b]; congr 2; omega)⟩)⟩
      · refine Z_lload6 hk dX0_above_15 ?_
        refine Z_iload1 hk dX0_above_17 ?_
        have J33 : ∀ (y1_33 : Int), (y1_33 = x4_9 * (if z = 1 then (2 : Int) ^ (nn - x8_9).toNat else 1)) → Zj κ δ ad rs Q 9 (121, 0, 0) 33 [some (.ref (ad 8)), some (iv z), some (iv k), some (iv nn), some (jv x4_9), none, some (jv x6_9), none, some (iv x8_9)] [jv y1_33, jv x6_9] M := by
          intro y1_33 h33
          refine Z_ladd hk dX0_above_33 ?_
          refine Z_lstore6 hk rfl (by decide) dX0_above_34 ?_
          refine Z_lload4 hk dX0_above_36 ?_
          refine Z_iload8 hk dX0_above_38 ?_
          refine Z_i2l hk dX0_above_40 (by omega) (by omega) ?_
          refine Z_lmul hk dX0_above_41 ?_
          refine Z_iload3 hk dX0_above_42 ?_
          refine Z_iload8 hk dX0_above_43 ?_
          refine Z_isub hk dX0_above_45 ?_
          refine Z_iconst hk dX0_above_46 ?_
          refine Z_iadd hk dX0_above_47 ?_
          refine Z_i2l hk dX0_above_48 (by omega) (by omega) ?_
          refine Z_ldiv hk dX0_above_49 (by first | omega | (have m1 : 0 ≤ x4_9 * x8_9 := Int.mul_nonneg (by omega) (by omega); have m2 : x4_9 * x8_9 ≤ 268435456 * 30 := Int.mul_le_mul (by omega) (by omega) (by omega) (by omega); omega)) (by first | omega | (have m1 : 0 ≤ x4_9 * x8_9 := Int.mul_nonneg (by omega) (by omega); have m2 : x4_9 * x8_9 ≤ 268435456 * 30 := Int.mul_le_mul (by omega) (by omega) (by omega) (by omega); omega)) (by first | omega | (have m1 : 0 ≤ x4_9 * x8_9 := Int.mul_nonneg (by omega) (by omega); have m2 : x4_9 * x8_9 ≤ 268435456 * 30 := Int.mul_le_mul (by omega) (by omega) (by omega) (by omega); omega)) (by first | omega | (have m1 : 0 ≤ x4_9 * x8_9 := Int.mul_nonneg (by omega) (by omega); have m2 : x4_9 * x8_9 ≤ 268435456 * 30 := Int.mul_le_mul (by omega) (by omega) (by omega) (by omega); omega)) (by first | omega | (have m1 : 0 ≤ x4_9 * x8_9 := Int.mul_nonneg (by omega) (by omega); have m2 : x4_9 * x8_9 ≤ 268435456 * 30 := Int.mul_le_mul (by omega) (by omega) (by omega) (by omega); omega)) ?_
          refine Z_lstore4 hk rfl (by decide) dX0_above_50 ?_
          refine Z_iinc8 hk rfl (by decide) dX0_above_52 ?_
          refine Z_goto hk (tgt := 9) dX0_above_55 (by decide) ?_
          exact ih9 _ _ _ (by refine ⟨by omega, ?_, ?_⟩; exact (by have s := ov_step (n := nn) (i := nn - x8_9 + 1) (v := x4_9) (by omega) (by omega) (by omega) (by rw [h9a]; congr 2; omega); rw [show nn + 1 - (nn - x8_9 + 1) = x8_9 from (by omega)] at s; rw [s]; congr 2; omega); exact (by rw [show (nn - (x8_9 + -1)).toNat = (nn - x8_9).toNat + 1 from (by omega), h9b, h33]; show _ = ((gsF z nn.toNat (nn - x8_9).toNat + ovN nn.toNat (nn - x8_9).toNat * (if z = 1 then 2 ^ (nn - x8_9).toNat else 1) : Nat) : Int); rw [h9a]; by_cases hz : z = 1; rw [if_pos hz, if_pos hz]; push_cast; rfl; rw [if_neg hz, if_neg hz]; push_cast; omega)) (by (omega))
        refine Z_if_eq hk (tgt := 31) dX0_above_18 (by decide) (by omega) (by omega) (fun h18 => ?_) (fun h18 => ?_)
        · refine Z_lload4 hk dX0_above_31 ?_
          exact J33 _ (by rw [if_neg (by omega), Int.mul_one])
        · refine Z_lload4 hk dX0_above_21 ?_
          refine Z_iload3 hk dX0_above_23 ?_
          refine Z_iload8 hk dX0_above_24 ?_
          refine Z_isub hk dX0_above_26 ?_
          refine Z_lshl hk dX0_above_27 (fun v27 e27 a27 b27 => ?_)
          refine Z_goto hk (tgt := 33) dX0_above_28 (by decide) ?_
          exact J33 _ (by rw [if_pos (by omega), e27]; exact shl_pow (by omega) (by omega) (by omega) (by omega))
  refine Z_istore8 hk rfl (by decide) dX0_above_7 ?_
  exact J9 (((nn + 1) : Int).toNat + 1) _ _ _ (by refine ⟨by omega, ?_, ?_⟩; rw [show (nn - nn).toNat = 0 from (by omega)]; rfl; rw [show (nn - nn).toNat = 0 from (by omega)]; rfl) (by omega)
set_option maxRecDepth 10000 in
theorem c_X8_isPartOf (l : Launch) (δ : Dp) (ad : Nat → Nat) (M : Mem) (hA : okA δ ad) (p : Int) (nn : Int) (i_p : -2147483648 ≤ p ∧ p ≤ 2147483647) (i_nn : -2147483648 ≤ nn ∧ nn ≤ 2147483647) : Mi l δ yX8_isPartOf cX8_isPartOf 2 (some (.boolean)) 0 0 ad rs [iv p, iv nn] M (fun r M' => M = M' ∧ (0 ≤ r ∧ r ≤ 1 ∧ (r = 1 ↔ 0 ≤ nn ∧ nn ≤ 30 ∧ 0 ≤ p ∧ p ≤ nn))) := by
  refine Mg.of (rm := rmN 0 0) (by decide) (Nat.le_of_ble_eq_true rfl) fun κ _ hk _ => ?_
  generalize hQ : Qg κ δ 121 (rmN 0 0).cells (rmN 0 0).slots _ = Q
  show Zj κ δ ad rs Q 2 (121, 0, 0) 0 [some (iv p), some (iv nn)] [] M
  refine Z_iload1 hk dX8_isPartOf_0 ?_
  refine Z_if_lt hk (tgt := 23) dX8_isPartOf_1 (by decide) (by omega) (by omega) (fun h1 => ?_) (fun h1 => ?_)
  · refine Z_iconst hk dX8_isPartOf_23 ?_
    exact Z_zret hk hA hQ dX8_isPartOf_24 (by decide) (by decide) ⟨rfl, rfl, _, rfl, (by exact ⟨rfl, (by omega)⟩)⟩
  · refine Z_iload1 hk dX8_isPartOf_4 ?_
    refine Z_bipush hk dX8_isPartOf_5 (by decide) ?_
    refine Z_icmp_gt hk (tgt := 23) dX8_isPartOf_7 (by decide) (by omega) (by omega) (by decide) (by decide) (fun h7 => ?_) (fun h7 => ?_)
    · refine Z_iconst hk dX8_isPartOf_23 ?_
      exact Z_zret hk hA hQ dX8_isPartOf_24 (by decide) (by decide) ⟨rfl, rfl, _, rfl, (by exact ⟨rfl, (by omega)⟩)⟩
    · refine Z_iload0 hk dX8_isPartOf_10 ?_
      refine Z_if_lt hk (tgt := 23) dX8_isPartOf_11 (by decide) (by omega) (by omega) (fun h11 => ?_) (fun h11 => ?_)
      · refine Z_iconst hk dX8_isPartOf_23 ?_
        exact Z_zret hk hA hQ dX8_isPartOf_24 (by decide) (by decide) ⟨rfl, rfl, _, rfl, (by exact ⟨rfl, (by omega)⟩)⟩
      · refine Z_iload0 hk dX8_isPartOf_14 ?_
        refine Z_iload1 hk dX8_isPartOf_15 ?_
        refine Z_icmp_gt hk (tgt := 23) dX8_isPartOf_16 (by decide) (by omega) (by omega) (by omega) (by omega) (fun h16 => ?_) (fun h16 => ?_)
        · refine Z_iconst hk dX8_isPartOf_23 ?_
          exact Z_zret hk hA hQ dX8_isPartOf_24 (by decide) (by decide) ⟨rfl, rfl, _, rfl, (by exact ⟨rfl, (by omega)⟩)⟩
        · refine Z_iconst hk dX8_isPartOf_19 ?_
          refine Z_goto hk (tgt := 24) dX8_isPartOf_20 (by decide) ?_
          exact Z_zret hk hA hQ dX8_isPartOf_24 (by decide) (by decide) ⟨rfl, rfl, _, rfl, (by exact ⟨rfl, (by omega)⟩)⟩
set_option maxRecDepth 10000 in
theorem c_X8_guess (l : Launch) (δ : Dp) (ad : Nat → Nat) (M : Mem) (hA : okA δ ad) (z : Int) (k : Int) (nn : Int) (q1 : z = 0 ∨ z = 1) (i_k : -2147483648 ≤ k ∧ k ≤ 2147483647) (i_nn : -2147483648 ≤ nn ∧ nn ≤ 2147483647) : Mj l δ yX8_guess cX8_guess 4 (some (.long)) 1 28 ad rs [.ref (ad 0), iv z, iv k, iv nn] M (fun r M' => M = M' ∧ (r = if 0 ≤ nn ∧ nn ≤ 30 ∧ 0 ≤ k ∧ k ≤ nn then ((gsF z nn.toNat (nn - k + 1).toNat : Nat) : Int) else -1)) := by
  refine Mg.of (rm := rmN 1 28) (by decide) (Nat.le_of_ble_eq_true rfl) fun κ _ hk _ => ?_
  generalize hQ : Qg κ δ 121 (rmN 1 28).cells (rmN 1 28).slots _ = Q
  show Zj κ δ ad rs Q 4 (121, 0, 0) 0 [some (.ref (ad 0)), some (iv z), some (iv k), some (iv nn)] [] M
  refine Z_iload2 hk dX8_guess_0 ?_
  refine Z_iload3 hk dX8_guess_1 ?_
  refine Z_Si hk (c_X8_isPartOf κ.2.1 δ ad _ hA k nn (by (omega)) (by (omega))) os_X8_isPartOf ml_X8_187 dX8_guess_2 rfl ⟨by decide, by decide⟩ rfl (Nat.le_of_ble_eq_true rfl) (fun r2 m2 p2 => ?_)
  obtain ⟨rfl, p2⟩ := p2
  refine Z_if_eq hk (tgt := 21) dX8_guess_5 (by decide) (by omega) (by omega) (fun h5 => ?_) (fun h5 => ?_)
  · refine Z_ldc2_w hk (n := -1) (mem_g (by decide +kernel)) dX8_guess_21 ?_
    exact Z_lret hk hA hQ dX8_guess_24 ⟨rfl, rfl, _, rfl, (by exact ⟨rfl, (by first | (rw [if_pos (by omega)]; assumption) | (rw [if_neg (by omega)]))⟩)⟩
  · refine Z_aload0 hk dX8_guess_8 ?_
    refine Z_getR hk fl_8_29 dX8_guess_9 ob_0.1 ob_0.2.1 ob_0.2.2.1 ob_0.2.2.2 ft_8_2 rs_0_2 ?_
    refine Z_iload1 hk dX8_guess_12 ?_
    refine Z_iload2 hk dX8_guess_13 ?_
    refine Z_iload3 hk dX8_guess_14 ?_
    refine Z_Vj hk (c_X0_above κ.2.1 δ ad _ hA z k nn (by (omega)) (by (omega))) ov_X0_above ml_X8_179 dX8_guess_15 rfl ⟨by decide, by decide⟩ ob_8.1 (by decide) (by decide) rfl (Nat.le_of_ble_eq_true rfl) (fun r15 m15 p15 => ?_)
    obtain ⟨rfl, p15⟩ := p15
    refine Z_goto hk (tgt := 24) dX8_guess_18 (by decide) ?_
    exact Z_lret hk hA hQ dX8_guess_24 ⟨rfl, rfl, _, rfl, (by exact ⟨rfl, (by first | (rw [if_pos (by omega)]; assumption) | (rw [if_neg (by omega)]))⟩)⟩
