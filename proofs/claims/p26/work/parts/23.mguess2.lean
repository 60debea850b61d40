theorem gs_step {z nn i v y r : Int} {T : Int} (hn : 0 ≤ nn ∧ nn ≤ 30) (hi : 0 ≤ i ∧ i ≤ nn) (h : v + (gsF z nn.toNat (nn - i + 1).toNat : Nat) = T) (hr : r = (ovN nn.toNat i.toNat : Nat)) (hy : y = if z = 1 then (2 : Int) ^ (nn - i).toNat else 1) : v + r * y + (gsF z nn.toNat (nn - (i + 1) + 1).toNat : Nat) = T := by
  have e1 : (nn - i + 1).toNat = (nn - i).toNat + 1 := by omega
  have e2 : (nn - (i + 1) + 1).toNat = (nn - i).toNat := by omega
  have e3 : i.toNat < nn.toNat + 1 := by omega
  have e4 := ov_sym nn.toNat (by omega) i.toNat e3
  rw [show nn.toNat - i.toNat = (nn - i).toNat by omega] at e4
  rw [e1] at h
  have e5 : (gsF z nn.toNat ((nn - i).toNat + 1) : Nat) = gsF z nn.toNat (nn - i).toNat + ovN nn.toNat (nn - i).toNat * (if z = 1 then 2 ^ (nn - i).toNat else 1) := rfl
  rw [e5] at h
  rw [e2, hr, hy, e4, ← h]
  by_cases hz : z = 1
  · rw [if_pos hz, if_pos hz]; push_cast; omega
  · rw [if_neg hz, if_neg hz]; push_cast; omega
set_option maxRecDepth 10000 in
theorem c_X9_guessed (l : Launch) (δ : Dp) (ad : Nat → Nat) (M : Mem) (hA : okA δ ad) (z : Int) (k : Int) (nn : Int) (q0 : 0 ≤ nn ∧ nn ≤ 30 ∧ 0 ≤ k ∧ k ≤ nn) (q1 : z = 0 ∨ z = 1) : Mj l δ yX9_guessed cX9_guessed 6 (some (.long)) 1 25 ad rs [iv z, iv k, iv nn] M (fun r M' => M = M' ∧ (r = (gsF z nn.toNat (nn - k + 1).toNat : Nat))) := by
  refine Mg.of (rm := rmN 1 25) (by decide) (Nat.le_of_ble_eq_true rfl) fun κ _ hk _ => ?_
  generalize hQ : Qg κ δ 121 (rmN 1 25).cells (rmN 1 25).slots _ = Q
  show Zj κ δ ad rs Q 6 (121, 0, 0) 0 [some (iv z), some (iv k), some (iv nn), none, none, none] [] M
  refine Z_lconst0 hk dX9_guessed_0 ?_
  refine Z_lstore3 hk rfl (by decide) dX9_guessed_1 ?_
  refine Z_iload1 hk dX9_guessed_2 ?_
  have J5 : ∀ (n : Nat) (x3_5 : Int) (x5_5 : Int), ((k ≤ x5_5 ∧ x5_5 ≤ nn + 1) ∧ x3_5 + (gsF z nn.toNat (nn - x5_5 + 1).toNat : Nat) = (gsF z nn.toNat (nn - k + 1).toNat : Nat)) → (nn + 1 - x5_5) < (n : Int) → Zj κ δ ad rs Q 6 (121, 0, 0) 5 [some (iv z), some (iv k), some (iv nn), some (jv x3_5), none, some (iv x5_5)] [] M := by
    intro n
    induction n with
    | zero => intro x3_5 x5_5 h5 hm5; exfalso; obtain ⟨h5, -⟩ := h5; omega
    | succ n ih5 =>
      intro x3_5 x5_5 h5 hm5
      refine Z_iload5 hk dX9_guessed_5 ?_
      refine Z_iload2 hk dX9_guessed_7 ?_
      refine Z_icmp_gt hk (tgt := 45) dX9_guessed_8 (by decide) (by omega) (by omega) (by omega) (by omega) (fun h8 => ?_) (fun h8 => ?_)
      · refine Z_lload3 hk dX9_guessed_45 ?_
        exact Z_lret hk hA hQ dX9_guessed_46 ⟨rfl, rfl, _, rfl, (by exact ⟨rfl, (by have h := h5.2; rw [show (nn - x5_5 + 1).toNat = 0 from (by omega)] at h; simpa [gsF] using h)⟩)⟩
      · refine Z_lload3 hk dX9_guessed_11 ?_
        refine Z_iload2 hk dX9_guessed_12 ?_
        refine Z_iload5 hk dX9_guessed_13 ?_
        refine Z_Sj hk (c_X9_over κ.2.1 δ ad _ hA nn x5_5 (by (omega))) os_X9_over ml_X9_534 dX9_guessed_15 rfl ⟨by decide, by decide⟩ rfl (Nat.le_of_ble_eq_true rfl) (fun r15 m15 p15 => ?_)
        obtain ⟨rfl, p15⟩ := p15
        refine Z_iload0 hk dX9_guessed_18 ?_
        have J36 : ∀ (y2_36 : Int), (y2_36 = if z = 1 then (2 : Int) ^ (nn - x5_5).toNat else 1) → Zj κ δ ad rs Q 6 (121, 0, 0) 36 [some (iv z), some (iv k), some (iv nn), some (jv x3_5), none, some (iv x5_5)] [jv y2_36, jv r15, jv x3_5] M := by
          intro y2_36 h36
          refine Z_lmul hk dX9_guessed_36 ?_
          refine Z_ladd hk dX9_guessed_37 ?_
          refine Z_lstore3 hk rfl (by decide) dX9_guessed_38 ?_
          refine Z_iinc5 hk rfl (by decide) dX9_guessed_39 ?_
          refine Z_goto hk (tgt := 5) dX9_guessed_42 (by decide) ?_
          exact ih5 _ _ (by exact ⟨by omega, gs_step (by omega) (by omega) h5.2 p15 h36⟩) (by (omega))
        refine Z_if_eq hk (tgt := 35) dX9_guessed_19 (by decide) (by omega) (by omega) (fun h19 => ?_) (fun h19 => ?_)
        · refine Z_lconst1 hk dX9_guessed_35 ?_
          exact J36 _ (by rw [if_neg (by omega)])
        · refine Z_ldc2_w hk (n := 2) (mem_g (by decide +kernel)) dX9_guessed_22 ?_
          refine Z_iload2 hk dX9_guessed_25 ?_
          refine Z_iload5 hk dX9_guessed_26 ?_
          refine Z_isub hk dX9_guessed_28 ?_
          refine Z_Sj hk (c_X9_power κ.2.1 δ ad _ hA (2) (nn - x5_5) (by (omega))) os_X9_power ml_X9_540 dX9_guessed_29 rfl ⟨by decide, by decide⟩ rfl (Nat.le_of_ble_eq_true rfl) (fun r29 m29 p29 => ?_)
          obtain ⟨rfl, p29⟩ := p29
          refine Z_goto hk (tgt := 36) dX9_guessed_32 (by decide) ?_
          exact J36 _ (by rw [if_pos (by omega)]; exact p29)
  refine Z_istore5 hk rfl (by decide) dX9_guessed_3 ?_
  exact J5 (((nn + 1 - k) : Int).toNat + 1) _ _ (by exact ⟨by omega, by omega⟩) (by omega)
set_option maxRecDepth 10000 in
theorem c_X9_guess (l : Launch) (δ : Dp) (ad : Nat → Nat) (M : Mem) (hA : okA δ ad) (z : Int) (k : Int) (nn : Int) (q1 : z = 0 ∨ z = 1) (i_k : -2147483648 ≤ k ∧ k ≤ 2147483647) (i_nn : -2147483648 ≤ nn ∧ nn ≤ 2147483647) : Mj l δ yX9_guess cX9_guess 4 (some (.long)) 2 50 ad rs [.ref (ad 48), iv z, iv k, iv nn] M (fun r M' => M = M' ∧ (r = if 0 ≤ nn ∧ nn ≤ 30 ∧ 0 ≤ k ∧ k ≤ nn then ((gsF z nn.toNat (nn - k + 1).toNat : Nat) : Int) else -1)) := by
  refine Mg.of (rm := rmN 2 50) (by decide) (Nat.le_of_ble_eq_true rfl) fun κ _ hk _ => ?_
  generalize hQ : Qg κ δ 121 (rmN 2 50).cells (rmN 2 50).slots _ = Q
  show Zj κ δ ad rs Q 4 (121, 0, 0) 0 [some (.ref (ad 48)), some (iv z), some (iv k), some (iv nn)] [] M
  refine Z_iload3 hk dX9_guess_0 ?_
  refine Z_i2l hk dX9_guess_1 (by omega) (by omega) ?_
  refine Z_lconst0 hk dX9_guess_2 ?_
  refine Z_ldc2_w hk (n := 30) (mem_g (by decide +kernel)) dX9_guess_3 ?_
  refine Z_Si hk (c_X9_isIn κ.2.1 δ ad _ hA nn 0 (30) (by (omega)) (by (omega)) (by (omega))) os_X9_isIn ml_X9_285 dX9_guess_6 rfl ⟨by decide, by decide⟩ rfl (Nat.le_of_ble_eq_true rfl) (fun r6 m6 p6 => ?_)
  obtain ⟨rfl, p6⟩ := p6
  refine Z_if_eq hk (tgt := 32) dX9_guess_9 (by decide) (by omega) (by omega) (fun h9 => ?_) (fun h9 => ?_)
  · refine Z_ldc2_w hk (n := -1) (mem_g (by decide +kernel)) dX9_guess_32 ?_
    exact Z_lret hk hA hQ dX9_guess_35 ⟨rfl, rfl, _, rfl, (by exact ⟨rfl, (by first | (rw [if_pos (by omega)]; assumption) | (rw [if_neg (by omega)]))⟩)⟩
  · refine Z_iload2 hk dX9_guess_12 ?_
    refine Z_i2l hk dX9_guess_13 (by omega) (by omega) ?_
    refine Z_lconst0 hk dX9_guess_14 ?_
    refine Z_iload3 hk dX9_guess_15 ?_
    refine Z_i2l hk dX9_guess_16 (by omega) (by omega) ?_
    refine Z_Si hk (c_X9_isIn κ.2.1 δ ad _ hA k 0 nn (by (omega)) (by (omega)) (by (omega))) os_X9_isIn ml_X9_285 dX9_guess_17 rfl ⟨by decide, by decide⟩ rfl (Nat.le_of_ble_eq_true rfl) (fun r17 m17 p17 => ?_)
    obtain ⟨rfl, p17⟩ := p17
    refine Z_if_eq hk (tgt := 32) dX9_guess_20 (by decide) (by omega) (by omega) (fun h20 => ?_) (fun h20 => ?_)
    · refine Z_ldc2_w hk (n := -1) (mem_g (by decide +kernel)) dX9_guess_32 ?_
      exact Z_lret hk hA hQ dX9_guess_35 ⟨rfl, rfl, _, rfl, (by exact ⟨rfl, (by first | (rw [if_pos (by omega)]; assumption) | (rw [if_neg (by omega)]))⟩)⟩
    · refine Z_iload1 hk dX9_guess_23 ?_
      refine Z_iload2 hk dX9_guess_24 ?_
      refine Z_iload3 hk dX9_guess_25 ?_
      refine Z_Sj hk (c_X9_guessed κ.2.1 δ ad _ hA z k nn (by (omega)) (by (omega))) os_X9_guessed ml_X9_544 dX9_guess_26 rfl ⟨by decide, by decide⟩ rfl (Nat.le_of_ble_eq_true rfl) (fun r26 m26 p26 => ?_)
      obtain ⟨rfl, p26⟩ := p26
      refine Z_goto hk (tgt := 35) dX9_guess_29 (by decide) ?_
      exact Z_lret hk hA hQ dX9_guess_35 ⟨rfl, rfl, _, rfl, (by exact ⟨rfl, (by first | (rw [if_pos (by omega)]; assumption) | (rw [if_neg (by omega)]))⟩)⟩
