theorem pm_iff {t v : Nat} : pm t v = true ↔ ∀ a, a < t → ∃ p, p < t ∧ dg t v p = a := by
  unfold pm
  simp only [List.all_eq_true, List.any_eq_true, List.mem_range, beq_iff_eq]
theorem dg_lt {t v p : Nat} (h : 0 < t) : dg t v p < t := Nat.mod_lt _ h
theorem dg_z {t v z p : Nat} (hz : z = v / t ^ (t - 1 - p)) : z % t = dg t v p := by rw [hz]; rfl
theorem dv_z {t v z k : Nat} (hz : z = v / t ^ k) : z / t = v / t ^ (k + 1) := by rw [hz, Nat.div_div_eq_div_mul, Nat.pow_succ]
theorem seen_pm {t s : Nat} {v : Nat} (ht : 0 < t) (h : ∀ a : Nat, s.testBit a = true ↔ ∃ q : Nat, q < t ∧ dg t v q = a) : s = 2 ^ t - 1 ↔ pm t v = true := by
  rw [pm_iff]
  constructor
  · intro e a ha
    apply (h a).mp
    rw [e, Nat.testBit_two_pow_sub_one]
    exact decide_eq_true ha
  · intro hp
    apply Nat.eq_of_testBit_eq
    intro a
    rw [Nat.testBit_two_pow_sub_one]
    by_cases ha : a < t
    · rw [decide_eq_true ha]
      exact (h a).mpr (hp a ha)
    · rw [decide_eq_false ha]
      apply Bool.eq_false_iff.mpr
      intro hb
      obtain ⟨q, h1, h2⟩ := (h a).mp hb
      have := dg_lt (t := t) (v := v) (p := q) ht
      omega
set_option maxHeartbeats 1000000 in
set_option maxRecDepth 10000 in
theorem c_X9_lays_f (l : Launch) (δ : Dp) (ad : Nat → Nat) (M : Mem) (hA : okA δ ad) (v : Int) (t : Int) (i : Int) (q0 : 0 ≤ v ∧ v ≤ 2147483647 ∧ 2 ≤ t ∧ t ≤ 5 ∧ 0 ≤ i ∧ i ≤ 29) (q1 : TH (M 118)) : Mi l δ yX9_lays cX9_lays 7 (some (.boolean)) 0 0 ad rs [.ref (ad 48), iv v, iv t, iv i] M (fun r M' => (0 ≤ r ∧ r ≤ 1 ∧ (r = 1 ↔ pm t.toNat v.toNat = true)) ∧ (∀ c : Nat, c ≠ 118 → M' c = M c) ∧ (TH (M' 118)) ∧ (∀ q : Nat, (q : Int) < t → M' 118 (5 * i.toNat + q) = ((dg t.toNat v.toNat q : Nat) : Int)) ∧ (∀ j : Nat, (j < 5 * i.toNat ∨ 5 * i.toNat + t.toNat ≤ j) → M' 118 j = M 118 j)) := by
  refine Mg.of (rm := rmN 0 0) (by decide) (Nat.le_of_ble_eq_true rfl) fun κ _ hk _ => ?_
  generalize hQ : Qg κ δ 121 (rmN 0 0).cells (rmN 0 0).slots _ = Q
  show Zj κ δ ad rs Q 7 (121, 0, 0) 0 [some (.ref (ad 48)), some (iv v), some (iv t), some (iv i), none, none, none] [] M
  refine Z_iconst hk dX9_lays_0 ?_
  refine Z_istore4 hk rfl (by decide) dX9_lays_1 ?_
  refine Z_iload1 hk dX9_lays_3 ?_
  refine Z_istore5 hk rfl (by decide) dX9_lays_4 ?_
  refine Z_iload2 hk dX9_lays_6 ?_
  refine Z_iconst hk dX9_lays_7 ?_
  refine Z_isub hk dX9_lays_8 ?_
  have J11 : ∀ (n : Nat) (x4_11 : Int) (x5_11 : Int) (x6_11 : Int) (m11 : Mem), (((-1 ≤ x6_11 ∧ x6_11 ≤ t - 1 ∧ 0 ≤ x5_11 ∧ x5_11 ≤ 2147483647 ∧ 0 ≤ x4_11 ∧ x4_11 < 65536) ∧ (x5_11 : Int).toNat = v.toNat / t.toNat ^ (t - 1 - x6_11).toNat ∧ (∀ q : Nat, x6_11 < (q : Int) → (q : Int) < t → m11 118 (5 * i.toNat + q) = ((dg t.toNat v.toNat q : Nat) : Int)) ∧ (∀ a : Nat, (x4_11 : Int).toNat.testBit a = true ↔ ∃ q : Nat, x6_11 < (q : Int) ∧ (q : Int) < t ∧ dg t.toNat v.toNat q = a) ∧ (∀ j : Nat, (j < 5 * i.toNat ∨ 5 * i.toNat + t.toNat ≤ j) → m11 118 j = M 118 j) ∧ TH (m11 118)) ∧ (∀ c : Nat, c ≠ 118 → m11 c = M c)) → (x6_11 + 1) < (n : Int) → Zj κ δ ad rs Q 7 (121, 0, 0) 11 [some (.ref (ad 48)), some (iv v), some (iv t), some (iv i), some (iv x4_11), some (iv x5_11), some (iv x6_11)] [] m11 := by
    intro n
    induction n with
    | zero => intro x4_11 x5_11 x6_11 m11 h11 hm11; exfalso; obtain ⟨h11, -⟩ := h11; obtain ⟨h11, -⟩ := h11; omega
    | succ n ih11 =>
      intro x4_11 x5_11 x6_11 m11 h11 hm11
      obtain ⟨h11, f11_0⟩ := h11
      try simp only [f11_0, and_true, true_and, or_true, true_or, implies_true, upn, reduceIte, Nat.reduceEqDiff, ne_eq, not_false_eq_true, upc] at h11 hm11
      refine Z_iload6 hk dX9_lays_11 ?_
      refine Z_if_lt hk (tgt := 54) dX9_lays_13 (by decide) (by omega) (by omega) (fun h13 => ?_) (fun h13 => ?_)
      · refine Z_iload4 hk dX9_lays_54 ?_
        refine Z_iconst hk dX9_lays_56 ?_
        refine Z_iload2 hk dX9_lays_57 ?_
        refine Z_ishl hk dX9_lays_58 (fun v58 e58 a58 b58 => ?_)
        have s58 : v58 = ((2 ^ t.toNat : Nat) : Int) := by
          rw [e58]
          exact seen_all (by omega) (by omega)
        have sp58 := seen_pm (t := t.toNat) (s := x4_11.toNat) (v := v.toNat) (by omega) (fun a => (h11.2.2.2.1 a).trans ⟨fun z => by obtain ⟨q, z1, z2, z3⟩ := z; exact ⟨q, by omega, z3⟩, fun z => by obtain ⟨q, z1, z2⟩ := z; exact ⟨q, by omega, by omega, z2⟩⟩)
        have s61 : 2 ^ t.toNat ≤ 2 ^ 5 := Nat.pow_le_pow_right (by decide) (by omega)
        have s62 : 1 ≤ 2 ^ t.toNat := Nat.one_le_two_pow
        obtain ⟨g58, hg58⟩ : ∃ g : Nat, g = 2 ^ t.toNat := ⟨_, rfl⟩
        rw [← hg58] at s58 s61 s62 sp58
        refine Z_iconst hk dX9_lays_59 ?_
        refine Z_isub hk dX9_lays_60 ?_
        refine Z_icmp_ne hk (tgt := 68) dX9_lays_61 (by decide) (by omega) (by omega) (by omega) (by omega) (fun h61 => ?_) (fun h61 => ?_)
        · refine Z_iconst hk dX9_lays_68 ?_
          exact Z_zret hk hA hQ dX9_lays_69 (by decide) (by decide) ⟨rfl, rfl, _, rfl, (by exact ⟨(by (try simp only [f11_0, and_true, true_and, or_true, true_or, implies_true, upn, reduceIte, Nat.reduceEqDiff, ne_eq, not_false_eq_true, upc]) <;> (refine ⟨by omega, by omega, ?_⟩; rw [← sp58]; first | (exact ⟨(fun z => absurd z (by decide)), fun z => absurd (show x4_11 = v58 - 1 by omega) h61⟩) | (exact ⟨(fun _ => by omega), fun _ => by first | rfl | trivial⟩))), (by intro c k0; simp only [f11_0, upc, upn, k0, reduceIte, Nat.reduceEqDiff, ne_eq, not_false_eq_true]), (by exact h11.2.2.2.2.2), (by exact fun q hq => h11.2.2.1 q (by omega) hq), (by exact h11.2.2.2.2.1)⟩)⟩
        · refine Z_iconst hk dX9_lays_64 ?_
          refine Z_goto hk (tgt := 69) dX9_lays_65 (by decide) ?_
          exact Z_zret hk hA hQ dX9_lays_69 (by decide) (by decide) ⟨rfl, rfl, _, rfl, (by exact ⟨(by (try simp only [f11_0, and_true, true_and, or_true, true_or, implies_true, upn, reduceIte, Nat.reduceEqDiff, ne_eq, not_false_eq_true, upc]) <;> (refine ⟨by omega, by omega, ?_⟩; rw [← sp58]; first | (exact ⟨(fun z => absurd z (by decide)), fun z => absurd (show x4_11 = v58 - 1 by omega) h61⟩) | (exact ⟨(fun _ => by omega), fun _ => by first | rfl | trivial⟩))), (by intro c k0; simp only [f11_0, upc, upn, k0, reduceIte, Nat.reduceEqDiff, ne_eq, not_false_eq_true]), (by exact h11.2.2.2.2.2), (by exact fun q hq => h11.2.2.1 q (by omega) hq), (by exact h11.2.2.2.2.1)⟩)⟩
      · refine Z_aload0 hk dX9_lays_16 ?_
        refine Z_getR hk fl_9_233 dX9_lays_17 ob_48.1 ob_48.2.1 ob_48.2.2.1 ob_48.2.2.2 ft_9_110 rs_48_110 ?_
        refine Z_iconst hk dX9_lays_20 ?_
        refine Z_iload3 hk dX9_lays_21 ?_
        refine Z_imul hk dX9_lays_22 ?_
        refine Z_iload6 hk dX9_lays_23 ?_
        refine Z_iadd hk dX9_lays_25 ?_
        refine Z_iload5 hk dX9_lays_26 ?_
        refine Z_iload2 hk dX9_lays_28 ?_
        refine Z_irem hk dX9_lays_29 (by omega) (by omega) (by omega) (by omega) (by omega) ?_
        have g30 := tm_in (x := x5_11) (y := t) (by omega) (by omega)
        have g31 := td_in (x := x5_11) (y := t) (by omega) (by omega)
        have dm30 : Int.tmod x5_11 t = ((dg t.toNat v.toNat x6_11.toNat : Nat) : Int) := by
          have e : x5_11 = ((x5_11.toNat : Nat) : Int) := by omega
          have e2 : t = ((t.toNat : Nat) : Int) := by omega
          rw [Int.tmod_eq_emod_of_nonneg (by omega), ← dg_z (z := x5_11.toNat) (by rw [h11.2.1]; congr 2; omega)]
          push_cast
          rw [← e, ← e2]
        have dq31 : (Int.tdiv x5_11 t).toNat = x5_11.toNat / t.toNat := by
          have e : x5_11 = ((x5_11.toNat : Nat) : Int) := by omega
          have e2 : t = ((t.toNat : Nat) : Int) := by omega
          have e3 : x5_11 / t = ((x5_11.toNat / t.toNat : Nat) : Int) := by
            push_cast
            rw [← e, ← e2]
          rw [Int.tdiv_eq_ediv_of_nonneg (by omega), e3]
          rfl
        refine Z_iast hk hA dX9_lays_30 ar_118.1 ar_118.2.1 ar_118.2.2 (by omega) (by omega) (by omega) (by omega) ?_
        refine Z_nm (fun m30 em30 => ?_)
        refine Z_iload4 hk dX9_lays_31 ?_
        refine Z_iconst hk dX9_lays_33 ?_
        refine Z_iload5 hk dX9_lays_34 ?_
        refine Z_iload2 hk dX9_lays_36 ?_
        refine Z_irem hk dX9_lays_37 (by omega) (by omega) (by omega) (by omega) (by omega) ?_
        refine Z_ishl hk dX9_lays_38 (fun v38 e38 a38 b38 => ?_)
        refine Z_ior hk dX9_lays_39 (fun v39 e39 a39 b39 => ?_)
        have s39 : v39 = ((x4_11.toNat ||| 2 ^ (Int.tmod x5_11 t).toNat : Nat) : Int) := by
          rw [e39, e38]
          exact seen_or (by omega) (by omega) (by omega) (by omega)
        have s40 : x4_11.toNat ||| 2 ^ (Int.tmod x5_11 t).toNat < 2 ^ 16 := Nat.or_lt_two_pow (by omega) (Nat.pow_lt_pow_right (by decide) (by omega))
        refine Z_istore4 hk rfl (by decide) dX9_lays_40 ?_
        refine Z_iload5 hk dX9_lays_42 ?_
        refine Z_iload2 hk dX9_lays_44 ?_
        refine Z_idiv hk dX9_lays_45 (by omega) (by omega) (by omega) (by omega) (by omega) ?_
        refine Z_istore5 hk rfl (by decide) dX9_lays_46 ?_
        refine Z_iinc6 hk rfl (by decide) dX9_lays_48 ?_
        refine Z_goto hk (tgt := 11) dX9_lays_51 (by decide) ?_
        exact ih11 _ _ _ _ (by exact ⟨(by (refine ⟨by omega, ?_, (fun q h1 h2 => ?_), (fun a => ?_), (fun j hj => ?_), ?_⟩; (rw [dq31, show (t - 1 - (x6_11 + -1)).toNat = (t - 1 - x6_11).toNat + 1 from by omega]; exact dv_z h11.2.1); (simp only [em30, f11_0, and_true, true_and, or_true, true_or, implies_true, upn, reduceIte, Nat.reduceEqDiff, ne_eq, not_false_eq_true, upc, upc]; by_cases c : q = x6_11.toNat; (rw [if_pos (by omega), c]; exact dm30); (rw [if_neg (by omega)]; exact h11.2.2.1 q (by omega) h2)); (rw [s39, Int.toNat_natCast, Nat.testBit_or, Nat.testBit_two_pow, Bool.or_eq_true, decide_eq_true_eq, h11.2.2.2.1 a]; constructor; (intro z; rcases z with ⟨q, z1, z2, z3⟩ | z; exact ⟨q, by omega, z2, z3⟩; exact ⟨x6_11.toNat, by omega, by omega, by omega⟩); (intro z; obtain ⟨q, z1, z2, z3⟩ := z; by_cases c : q = x6_11.toNat; (right; subst c; omega); (left; exact ⟨q, by omega, z2, z3⟩))); (simp only [em30, f11_0, and_true, true_and, or_true, true_or, implies_true, upn, reduceIte, Nat.reduceEqDiff, ne_eq, not_false_eq_true, upc, upc]; rw [if_neg (by omega)]; exact h11.2.2.2.2.1 j hj); (simp only [em30, f11_0, and_true, true_and, or_true, true_or, implies_true, upn, reduceIte, Nat.reduceEqDiff, ne_eq, not_false_eq_true, upc, upc]; exact h11.2.2.2.2.2.put (by omega)))), (by intro c k0; simp only [em30, f11_0, upc, upn, k0, reduceIte, Nat.reduceEqDiff, ne_eq, not_false_eq_true])⟩) (by (try simp only [em30, f11_0, and_true, true_and, or_true, true_or, implies_true, upn, reduceIte, Nat.reduceEqDiff, ne_eq, not_false_eq_true, upc]) <;> (omega))
  refine Z_istore6 hk rfl (by decide) dX9_lays_9 ?_
  exact J11 ((((t - 1) + 1) : Int).toNat + 1) _ _ _ _ (by exact ⟨(by (exact ⟨by omega, (by rw [show (t - 1 - (t - 1)).toNat = 0 from by omega, Nat.pow_zero, Nat.div_one]), (fun q h1 h2 => by omega), (fun a => ⟨(fun h => by simp at h), fun h => by obtain ⟨q, h1, h2, -⟩ := h; omega⟩), (fun j _ => rfl), q1⟩)), (by intro c k0; rfl)⟩) (by omega)
