def qbt (x : Int32) (i : Nat) : Bool := x.toBitVec.getLsbD i
theorem qb_ext {x y : Int32} (h : ∀ i, i < 32 → qbt x i = qbt y i) : x = y := Int32.toBitVec_inj.mp (BitVec.eq_of_getLsbD_eq (fun i hi => h i hi))
theorem qb_big {x : Int32} {i : Nat} (h : 32 ≤ i) : qbt x i = false := BitVec.getLsbD_of_ge _ _ h
theorem qb_0 (i : Nat) : qbt 0 i = false := BitVec.getLsbD_zero
theorem qs_l : ∀ n, n < 32 → ((nI n &&& 31).toBitVec.smod 32).toNat = n := by decide +kernel
theorem qs_u : ∀ n, n < 32 → (((nI n).toUInt32 &&& Int32.toUInt32 31).toBitVec % 32).toNat = n := by decide +kernel
theorem qb_ushr (n : Nat) (hn : n < 32) (x : Int32) (i : Nat) : qbt ((x.toUInt32 >>> ((nI n).toUInt32 &&& Int32.toUInt32 31)).toInt32) i = qbt x (n + i) := by
  show (x.toUInt32 >>> ((nI n).toUInt32 &&& Int32.toUInt32 31)).toBitVec.getLsbD i = x.toUInt32.toBitVec.getLsbD (n + i)
  rw [UInt32.toBitVec_shiftRight]
  show (x.toUInt32.toBitVec >>> (((nI n).toUInt32 &&& Int32.toUInt32 31).toBitVec % 32).toNat).getLsbD i = _
  rw [qs_u n hn, BitVec.getLsbD_ushiftRight]
theorem qb_sshr (n : Nat) (hn : n < 32) (x : Int32) {i : Nat} (hi : i < 32) : qbt (x >>> (nI n &&& 31)) i = if n + i < 32 then qbt x (n + i) else qbt x 31 := by
  unfold qbt
  rw [Int32.toBitVec_shiftRight]
  show (x.toBitVec.sshiftRight ((nI n &&& 31).toBitVec.smod 32).toNat).getLsbD i = _
  rw [qs_l n hn, BitVec.getLsbD_sshiftRight, BitVec.msb_eq_getLsbD_last]
  simp [hi]
theorem qb_31 (x : Int32) : qbt x 31 = decide (x.toInt < 0) := by
  have h := BitVec.msb_eq_toInt (x := x.toBitVec)
  rw [BitVec.msb_eq_getLsbD_last] at h
  exact h
theorem us_eq {v y : Int} (h0 : 0 ≤ v) (h1 : v ≤ 2147483647) (y0 : 0 ≤ y) (y1 : y ≤ 31) : ((Int32.ofInt v).toUInt32 >>> ((Int32.ofInt y).toUInt32 &&& Int32.toUInt32 31)).toInt32 = Int32.ofInt v >>> (Int32.ofInt y &&& 31) := by
  rw [zI_nI (x := y) y0 (by omega)]
  apply qb_ext
  intro i hi
  rw [qb_ushr _ (by omega), qb_sshr _ (by omega) _ hi]
  by_cases c : y.toNat + i < 32
  · rw [if_pos c]
  · rw [if_neg c, qb_big (by omega), qb_31, zI_toInt (by omega) h1]
    exact (decide_eq_false (by omega)).symm
theorem us_ne {v y : Int} (h0 : v < 0) (h1 : -2147483648 ≤ v) (y0 : 0 ≤ y) (y1 : y ≤ 31) : ((Int32.ofInt v).toUInt32 >>> ((Int32.ofInt y).toUInt32 &&& Int32.toUInt32 31)).toInt32.toInt ≠ 0 := by
  rw [zI_nI (x := y) y0 (by omega)]
  intro h
  have e := Int32.toInt_inj.mp (show _ = (0 : Int32).toInt from h)
  have b := qb_ushr y.toNat (by omega) (Int32.ofInt v) (31 - y.toNat)
  rw [e, qb_0, show y.toNat + (31 - y.toNat) = 31 from by omega, qb_31, zI_toInt h1 (by omega)] at b
  rw [decide_eq_true h0] at b
  cases b
/-- place j of the number v, four bits each -/
def D4 (v : Int) (j : Nat) : Int := (Int32.ofInt (Int32.ofInt v >>> (Int32.ofInt (4 * (j : Int)) &&& 31)).toInt &&& Int32.ofInt 15).toInt
theorem D4_in (v : Int) (j : Nat) : 0 ≤ D4 v j ∧ D4 v j ≤ 15 := by
  have h := and_mask (Int32.ofInt (Int32.ofInt v >>> (Int32.ofInt (4 * (j : Int)) &&& 31)).toInt) 4 (m := 15) (by decide +kernel) (by decide)
  unfold D4
  omega
def sn (v : Int) : Nat → Nat
  | 0 => 0
  | j + 1 => sn v j ||| 2 ^ (D4 v j).toNat
theorem sn_bit {v : Int} : ∀ n j, j < n → (sn v n).testBit (D4 v j).toNat = true := by
  intro n
  induction n with
  | zero => intro j h; omega
  | succ n ih =>
    intro j h
    by_cases c : j < n
    · exact tb_or (Or.inl (ih j c))
    · rw [show j = n from by omega]; exact tb_or (Or.inr rfl)
theorem sn_all {v : Int} {t j : Nat} (h : sn v t = 2 ^ t - 1) (hj : j < t) : D4 v j < t := by
  have b := sn_bit (v := v) t j hj
  rw [h, Nat.testBit_two_pow_sub_one] at b
  have := of_decide_eq_true b
  have := D4_in v j
  omega
def sh4 (v t : Int) : Int := (Int32.ofInt v >>> (Int32.ofInt (4 * t) &&& 31)).toInt
def ACC (v : Int) (t : Nat) : Prop := 0 ≤ v ∧ sh4 v (t : Int) = 0 ∧ sn v t = 2 ^ t - 1
/-- what both sides hold of the orders -/
def REL (M : Mem) : Prop := M 48 108 = M 32 0 ∧ M 48 109 = M 32 1 ∧ ((M 32 0 = 0 ∧ M 32 1 = 0) ∨ (2 ≤ M 32 0 ∧ M 32 0 ≤ 5 ∧ 1 ≤ M 32 1 ∧ M 32 1 ≤ 30)) ∧ AG (M 32 0).toNat (M 32 1).toNat (M 33) (M 118) ∧ CC (M 34) (M 35) (M 33) (M 32 0).toNat (M 32 1).toNat
theorem REL.of {M M' : Mem} (h : REL M) (a : M' 32 0 = M 32 0) (b : M' 32 1 = M 32 1) (c : M' 33 = M 33) (d : M' 34 = M 34) (e : M' 35 = M 35) (f : M' 48 108 = M 48 108) (g : M' 48 109 = M 48 109) (i : M' 118 = M 118) : REL M' := by
  unfold REL
  rw [a, b, c, d, e, f, g, i]
  exact h
def ocl (t n : Int) (M M' : Mem) : Prop := ((2 ≤ t ∧ t ≤ 5 ∧ 1 ≤ n ∧ n ≤ 30) ∧ M' 32 0 = t ∧ M' 32 1 = n ∧ LD t.toNat n.toNat (M' 33) ∧ CC (M' 34) (M' 35) (M' 33) t.toNat n.toNat) ∨ (¬ (2 ≤ t ∧ t ≤ 5 ∧ 1 ≤ n ∧ n ≤ 30) ∧ M' = M)
def oml (t n : Int) (M M' : Mem) : Prop := ((2 ≤ t ∧ t ≤ 5 ∧ 1 ≤ n ∧ n ≤ 30) ∧ M' 48 108 = t ∧ M' 48 109 = n ∧ LD t.toNat n.toNat (M' 118)) ∨ (¬ (2 ≤ t ∧ t ≤ 5 ∧ 1 ≤ n ∧ n ≤ 30) ∧ M' = M)
theorem REL_orders {t n : Int} {M M1 M2 : Mem} (h : REL M) (hc : ocl t n M M1) (hm : oml t n M1 M2) (e1 : M2 32 = M1 32) (e2 : M2 33 = M1 33) (e3 : M2 34 = M1 34) (e4 : M2 35 = M1 35) : REL M2 := by
  rcases hc with ⟨c, c1, c2, c3, c4⟩ | ⟨c, c1⟩
  · rcases hm with ⟨-, d1, d2, d3⟩ | ⟨d, -⟩
    · unfold REL
      rw [e1, e2, e3, e4, d1, d2, c1, c2]
      exact ⟨rfl, rfl, Or.inr c, LD_eq (by omega) (by omega) c3 d3 _ (Nat.le_refl _), c4⟩
    · exact absurd c d
  · rcases hm with ⟨d, -⟩ | ⟨-, d⟩
    · exact absurd d c
    · rw [d, c1]; exact h
def scY (v r : Int) (M M' : Mem) : Prop := M' 32 0 = M 32 0 ∧ M' 32 1 = M 32 1 + 1 ∧ (∀ p, p < (M 32 0).toNat → M' 33 (5 * (M 32 1).toNat + p) = D4 v p) ∧ (∀ j, j < 5 * (M 32 1).toNat → M' 33 j = M 33 j) ∧ (∀ a b : Nat, a < (M 32 0).toNat → b < (M 32 0).toNat → M' 34 (5 * a + b) = M 34 (5 * a + b) + if D4 v b = a then 1 else 0) ∧ (∀ a b : Nat, a < (M 32 0).toNat → b < (M 32 0).toNat → M' 35 (5 * a + b) = M 35 (5 * a + b) + cA1 (D4 v) 0 a b (M 32 0).toNat) ∧ r = U1 (M' 34) (M' 35) (M 32 0) (M 32 1 + 1) (M 32 0).toNat (M 32 0).toNat
def scZ (r : Int) (M M' : Mem) : Prop := r = -1 ∧ M' 32 = M 32 ∧ M' 33 = M 33 ∧ M' 34 = M 34 ∧ M' 35 = M 35
def scL (v r : Int) (M M' : Mem) : Prop := (ACC v (M 32 0).toNat ∧ scY v r M M') ∨ (¬ ACC v (M 32 0).toNat ∧ scZ r M M')
def scS (v r : Int) (M M' : Mem) : Prop := ((1 ≤ M 32 1 ∧ M 32 1 < 30 ∧ ACC v (M 32 0).toNat) ∧ scY v r M M') ∨ (¬ (1 ≤ M 32 1 ∧ M 32 1 < 30 ∧ ACC v (M 32 0).toNat) ∧ scZ r M M')
def smS (v r : Int) (M M' : Mem) : Prop := ((M 48 108 ≠ 0 ∧ M 48 109 ≠ 30 ∧ ACC v (M 48 108).toNat) ∧ M' 48 108 = M 48 108 ∧ M' 48 109 = M 48 109 + 1 ∧ (∀ p, p < (M 48 108).toNat → M' 118 (5 * (M 48 109).toNat + p) = D4 v p) ∧ (∀ j, j < 5 * (M 48 109).toNat → M' 118 j = M 118 j) ∧ r = UN (M 48 108).toNat ((M 48 109).toNat + 1) (M' 118)) ∨ (¬ (M 48 108 ≠ 0 ∧ M 48 109 ≠ 30 ∧ ACC v (M 48 108).toNat) ∧ r = -1 ∧ M' 48 108 = M 48 108 ∧ M' 48 109 = M 48 109 ∧ M' 118 = M 118)
theorem REL_serves {v r r' : Int} {M M1 M2 : Mem} (h : REL M) (hc : scS v r M M1) (g1 : M1 48 = M 48) (g2 : M1 118 = M 118) (hm : smS v r' M1 M2) (e1 : M2 32 = M1 32) (e2 : M2 33 = M1 33) (e3 : M2 34 = M1 34) (e4 : M2 35 = M1 35) : REL M2 ∧ r = r' ∧ -1 ≤ r ∧ r ≤ 28125000 := by
  obtain ⟨a1, a2, a3, a4, a5⟩ := h
  unfold smS at hm
  rw [g1, g2, a1, a2] at hm
  have hcond : (1 ≤ M 32 1 ∧ M 32 1 < 30 ∧ ACC v (M 32 0).toNat) ↔ (M 32 0 ≠ 0 ∧ M 32 1 ≠ 30 ∧ ACC v (M 32 0).toNat) := ⟨fun z => ⟨by omega, by omega, z.2.2⟩, fun z => ⟨by omega, by omega, z.2.2⟩⟩
  rcases hc with ⟨c, c1, c2, c3, c4, c5, c6, c7⟩ | ⟨c, c1, c2, c3, c4, c5⟩
  · rcases hm with ⟨-, d1, d2, d3, d4, d5⟩ | ⟨d, -⟩
    · have ag : AG (M 32 0).toNat (M 32 1).toNat (M 33) (M1 33) := AG.of (by omega) (fun j hj => (c4 j hj).symm)
      have cc := CC_step (g := D4 v) a5 ag c3 c5 c6
      have ag2 : AG (M 32 0).toNat ((M 32 1).toNat + 1) (M1 33) (M2 118) := by
        intro i p hi hp
        by_cases z : i < (M 32 1).toNat
        · rw [c4 _ (by omega), d4 _ (by omega)]; exact a4 i p z hp
        · rw [show i = (M 32 1).toNat from by omega, c3 p hp, d3 p hp]
      have u := UN_of (by omega) cc
      rw [show (((M 32 0).toNat : Nat) : Int) = M 32 0 from by omega, show (((M 32 1).toNat + 1 : Nat) : Int) = M 32 1 + 1 from by omega] at u
      have ui := UN_in (t := (M 32 0).toNat) (n := (M 32 1).toNat + 1) (f := M1 33) (by omega) (by omega) (by omega)
      refine ⟨?_, ?_, by rw [c7, u]; omega, by rw [c7, u]; omega⟩
      · unfold REL
        rw [e1, e2, e3, e4, d1, d2, c1, c2, show (M 32 1 + 1).toNat = (M 32 1).toNat + 1 from by omega]
        exact ⟨rfl, rfl, Or.inr (by omega), ag2, cc⟩
      · rw [c7, u, d5]
        exact UN_congr (by omega) ag2
    · exact absurd (hcond.mp c) d
  · rcases hm with ⟨d, -⟩ | ⟨-, d1, d2, d3, d4⟩
    · exact absurd (hcond.mpr d) c
    · refine ⟨?_, by omega, by omega, by omega⟩
      unfold REL
      rw [e1, e2, e3, e4, d2, d3, d4, c2, c3, c4, c5]
      exact ⟨rfl, rfl, a3, a4, a5⟩
theorem REL_served {M : Mem} (h : REL M) (hT : TH (M 118)) {i p r r' : Int} (h1 : r = if 0 ≤ i ∧ i < M 32 1 ∧ 0 ≤ p ∧ p < M 32 0 then M 33 (5 * i + p).toNat else -1) (h2 : r' = if 0 ≤ i ∧ i < M 48 109 ∧ 0 ≤ p ∧ p < M 48 108 then M 118 (5 * i + p).toNat else -1) : r = r' ∧ -1 ≤ r' ∧ r' ≤ 4 := by
  obtain ⟨a1, a2, a3, a4, a5⟩ := h
  rw [a1, a2] at h2
  by_cases c : 0 ≤ i ∧ i < M 32 1 ∧ 0 ≤ p ∧ p < M 32 0
  · rw [if_pos c] at h1 h2
    have e := a4 i.toNat p.toNat (by omega) (by omega)
    rw [show 5 * i.toNat + p.toNat = (5 * i + p).toNat from by omega] at e
    have := hT (5 * i + p).toNat (by omega)
    rw [h1, h2, e]
    omega
  · rw [if_neg c] at h1 h2
    omega
set_option maxHeartbeats 2000000 in
theorem c_X8_planR (l : Launch) (δ : Dp) (ad : Nat → Nat) (M : Mem) (hA : okA δ ad) (hz : NS δ) (h : Inv M) (s : Int) (s1 : -2147483648 ≤ s ∧ s ≤ 2147483647) : Mg l δ yX8_plan cX8_plan 3 (some (.int)) (rmN 41 922) 121 121 ad rs [.ref (ad 0), iv s] M (fun v ad' rt' M' => rt' = rs ∧ (∃ r, v = some (iv r)) ∧ ad' 0 = ad 0 ∧ ad' 48 = ad 48 ∧ Inv M' ∧ ∀ c, ((32 ≤ c ∧ c ≤ 37) ∨ 48 ≤ c) → M' c = M c) := by
  refine Mg.of (rm := rmN 41 922) (by decide) (Nat.le_of_ble_eq_true rfl) fun κ _ hk _ => ?_
  generalize hQ : Qg κ δ 121 (rmN 41 922).cells (rmN 41 922).slots _ = Q
  show Zj κ δ ad rs Q 3 (121, 0, 0) 0 [some (.ref (ad 0)), some (iv s), none] [] M
  obtain ⟨⟨a1, a2, a3, a4, a5, a6, a7, a8, a9, a10, a11, a12, a13, a14⟩, hm⟩ := id h
  refine Z_iload1 hk dX8_plan_0 ?_
  refine Z_if_ge hk (tgt := 7) dX8_plan_1 (by decide) (by omega) (by omega) (fun h1 => ?_) (fun h1 => ?_)
  rotate_left
  · refine Z_bipush hk dX8_plan_4 (by decide) ?_
    exact Z_iret hk hA hQ dX8_plan_6 ⟨rfl, ⟨_, rfl⟩, rfl, rfl, h, fun _ _ => rfl⟩
  refine Z_aload0 hk dX8_plan_7 ?_
  refine Z_getR hk fl_8_58 dX8_plan_8 ob_0.1 ob_0.2.1 ob_0.2.2.1 ob_0.2.2.2 ft_8_0 rs_0_0 ?_
  refine Z_Vi hk (c_X4_readPlan κ.2.1 δ ad _ hA hz a1 a10 a11 a12) ov_X4_readPlan ml_X8_91 dX8_plan_11 rfl ⟨by decide, by decide⟩ ob_20.1 (by decide) (by decide) rfl (Nat.le_of_ble_eq_true rfl) (fun r M1 p => ?_)
  obtain ⟨p, f0, f1, f2, f3, f4, f5⟩ := p
  have hv : Inv M1 := by
    refine ⟨?_, hm.of (fun c hc => by rw [f0 c (by omega) (by omega) (by omega) (by omega) (by omega) (by omega) (by omega) (by omega) (by omega) (by omega)])⟩
    refine ⟨by omega, ?_, ?_, ?_, ?_, ?_, ?_, ?_, ?_, ?_, ?_, ?_, ?_, ?_⟩ <;> (try simp only [f0, f1, f2, and_true, true_and, or_true, true_or, implies_true, upn, reduceIte, Nat.reduceEqDiff, ne_eq, not_false_eq_true, upc]) <;> first | omega | assumption
  have hs1 : ∀ c, ((32 ≤ c ∧ c ≤ 37) ∨ 48 ≤ c) → M1 c = M c := fun c hc => by apply f0 <;> omega
  refine Z_istore2 hk rfl (by decide) dX8_plan_14 ?_
  refine Z_iload2 hk dX8_plan_15 ?_
  refine Z_iconst hk dX8_plan_16 ?_
  refine Z_icmp_ne hk (tgt := 22) dX8_plan_17 (by decide) (by omega) (by omega) (by decide) (by decide) (fun h2 => ?_) (fun h2 => ?_)
  rotate_left
  · refine Z_iconst hk dX8_plan_20 ?_
    exact Z_iret hk hA hQ dX8_plan_21 ⟨rfl, ⟨_, rfl⟩, rfl, rfl, hv, hs1⟩
  refine Z_aload0 hk dX8_plan_22 ?_
  refine Z_aload0 hk dX8_plan_23 ?_
  refine Z_getR hk fl_8_58 dX8_plan_24 ob_0.1 ob_0.2.1 ob_0.2.2.1 ob_0.2.2.2 ft_8_0 rs_0_0 ?_
  refine Z_aload0 hk dX8_plan_27 ?_
  refine Z_getR hk fl_8_69 dX8_plan_28 ob_0.1 ob_0.2.1 ob_0.2.2.1 ob_0.2.2.2 ft_8_7 rs_0_7 ?_
  refine Z_callV hk (ρ := (121, 0, 0)) (b := 20) (As := [.ref (ad 38)]) (S := [.ref (ad 0)]) (c_X4_trade κ.2.1 δ ad M1 hA) ov_X4_trade ml_X8_95 dX8_plan_31 rfl ⟨by decide, by decide⟩ ob_20.1 (by decide) (by decide) rfl (Nat.le_of_ble_eq_true rfl) ⟨Nat.le_refl 0, Nat.le_refl 0⟩ (fun v ad' rt' M' _ hp => ?_)
  obtain ⟨rfl, rfl, rfl, rfl⟩ := hp
  show Zj κ δ ad' rt1 Q 3 (121, 0, 0) 34 [some (.ref (ad' 0)), some (iv s), some (iv r)] [.ref (ad' 21), .ref (ad' 0)] M'
  refine Z_putR hk hA fl_8_69 dX8_plan_34 ob_0.1 ob_0.2.1 ob_0.2.2.1 ob_0.2.2.2 ft_8_7 (rt1 := rt2) rfl (fun a b h => if_neg (fun z => by rcases h with h | h <;> exact h (by first | exact z.1 | exact z.2))) ?_
  refine Z_ren ?_
  have hA2 := okA_swp hA
  obtain ⟨ad2, had2⟩ : ∃ g : Nat → Nat, g = fun c => ad' (swp c) := ⟨_, rfl⟩
  obtain ⟨M2, hM2⟩ : ∃ g : Mem, g = fun c => M' (swp c) := ⟨_, rfl⟩
  have e0 : ad2 0 = ad' 0 := by rw [had2]; rfl
  have e48 : ad2 48 = ad' 48 := by rw [had2]; rfl
  rw [← had2] at hA2 ⊢
  rw [← hM2, ← e0]
  have hv2 : (0 ≤ M2 38 0 ∧ M2 38 0 ≤ 6 ∧ 0 ≤ M2 38 1 ∧ M2 38 1 ≤ 4 ∧ 0 ≤ M2 38 2 ∧ M2 38 2 ≤ 8 ∧ -1 ≤ M2 38 5 ∧ M2 38 5 ≤ 5 ∧ 0 ≤ M2 38 6 ∧ M2 38 6 ≤ 700) ∧ LK (M2 41) ∧ SS (M2 46) ∧ SE (M2 47) := by
    rw [hM2]
    exact ⟨by show (0 ≤ M' 21 0 ∧ M' 21 0 ≤ 6 ∧ 0 ≤ M' 21 1 ∧ M' 21 1 ≤ 4 ∧ 0 ≤ M' 21 2 ∧ M' 21 2 ≤ 8 ∧ -1 ≤ M' 21 5 ∧ M' 21 5 ≤ 5 ∧ 0 ≤ M' 21 6 ∧ M' 21 6 ≤ 700); omega, by show LK (M' 24); assumption, by show SS (M' 29); assumption, by show SE (M' 30); assumption⟩
  have hv3 : LK (M2 24) ∧ SS (M2 29) ∧ SE (M2 30) := by
    obtain ⟨⟨b1, b2, b3, b4, b5, b6, b7, b8, b9, b10, b11, b12, b13, b14⟩, bm⟩ := hv
    rw [hM2]
    exact ⟨by show LK (M' 41); assumption, by show SS (M' 46); assumption, by show SE (M' 47); assumption⟩
  have hv4 : (0 ≤ M2 20 2 ∧ M2 20 2 ≤ 700) ∧ (((M2 32 0 = 0 ∧ M2 32 1 = 0) ∨ (2 ≤ M2 32 0 ∧ M2 32 0 ≤ 5)) ∧ 0 ≤ M2 32 1 ∧ M2 32 1 ≤ 30) ∧ CB (5 * M2 32 1) (M2 34) ∧ CB (5 * M2 32 1) (M2 35) ∧ IM M2 := by
    obtain ⟨⟨b1, b2, b3, b4, b5, b6, b7, b8, b9, b10, b11, b12, b13, b14⟩, bm⟩ := hv
    rw [hM2]
    exact ⟨b1, b5, b13, b14, bm.of (fun c hc => by show M' (swp c) = _; rw [swp_hi hc])⟩
  have hs2 : ∀ c, ((32 ≤ c ∧ c ≤ 37) ∨ 48 ≤ c) → M2 c = M c := fun c hc => by
    rw [hM2]
    show M' (swp c) = M c
    rw [show swp c = c from by unfold swp; rw [if_neg (by omega), if_neg (by omega)]]
    exact hs1 c hc
  clear hM2 had2 hv
  obtain ⟨w1, w2, w3, w4⟩ := hv2
  obtain ⟨w5, w6, w7⟩ := hv3
  obtain ⟨w8, w9, w10, w11, w12⟩ := hv4
  refine Z_aload0 hk dX8_plan_37 ?_
  refine Z_getR hk fl_8_69 dX8_plan_38 ob_0.1 ob_0.2.1 ob_0.2.2.1 ob_0.2.2.2 ft_8_7 rs_0_7 ?_
  refine Z_iload1 hk dX8_plan_41 ?_
  refine Z_Vv hk (c_X3_layCodes_p38 κ.2.1 δ ad2 _ hA2 s w1 s1) ov_X3_layCodes ml_X8_99 dX8_plan_42 rfl ⟨by decide, by decide⟩ ob_38.1 (by decide) (by decide) rfl (Nat.le_of_ble_eq_true rfl) (fun M3 p3 => ?_)
  obtain ⟨-, g0⟩ := p3
  refine Z_aload0 hk dX8_plan_45 ?_
  refine Z_getR hk fl_8_25 dX8_plan_46 ob_0.1 ob_0.2.1 ob_0.2.2.1 ob_0.2.2.2 ft_8_1 rs_0_1 ?_
  refine Z_Vv hk (c_X2_clear κ.2.1 δ ad2 _ hA2) ov_X2_clear ml_X8_102 dX8_plan_49 rfl ⟨by decide, by decide⟩ ob_1.1 (by decide) (by decide) rfl (Nat.le_of_ble_eq_true rfl) (fun M4 p4 => ?_)
  obtain ⟨p4, k0, k1⟩ := p4
  refine Z_aload0 hk dX8_plan_52 ?_
  refine Z_iconst hk dX8_plan_53 ?_
  refine Z_putZ hk hA2 fl_8_73 dX8_plan_54 ob_0.1 ob_0.2.1 ob_0.2.2.1 ob_0.2.2.2 ft_8_8 (by decide) (by decide) ?_
  refine Z_nm (fun m54 em54 => ?_)
  refine Z_aload0 hk dX8_plan_57 ?_
  refine Z_iconst hk dX8_plan_58 ?_
  refine Z_putZ hk hA2 fl_8_77 dX8_plan_59 ob_0.1 ob_0.2.1 ob_0.2.2.1 ob_0.2.2.2 ft_8_9 (by decide) (by decide) ?_
  refine Z_nm (fun m59 em59 => ?_)
  refine Z_aload0 hk dX8_plan_62 ?_
  refine Z_iconst hk dX8_plan_63 ?_
  refine Z_putI hk hA2 fl_8_80 dX8_plan_64 ob_0.1 ob_0.2.1 ob_0.2.2.1 ob_0.2.2.2 ft_8_10 (by decide) (by decide) ?_
  refine Z_nm (fun m64 em64 => ?_)
  refine Z_iload2 hk dX8_plan_67 ?_
  refine Z_iret hk hA2 hQ dX8_plan_68 ⟨rfl, ⟨_, rfl⟩, e0, e48, ⟨?_, ?_⟩, ?_⟩
  · have ha : AD (m64 1 0) (m64 2) (m64 3) (m64 4) (m64 5) (m64 6) := AD.nil (by simp only [em64, em59, em54, and_true, true_and, or_true, true_or, implies_true, upn, reduceIte, Nat.reduceEqDiff, ne_eq, not_false_eq_true, upc]; omega)
    refine ⟨?_, ?_, ?_, ?_, ?_, ha, ?_, ?_, ?_, ?_, ?_, ?_, ?_, ?_⟩ <;> simp only [em64, em59, em54, k0, k1, g0, and_true, true_and, or_true, true_or, implies_true, upn, reduceIte, Nat.reduceEqDiff, ne_eq, not_false_eq_true, upc] <;> first | omega | assumption
  · exact w12.of (fun c hc => by
      have n0 : c ≠ 0 := by omega
      have n1 : c ≠ 1 := by omega
      have n2 : c ≠ 45 := by omega
      simp only [em64, em59, em54, upc, n0, reduceIte, k0 c n1, g0 c n2])
  · intro c hc
    have n0 : c ≠ 0 := by omega
    have n1 : c ≠ 1 := by omega
    have n2 : c ≠ 45 := by omega
    simp only [em64, em59, em54, upc, n0, reduceIte, k0 c n1, g0 c n2]
    exact hs2 c hc
set_option maxRecDepth 10000 in
theorem c_X8_orders_g (l : Launch) (δ : Dp) (ad : Nat → Nat) (M : Mem) (hA : okA δ ad) (t : Int) (nn : Int) (hz : NS δ) (i_t : -2147483648 ≤ t ∧ t ≤ 2147483647) (i_nn : -2147483648 ≤ nn ∧ nn ≤ 2147483647) : Mi l δ yX8_orders cX8_orders 3 (some (.int)) 4 94 ad rs [.ref (ad 0), iv t, iv nn] M (fun r M' => ((M' 32 0 = M 32 0 ∧ M' 32 1 = M 32 1) ∨ (2 ≤ M' 32 0 ∧ M' 32 0 ≤ 5 ∧ 0 ≤ M' 32 1 ∧ M' 32 1 ≤ 30)) ∧ (∀ c : Nat, c ≠ 32 → c ≠ 33 → c ≠ 34 → c ≠ 35 → c ≠ 36 → c ≠ 37 → M' c = M c) ∧ (∀ i : Nat, i ≠ 0 → i ≠ 1 → M' 32 i = M 32 i) ∧ (CB (5 * M 32 1) (M 34) → CB (5 * M' 32 1) (M' 34)) ∧ (CB (5 * M 32 1) (M 35) → CB (5 * M' 32 1) (M' 35)) ∧ (ocl t nn M M')) := by
  refine Mg.of (rm := rmN 4 94) (by decide) (Nat.le_of_ble_eq_true rfl) fun κ _ hk _ => ?_
  generalize hQ : Qg κ δ 121 (rmN 4 94).cells (rmN 4 94).slots _ = Q
  show Zj κ δ ad rs Q 3 (121, 0, 0) 0 [some (.ref (ad 0)), some (iv t), some (iv nn)] [] M
  refine Z_iload1 hk dX8_orders_0 ?_
  refine Z_iconst hk dX8_orders_1 ?_
  refine Z_icmp_lt hk (tgt := 21) dX8_orders_2 (by decide) (by omega) (by omega) (by decide) (by decide) (fun h2 => ?_) (fun h2 => ?_)
  · refine Z_iconst hk dX8_orders_21 ?_
    exact Z_iret hk hA hQ dX8_orders_22 ⟨rfl, rfl, _, rfl, (by exact ⟨(by (omega)), (by intro c k0 k1 k2 k3 k4 k5; rfl), (by intro i k0 k1; rfl), (by first | exact fun h => h | (intro _; (try simp only [and_true, true_and, or_true, true_or, implies_true, upn, reduceIte, Nat.reduceEqDiff, ne_eq, not_false_eq_true, upc, upc]) <;> assumption)), (by first | exact fun h => h | (intro _; (try simp only [and_true, true_and, or_true, true_or, implies_true, upn, reduceIte, Nat.reduceEqDiff, ne_eq, not_false_eq_true, upc, upc]) <;> assumption)), (by first | exact Or.inr ⟨by omega, rfl⟩ | exact Or.inl ⟨by omega, by omega, by omega, f29_5, f29_6⟩)⟩)⟩
  · refine Z_iload1 hk dX8_orders_5 ?_
    refine Z_iconst hk dX8_orders_6 ?_
    refine Z_icmp_gt hk (tgt := 21) dX8_orders_7 (by decide) (by omega) (by omega) (by decide) (by decide) (fun h7 => ?_) (fun h7 => ?_)
    · refine Z_iconst hk dX8_orders_21 ?_
      exact Z_iret hk hA hQ dX8_orders_22 ⟨rfl, rfl, _, rfl, (by exact ⟨(by (omega)), (by intro c k0 k1 k2 k3 k4 k5; rfl), (by intro i k0 k1; rfl), (by first | exact fun h => h | (intro _; (try simp only [and_true, true_and, or_true, true_or, implies_true, upn, reduceIte, Nat.reduceEqDiff, ne_eq, not_false_eq_true, upc, upc]) <;> assumption)), (by first | exact fun h => h | (intro _; (try simp only [and_true, true_and, or_true, true_or, implies_true, upn, reduceIte, Nat.reduceEqDiff, ne_eq, not_false_eq_true, upc, upc]) <;> assumption)), (by first | exact Or.inr ⟨by omega, rfl⟩ | exact Or.inl ⟨by omega, by omega, by omega, f29_5, f29_6⟩)⟩)⟩
    · refine Z_iload2 hk dX8_orders_10 ?_
      refine Z_iconst hk dX8_orders_11 ?_
      refine Z_icmp_lt hk (tgt := 21) dX8_orders_12 (by decide) (by omega) (by omega) (by decide) (by decide) (fun h12 => ?_) (fun h12 => ?_)
      · refine Z_iconst hk dX8_orders_21 ?_
        exact Z_iret hk hA hQ dX8_orders_22 ⟨rfl, rfl, _, rfl, (by exact ⟨(by (omega)), (by intro c k0 k1 k2 k3 k4 k5; rfl), (by intro i k0 k1; rfl), (by first | exact fun h => h | (intro _; (try simp only [and_true, true_and, or_true, true_or, implies_true, upn, reduceIte, Nat.reduceEqDiff, ne_eq, not_false_eq_true, upc, upc]) <;> assumption)), (by first | exact fun h => h | (intro _; (try simp only [and_true, true_and, or_true, true_or, implies_true, upn, reduceIte, Nat.reduceEqDiff, ne_eq, not_false_eq_true, upc, upc]) <;> assumption)), (by first | exact Or.inr ⟨by omega, rfl⟩ | exact Or.inl ⟨by omega, by omega, by omega, f29_5, f29_6⟩)⟩)⟩
      · refine Z_iload2 hk dX8_orders_15 ?_
        refine Z_bipush hk dX8_orders_16 (by decide) ?_
        refine Z_icmp_le hk (tgt := 23) dX8_orders_18 (by decide) (by omega) (by omega) (by decide) (by decide) (fun h18 => ?_) (fun h18 => ?_)
        · refine Z_aload0 hk dX8_orders_23 ?_
          refine Z_getR hk fl_8_65 dX8_orders_24 ob_0.1 ob_0.2.1 ob_0.2.2.1 ob_0.2.2.2 ft_8_6 rs_0_6 ?_
          refine Z_iload1 hk dX8_orders_27 ?_
          refine Z_iload2 hk dX8_orders_28 ?_
          refine Z_Vi hk (c_X6_lay_f κ.2.1 δ ad _ hA t nn hz (by (first | omega | assumption))) ov_X6_lay ml_X8_224 dX8_orders_29 rfl ⟨by decide, by decide⟩ ob_32.1 (by decide) (by decide) rfl (Nat.le_of_ble_eq_true rfl) (fun r29 m29 p29 => ?_)
          obtain ⟨p29, f29_0, f29_1, f29_2, f29_3, f29_4, f29_5, f29_6⟩ := p29
          try simp only [f29_0, f29_1, f29_2, f29_3, f29_4, f29_5, f29_6, and_true, true_and, or_true, true_or, implies_true, upn, reduceIte, Nat.reduceEqDiff, ne_eq, not_false_eq_true, upc] at p29
          try simp only [f29_0, f29_1, f29_3, f29_4, f29_5, f29_6, and_true, true_and, or_true, true_or, implies_true, upn, reduceIte, Nat.reduceEqDiff, ne_eq, not_false_eq_true, upc] at f29_2
          try simp only [f29_0, f29_1, f29_2, f29_4, f29_5, f29_6, and_true, true_and, or_true, true_or, implies_true, upn, reduceIte, Nat.reduceEqDiff, ne_eq, not_false_eq_true, upc] at f29_3
          try simp only [f29_0, f29_1, f29_2, f29_3, f29_5, f29_6, and_true, true_and, or_true, true_or, implies_true, upn, reduceIte, Nat.reduceEqDiff, ne_eq, not_false_eq_true, upc] at f29_4
          try simp only [f29_0, f29_1, f29_2, f29_3, f29_4, f29_6, and_true, true_and, or_true, true_or, implies_true, upn, reduceIte, Nat.reduceEqDiff, ne_eq, not_false_eq_true, upc] at f29_5
          try simp only [f29_0, f29_1, f29_2, f29_3, f29_4, f29_5, and_true, true_and, or_true, true_or, implies_true, upn, reduceIte, Nat.reduceEqDiff, ne_eq, not_false_eq_true, upc] at f29_6
          exact Z_iret hk hA hQ dX8_orders_32 ⟨rfl, rfl, _, rfl, (by exact ⟨(by (try simp only [f29_0, f29_1, f29_2, f29_3, f29_4, f29_5, f29_6, and_true, true_and, or_true, true_or, implies_true, upn, reduceIte, Nat.reduceEqDiff, ne_eq, not_false_eq_true, upc]) <;> (omega)), (by intro c k0 k1 k2 k3 k4 k5; simp only [f29_0, f29_1, f29_2, f29_3, f29_4, f29_5, f29_6, upc, upn, k0, k1, k2, k3, k4, k5, reduceIte, Nat.reduceEqDiff, ne_eq, not_false_eq_true]), (by intro i k0 k1; simp only [f29_0, f29_1, f29_2, f29_3, f29_4, f29_5, f29_6, upc, upn, k0, k1, reduceIte, Nat.reduceEqDiff, ne_eq, not_false_eq_true]), (by first | exact fun h => h | (intro _; (try simp only [f29_0, f29_1, f29_2, f29_3, f29_4, f29_5, f29_6, and_true, true_and, or_true, true_or, implies_true, upn, reduceIte, Nat.reduceEqDiff, ne_eq, not_false_eq_true, upc, upc]) <;> assumption)), (by first | exact fun h => h | (intro _; (try simp only [f29_0, f29_1, f29_2, f29_3, f29_4, f29_5, f29_6, and_true, true_and, or_true, true_or, implies_true, upn, reduceIte, Nat.reduceEqDiff, ne_eq, not_false_eq_true, upc, upc]) <;> assumption)), (by first | exact Or.inr ⟨by omega, rfl⟩ | exact Or.inl ⟨by omega, by omega, by omega, f29_5, f29_6⟩)⟩)⟩
        · refine Z_iconst hk dX8_orders_21 ?_
          exact Z_iret hk hA hQ dX8_orders_22 ⟨rfl, rfl, _, rfl, (by exact ⟨(by (omega)), (by intro c k0 k1 k2 k3 k4 k5; rfl), (by intro i k0 k1; rfl), (by first | exact fun h => h | (intro _; (try simp only [and_true, true_and, or_true, true_or, implies_true, upn, reduceIte, Nat.reduceEqDiff, ne_eq, not_false_eq_true, upc, upc]) <;> assumption)), (by first | exact fun h => h | (intro _; (try simp only [and_true, true_and, or_true, true_or, implies_true, upn, reduceIte, Nat.reduceEqDiff, ne_eq, not_false_eq_true, upc, upc]) <;> assumption)), (by first | exact Or.inr ⟨by omega, rfl⟩ | exact Or.inl ⟨by omega, by omega, by omega, f29_5, f29_6⟩)⟩)⟩
set_option maxHeartbeats 2000000 in
set_option maxRecDepth 10000 in
theorem c_X9_orders_g (l : Launch) (δ : Dp) (ad : Nat → Nat) (M : Mem) (hA : okA δ ad) (t : Int) (nn : Int) (q1 : TH (M 118)) (i_t : -2147483648 ≤ t ∧ t ≤ 2147483647) (i_nn : -2147483648 ≤ nn ∧ nn ≤ 2147483647) : Mi l δ yX9_orders cX9_orders 10 (some (.int)) 2 45 ad rs [.ref (ad 48), iv t, iv nn] M (fun r M' => (((M' 48 108) = (M 48 108) ∧ (M' 48 109) = (M 48 109)) ∨ (2 ≤ (M' 48 108) ∧ (M' 48 108) ≤ 5 ∧ 1 ≤ (M' 48 109) ∧ (M' 48 109) ≤ 30)) ∧ (∀ c : Nat, c ≠ 118 → c ≠ 119 → c ≠ 120 → c ≠ 48 → M' c = M c) ∧ (∀ i : Nat, i ≠ 108 → i ≠ 109 → M' 48 i = M 48 i) ∧ (TH (M' 118)) ∧ (oml t nn M M')) := by
  refine Mg.of (rm := rmN 2 45) (by decide) (Nat.le_of_ble_eq_true rfl) fun κ _ hk _ => ?_
  generalize hQ : Qg κ δ 121 (rmN 2 45).cells (rmN 2 45).slots _ = Q
  show Zj κ δ ad rs Q 10 (121, 0, 0) 0 [some (.ref (ad 48)), some (iv t), some (iv nn), none, none, none, none, none, none, none] [] M
  refine Z_iload1 hk dX9_orders_0 ?_
  refine Z_i2l hk dX9_orders_1 (by omega) (by omega) ?_
  refine Z_ldc2_w hk (n := 2) (mem_g (by decide +kernel)) dX9_orders_2 ?_
  refine Z_ldc2_w hk (n := 5) (mem_g (by decide +kernel)) dX9_orders_5 ?_
  refine Z_Si hk (c_X9_isIn κ.2.1 δ ad _ hA t (2) (5) (by (omega)) (by (omega)) (by (omega))) os_X9_isIn ml_X9_285 dX9_orders_8 rfl ⟨by decide, by decide⟩ rfl (Nat.le_of_ble_eq_true rfl) (fun r8 m8 p8 => ?_)
  obtain ⟨rfl, p8⟩ := p8
  refine Z_if_eq hk (tgt := 26) dX9_orders_11 (by decide) (by omega) (by omega) (fun h11 => ?_) (fun h11 => ?_)
  · refine Z_iconst hk dX9_orders_26 ?_
    exact Z_iret hk hA hQ dX9_orders_27 ⟨rfl, rfl, _, rfl, (by exact ⟨(by (omega)), (by intro c k0 k1 k2 k3; rfl), (by intro i k0 k1; rfl), (by (try simp only [and_true, true_and, or_true, true_or, implies_true, upn, reduceIte, Nat.reduceEqDiff, ne_eq, not_false_eq_true, upc, upc]); first | exact h42a | exact q1), (by first | exact Or.inr ⟨by omega, rfl⟩ | exact Or.inl ⟨by omega, (by (try simp only [and_true, true_and, or_true, true_or, implies_true, upn, reduceIte, Nat.reduceEqDiff, ne_eq, not_false_eq_true, upc, upc]) <;> omega), (by (try simp only [and_true, true_and, or_true, true_or, implies_true, upn, reduceIte, Nat.reduceEqDiff, ne_eq, not_false_eq_true, upc, upc]) <;> omega), (by (try simp only [and_true, true_and, or_true, true_or, implies_true, upn, reduceIte, Nat.reduceEqDiff, ne_eq, not_false_eq_true, upc, upc]); rw [show nn.toNat = x5_42.toNat from by omega]; exact h42b)⟩)⟩)⟩
  · refine Z_iload2 hk dX9_orders_14 ?_
    refine Z_i2l hk dX9_orders_15 (by omega) (by omega) ?_
    refine Z_lconst1 hk dX9_orders_16 ?_
    refine Z_ldc2_w hk (n := 30) (mem_g (by decide +kernel)) dX9_orders_17 ?_
    refine Z_Si hk (c_X9_isIn κ.2.1 δ ad _ hA nn 1 (30) (by (omega)) (by (omega)) (by (omega))) os_X9_isIn ml_X9_285 dX9_orders_20 rfl ⟨by decide, by decide⟩ rfl (Nat.le_of_ble_eq_true rfl) (fun r20 m20 p20 => ?_)
    obtain ⟨rfl, p20⟩ := p20
    refine Z_if_ne hk (tgt := 28) dX9_orders_23 (by decide) (by omega) (by omega) (fun h23 => ?_) (fun h23 => ?_)
    · refine Z_iload1 hk dX9_orders_28 ?_
      refine Z_i2l hk dX9_orders_29 (by omega) (by omega) ?_
      refine Z_iload1 hk dX9_orders_30 ?_
      refine Z_Sj hk (c_X9_power κ.2.1 δ ad _ hA t t (by (omega))) os_X9_power ml_X9_540 dX9_orders_31 rfl ⟨by decide, by decide⟩ rfl (Nat.le_of_ble_eq_true rfl) (fun r31 m31 p31 => ?_)
      obtain ⟨rfl, p31⟩ := p31
      refine Z_l2i hk dX9_orders_34 ?_
      refine Z_wI (fun w34 a34w b34w g34w => ?_)
      have ht := t_in (t := t.toNat) (by omega) (by omega)
      have pn := pw_n ht
      have ep : r31 = ((t.toNat ^ t.toNat : Nat) : Int) := by
        rw [p31, Int.natCast_pow, show ((t.toNat : Nat) : Int) = t from by omega]
      obtain ⟨Nt, hN⟩ : ∃ N : Nat, N = t.toNat ^ t.toNat := ⟨_, rfl⟩
      rw [← hN] at pn ep
      have w34e := g34w (by omega) (by omega)
      refine Z_istore3 hk rfl (by decide) dX9_orders_35 ?_
      refine Z_iconst hk dX9_orders_36 ?_
      refine Z_istore4 hk rfl (by decide) dX9_orders_37 ?_
      refine Z_iconst hk dX9_orders_39 ?_
      have J42 : ∀ (n : Nat) (x4_42 : Int) (x5_42 : Int) (m42 : Mem), (((0 ≤ x5_42 ∧ x5_42 ≤ nn ∧ -2147483648 ≤ x4_42 ∧ x4_42 ≤ 2147483647) ∧ TH (m42 118) ∧ LD t.toNat (x5_42 : Int).toNat (m42 118) ∧ Imp (1 ≤ x5_42) (x4_42 = UN t.toNat (x5_42 : Int).toNat (m42 118))) ∧ (∀ c : Nat, c ≠ 118 → c ≠ 119 → c ≠ 120 → m42 c = M c)) → (nn - x5_42) < (n : Int) → Zj κ δ ad rs Q 10 (121, 0, 0) 42 [some (.ref (ad 48)), some (iv t), some (iv nn), some (iv w34), some (iv x4_42), some (iv x5_42), none, none, none, none] [] m42 := by
        intro n
        induction n with
        | zero => intro x4_42 x5_42 m42 h42 hm42; exfalso; obtain ⟨h42, -⟩ := h42; obtain ⟨h42, -⟩ := h42; omega
        | succ n ih42 =>
          intro x4_42 x5_42 m42 h42 hm42
          obtain ⟨h42, f42_0⟩ := h42
          try simp only [f42_0, and_true, true_and, or_true, true_or, implies_true, upn, reduceIte, Nat.reduceEqDiff, ne_eq, not_false_eq_true, upc] at h42 hm42
          obtain ⟨h42, h42a, h42b, h42c⟩ := h42
          refine Z_iload5 hk dX9_orders_42 ?_
          refine Z_iload2 hk dX9_orders_44 ?_
          refine Z_icmp_ge hk (tgt := 139) dX9_orders_45 (by decide) (by omega) (by omega) (by omega) (by omega) (fun h45 => ?_) (fun h45 => ?_)
          · refine Z_aload0 hk dX9_orders_139 ?_
            refine Z_iload1 hk dX9_orders_140 ?_
            refine Z_putI hk hA fl_9_646 dX9_orders_141 ob_48.1 ob_48.2.1 ob_48.2.2.1 ob_48.2.2.2 ft_9_108 (by omega) (by omega) ?_
            refine Z_nm (fun m141 em141 => ?_)
            refine Z_aload0 hk dX9_orders_144 ?_
            refine Z_iload2 hk dX9_orders_145 ?_
            refine Z_putI hk hA fl_9_649 dX9_orders_146 ob_48.1 ob_48.2.1 ob_48.2.2.1 ob_48.2.2.2 ft_9_109 (by omega) (by omega) ?_
            refine Z_nm (fun m146 em146 => ?_)
            refine Z_iload4 hk dX9_orders_149 ?_
            exact Z_iret hk hA hQ dX9_orders_151 ⟨rfl, rfl, _, rfl, (by exact ⟨(by (try simp only [em146, em141, f42_0, and_true, true_and, or_true, true_or, implies_true, upn, reduceIte, Nat.reduceEqDiff, ne_eq, not_false_eq_true, upc]) <;> (omega)), (by intro c k0 k1 k2 k3; simp only [em146, em141, f42_0, upc, upn, k0, k1, k2, k3, reduceIte, Nat.reduceEqDiff, ne_eq, not_false_eq_true]), (by intro i k0 k1; simp only [em146, em141, f42_0, upc, upn, k0, k1, reduceIte, Nat.reduceEqDiff, ne_eq, not_false_eq_true]), (by (try simp only [em146, em141, f42_0, and_true, true_and, or_true, true_or, implies_true, upn, reduceIte, Nat.reduceEqDiff, ne_eq, not_false_eq_true, upc, upc]); first | exact h42a | exact q1), (by first | exact Or.inr ⟨by omega, rfl⟩ | exact Or.inl ⟨by omega, (by (try simp only [em146, em141, f42_0, and_true, true_and, or_true, true_or, implies_true, upn, reduceIte, Nat.reduceEqDiff, ne_eq, not_false_eq_true, upc, upc]) <;> omega), (by (try simp only [em146, em141, f42_0, and_true, true_and, or_true, true_or, implies_true, upn, reduceIte, Nat.reduceEqDiff, ne_eq, not_false_eq_true, upc, upc]) <;> omega), (by (try simp only [em146, em141, f42_0, and_true, true_and, or_true, true_or, implies_true, upn, reduceIte, Nat.reduceEqDiff, ne_eq, not_false_eq_true, upc, upc]); rw [show nn.toNat = x5_42.toNat from by omega]; exact h42b)⟩)⟩)⟩
          · refine Z_iconst hk dX9_orders_48 ?_
            refine Z_istore6 hk rfl (by decide) dX9_orders_49 ?_
            refine Z_iconst hk dX9_orders_51 ?_
            refine Z_istore7 hk rfl (by decide) dX9_orders_52 ?_
            refine Z_iconst hk dX9_orders_54 ?_
            have J57 : ∀ (n : Nat) (x6_57 : Int) (x7_57 : Int) (x8_57 : Int) (m57 : Mem), (((0 ≤ x8_57 ∧ x8_57 ≤ (Nt : Int) ∧ 0 ≤ x7_57 ∧ x7_57 ≤ 2147483647 ∧ -2147483648 ≤ x6_57 ∧ x6_57 ≤ 2147483647) ∧ TH (m57 118) ∧ (∀ j : Nat, j < 5 * x5_42.toNat → m57 118 j = m42 118 j) ∧ MB (m42 118) t.toNat x5_42.toNat (x8_57 : Int).toNat (x7_57 : Int).toNat x6_57) ∧ (∀ c : Nat, c ≠ 118 → c ≠ 119 → c ≠ 120 → m57 c = m42 c)) → ((Nt : Int) - x8_57) < (n : Int) → Zj κ δ ad rs Q 10 (121, 0, 0) 57 [some (.ref (ad 48)), some (iv t), some (iv nn), some (iv w34), some (iv x4_42), some (iv x5_42), some (iv x6_57), some (iv x7_57), some (iv x8_57), none] [] m57 := by
              intro n
              induction n with
              | zero => intro x6_57 x7_57 x8_57 m57 h57 hm57; exfalso; obtain ⟨h57, -⟩ := h57; obtain ⟨h57, -⟩ := h57; omega
              | succ n ih57 =>
                intro x6_57 x7_57 x8_57 m57 h57 hm57
                obtain ⟨h57, f57_0⟩ := h57
                try simp only [f57_0, f42_0, and_true, true_and, or_true, true_or, implies_true, upn, reduceIte, Nat.reduceEqDiff, ne_eq, not_false_eq_true, upc] at h57 hm57
                obtain ⟨h57, h57a, h57b, h57c⟩ := h57
                refine Z_iload8 hk dX9_orders_57 ?_
                refine Z_iload3 hk dX9_orders_59 ?_
                refine Z_icmp_ge hk (tgt := 119) dX9_orders_60 (by decide) (by omega) (by omega) (by omega) (by omega) (fun h60 => ?_) (fun h60 => ?_)
                · refine Z_aload0 hk dX9_orders_119 ?_
                  refine Z_iload7 hk dX9_orders_120 ?_
                  refine Z_iload1 hk dX9_orders_122 ?_
                  refine Z_iload5 hk dX9_orders_123 ?_
                  have y57 : x8_57.toNat = t.toNat ^ t.toNat := by rw [← hN]; omega
                  have h57d := h57c
                  rw [y57] at h57d
                  obtain ⟨b57, l57⟩ := MB_end ht h57d
                  refine Z_Vi hk (c_X9_lays_f κ.2.1 δ ad _ hA x7_57 t x5_42 (by (try simp only [f57_0, f42_0, and_true, true_and, or_true, true_or, implies_true, upn, reduceIte, Nat.reduceEqDiff, ne_eq, not_false_eq_true, upc]) <;> (omega)) (by (exact h57a))) ov_X9_lays ml_X9_639 dX9_orders_125 rfl ⟨by decide, by decide⟩ ob_48.1 (by decide) (by decide) rfl (Nat.le_of_ble_eq_true rfl) (fun r125 m125 p125 => ?_)
                  obtain ⟨p125, f125_0, f125_1, f125_2, f125_3⟩ := p125
                  try simp only [f125_0, f125_1, f125_2, f125_3, f57_0, f42_0, and_true, true_and, or_true, true_or, implies_true, upn, reduceIte, Nat.reduceEqDiff, ne_eq, not_false_eq_true, upc] at p125
                  have s125 := LDV_step (by omega) (by omega) h42b (AG.of (by omega) (fun j hj => (by rw [f125_3 j (Or.inl hj)]; exact (h57b j hj).symm))) b57 (fun p hp => f125_2 p (by omega))
                  refine Z_pop1 hk rfl dX9_orders_128 ?_
                  refine Z_iload6 hk dX9_orders_129 ?_
                  refine Z_istore4 hk rfl (by decide) dX9_orders_131 ?_
                  refine Z_iinc5 hk rfl (by decide) dX9_orders_133 ?_
                  refine Z_goto hk (tgt := 42) dX9_orders_136 (by decide) ?_
                  refine Z_drop6 ?_
                  refine Z_drop7 ?_
                  refine Z_drop8 ?_
                  exact ih42 _ _ _ (by exact ⟨(by (exact ⟨by omega, f125_1, (by rw [show (x5_42 + 1).toNat = x5_42.toNat + 1 from by omega]; exact s125.1), fun _ => by rw [show (x5_42 + 1).toNat = x5_42.toNat + 1 from by omega, s125.2]; exact l57⟩)), (by intro c k0 k1 k2; simp only [f125_0, f125_1, f125_2, f125_3, f57_0, f42_0, upc, upn, k0, k1, k2, reduceIte, Nat.reduceEqDiff, ne_eq, not_false_eq_true])⟩) (by (try simp only [f125_0, f125_1, f125_2, f125_3, f57_0, f42_0, and_true, true_and, or_true, true_or, implies_true, upn, reduceIte, Nat.reduceEqDiff, ne_eq, not_false_eq_true, upc]) <;> (omega))
                · refine Z_aload0 hk dX9_orders_63 ?_
                  refine Z_iload8 hk dX9_orders_64 ?_
                  refine Z_iload1 hk dX9_orders_66 ?_
                  refine Z_iload5 hk dX9_orders_67 ?_
                  refine Z_Vi hk (c_X9_lays_f κ.2.1 δ ad _ hA x8_57 t x5_42 (by (try simp only [f57_0, f42_0, and_true, true_and, or_true, true_or, implies_true, upn, reduceIte, Nat.reduceEqDiff, ne_eq, not_false_eq_true, upc]) <;> (omega)) (by (exact h57a))) ov_X9_lays ml_X9_639 dX9_orders_69 rfl ⟨by decide, by decide⟩ ob_48.1 (by decide) (by decide) rfl (Nat.le_of_ble_eq_true rfl) (fun r69 m69 p69 => ?_)
                  obtain ⟨p69, f69_0, f69_1, f69_2, f69_3⟩ := p69
                  try simp only [f69_0, f69_1, f69_2, f69_3, f57_0, f42_0, and_true, true_and, or_true, true_or, implies_true, upn, reduceIte, Nat.reduceEqDiff, ne_eq, not_false_eq_true, upc] at p69
                  have a69 : ∀ j : Nat, j < 5 * x5_42.toNat → m69 118 j = m42 118 j := fun j hj => by rw [f69_3 j (Or.inl hj)]; exact h57b j hj
                  have J113 : ∀ (x6_113 : Int) (x7_113 : Int) (m113 : Mem), (((0 ≤ x7_113 ∧ x7_113 ≤ 2147483647 ∧ -2147483648 ≤ x6_113 ∧ x6_113 ≤ 2147483647) ∧ TH (m113 118) ∧ (∀ j : Nat, j < 5 * x5_42.toNat → m113 118 j = m42 118 j) ∧ MB (m42 118) t.toNat x5_42.toNat (x8_57.toNat + 1) (x7_113 : Int).toNat x6_113) ∧ (∀ c : Nat, c ≠ 118 → c ≠ 119 → c ≠ 120 → m113 c = m69 c)) → Zj κ δ ad rs Q 10 (121, 0, 0) 113 [some (.ref (ad 48)), some (iv t), some (iv nn), some (iv w34), some (iv x4_42), some (iv x5_42), some (iv x6_113), some (iv x7_113), some (iv x8_57), none] [] m113 := by
                    intro x6_113 x7_113 m113 h113
                    obtain ⟨h113, f113_0⟩ := h113
                    try simp only [f113_0, f69_0, f69_1, f69_2, f69_3, f57_0, f42_0, and_true, true_and, or_true, true_or, implies_true, upn, reduceIte, Nat.reduceEqDiff, ne_eq, not_false_eq_true, upc] at h113
                    refine Z_iinc8 hk rfl (by decide) dX9_orders_113 ?_
                    refine Z_goto hk (tgt := 57) dX9_orders_116 (by decide) ?_
                    exact ih57 _ _ _ _ (by exact ⟨(by (exact ⟨by omega, h113.2.1, h113.2.2.1, by rw [show (x8_57 + 1).toNat = x8_57.toNat + 1 from by omega]; exact h113.2.2.2⟩)), (by intro c k0 k1 k2; simp only [f113_0, f69_0, f69_1, f69_2, f69_3, f57_0, f42_0, upc, upn, k0, k1, k2, reduceIte, Nat.reduceEqDiff, ne_eq, not_false_eq_true])⟩) (by (try simp only [f113_0, f69_0, f69_1, f69_2, f69_3, f57_0, f42_0, and_true, true_and, or_true, true_or, implies_true, upn, reduceIte, Nat.reduceEqDiff, ne_eq, not_false_eq_true, upc]) <;> (omega))
                  refine Z_if_ne hk (tgt := 78) dX9_orders_72 (by decide) (by omega) (by omega) (fun h72 => ?_) (fun h72 => ?_)
                  · refine Z_aload0 hk dX9_orders_78 ?_
                    refine Z_iload1 hk dX9_orders_79 ?_
                    refine Z_iload5 hk dX9_orders_80 ?_
                    refine Z_iconst hk dX9_orders_82 ?_
                    refine Z_iadd hk dX9_orders_83 ?_
                    refine Z_Vi hk (c_X9_uneven_f κ.2.1 δ ad _ hA t (x5_42 + 1) (by (try simp only [f69_0, f69_1, f69_2, f69_3, f57_0, f42_0, and_true, true_and, or_true, true_or, implies_true, upn, reduceIte, Nat.reduceEqDiff, ne_eq, not_false_eq_true, upc]) <;> (omega)) (by (exact f69_1))) ov_X9_uneven ml_X9_643 dX9_orders_84 rfl ⟨by decide, by decide⟩ ob_48.1 (by decide) (by decide) rfl (Nat.le_of_ble_eq_true rfl) (fun r84 m84 p84 => ?_)
                    obtain ⟨p84, f84_0, f84_1, f84_2⟩ := p84
                    try simp only [f84_0, f84_1, f84_2, f69_0, f69_1, f69_2, f69_3, f57_0, f42_0, and_true, true_and, or_true, true_or, implies_true, upn, reduceIte, Nat.reduceEqDiff, ne_eq, not_false_eq_true, upc] at p84
                    have u84 : r84 = VK (m42 118) t.toNat x5_42.toNat x8_57.toNat ∧ 0 ≤ r84 ∧ r84 ≤ 28125000 := by
                      have n84 : (x5_42 + 1).toNat = x5_42.toNat + 1 := by omega
                      have cc : CC (m84 119) (m84 120) (m69 118) t.toNat (x5_42.toNat + 1) := fun a b ha hb => ⟨by rw [← n84]; exact f84_1 a b (by omega) (by omega), by rw [← n84]; exact f84_2 a b (by omega) (by omega)⟩
                      have z := UN_of (by omega) cc
                      have z2 := UN_in (t := t.toNat) (n := x5_42.toNat + 1) (f := m69 118) (by omega) (by omega) (by omega)
                      have z3 := VK_eq (f := m42 118) (g := m69 118) (t := t.toNat) (i := x5_42.toNat) (k := x8_57.toNat) (by omega) (by omega) (AG.of (by omega) (fun j hj => (a69 j hj).symm)) (by rw [← hN]; omega) (p69.2.2.mp (by omega)) (fun p hp => f69_2 p (by omega))
                      rw [show ((t.toNat : Nat) : Int) = t from by omega, show ((x5_42.toNat + 1 : Nat) : Int) = x5_42 + 1 from by omega] at z
                      rw [← z3, ← z]
                      rw [← z] at z2
                      exact ⟨p84, by rw [p84]; exact z2.1, by rw [p84]; exact z2.2⟩
                    refine Z_istore9 hk rfl (by decide) dX9_orders_87 ?_
                    refine Z_iload6 hk dX9_orders_89 ?_
                    refine Z_iconst hk dX9_orders_91 ?_
                    have J105 : ∀ (_ : Unit), (x6_57 = -1 ∨ r84 < x6_57) → Zj κ δ ad rs Q 10 (121, 0, 0) 105 [some (.ref (ad 48)), some (iv t), some (iv nn), some (iv w34), some (iv x4_42), some (iv x5_42), some (iv x6_57), some (iv x7_57), some (iv x8_57), some (iv r84)] [] m84 := by
                      intro _ h105
                      try simp only [f84_0, f84_1, f84_2, f69_0, f69_1, f69_2, f69_3, f57_0, f42_0, and_true, true_and, or_true, true_or, implies_true, upn, reduceIte, Nat.reduceEqDiff, ne_eq, not_false_eq_true, upc] at h105
                      refine Z_iload9 hk dX9_orders_105 ?_
                      refine Z_istore6 hk rfl (by decide) dX9_orders_107 ?_
                      refine Z_iload8 hk dX9_orders_109 ?_
                      refine Z_istore7 hk rfl (by decide) dX9_orders_111 ?_
                      refine Z_drop9 ?_
                      exact J113 _ _ _ (by exact ⟨(by (exact ⟨by omega, (by rw [f84_0 118 (by decide) (by decide)]; exact f69_1), (fun j hj => by rw [f84_0 118 (by decide) (by decide)]; exact a69 j hj), by rw [u84.1]; exact MB_new h57c (p69.2.2.mp (by omega)) (by rw [← u84.1]; exact h105) (by rw [← u84.1]; omega)⟩)), (by intro c k0 k1 k2; simp only [f84_0, f84_1, f84_2, f69_0, f69_1, f69_2, f69_3, f57_0, f42_0, upc, upn, k0, k1, k2, reduceIte, Nat.reduceEqDiff, ne_eq, not_false_eq_true])⟩)
                    refine Z_icmp_eq hk (tgt := 105) dX9_orders_92 (by decide) (by omega) (by omega) (by decide) (by decide) (fun h92 => ?_) (fun h92 => ?_)
                    · exact J105 () (by (try simp only [f84_0, f84_1, f84_2, f69_0, f69_1, f69_2, f69_3, f57_0, f42_0, and_true, true_and, or_true, true_or, implies_true, upn, reduceIte, Nat.reduceEqDiff, ne_eq, not_false_eq_true, upc]) <;> (omega))
                    · refine Z_iload9 hk dX9_orders_95 ?_
                      refine Z_iload6 hk dX9_orders_97 ?_
                      refine Z_icmp_lt hk (tgt := 105) dX9_orders_99 (by decide) (by omega) (by omega) (by omega) (by omega) (fun h99 => ?_) (fun h99 => ?_)
                      · exact J105 () (by (try simp only [f84_0, f84_1, f84_2, f69_0, f69_1, f69_2, f69_3, f57_0, f42_0, and_true, true_and, or_true, true_or, implies_true, upn, reduceIte, Nat.reduceEqDiff, ne_eq, not_false_eq_true, upc]) <;> (omega))
                      · refine Z_goto hk (tgt := 113) dX9_orders_102 (by decide) ?_
                        refine Z_drop9 ?_
                        exact J113 _ _ _ (by exact ⟨(by (exact ⟨by omega, (by rw [f84_0 118 (by decide) (by decide)]; exact f69_1), (fun j hj => by rw [f84_0 118 (by decide) (by decide)]; exact a69 j hj), MB_old h57c (by omega) (by rw [← u84.1]; omega)⟩)), (by intro c k0 k1 k2; simp only [f84_0, f84_1, f84_2, f69_0, f69_1, f69_2, f69_3, f57_0, f42_0, upc, upn, k0, k1, k2, reduceIte, Nat.reduceEqDiff, ne_eq, not_false_eq_true])⟩)
                  · refine Z_goto hk (tgt := 113) dX9_orders_75 (by decide) ?_
                    exact J113 _ _ _ (by exact ⟨(by (exact ⟨by omega, f69_1, a69, MB_no h57c (by cases hp : pm t.toNat x8_57.toNat; rfl; exact absurd (p69.2.2.mpr hp) (by omega))⟩)), (by intro c k0 k1 k2; simp only [f69_0, f69_1, f69_2, f69_3, f57_0, f42_0, upc, upn, k0, k1, k2, reduceIte, Nat.reduceEqDiff, ne_eq, not_false_eq_true])⟩)
            refine Z_istore8 hk rfl (by decide) dX9_orders_55 ?_
            exact J57 ((((Nt : Int) - 0) : Int).toNat + 1) _ _ _ _ (by exact ⟨(by (exact ⟨by omega, (by (try simp only [f42_0, and_true, true_and, or_true, true_or, implies_true, upn, reduceIte, Nat.reduceEqDiff, ne_eq, not_false_eq_true, upc, upc]); exact h42a), (fun j _ => rfl), Or.inl ⟨rfl, fun w hw => absurd hw (Nat.not_lt_zero _)⟩⟩)), (by intro c k0 k1 k2; simp only [f42_0, upc, upn, k0, k1, k2, reduceIte, Nat.reduceEqDiff, ne_eq, not_false_eq_true])⟩) (by omega)
      refine Z_istore5 hk rfl (by decide) dX9_orders_40 ?_
      exact J42 (((nn - 0) : Int).toNat + 1) _ _ _ (by exact ⟨(by (exact ⟨by omega, (by (try simp only [and_true, true_and, or_true, true_or, implies_true, upn, reduceIte, Nat.reduceEqDiff, ne_eq, not_false_eq_true, upc, upc]); exact q1), (fun i hi => absurd hi (Nat.not_lt_zero _)), fun z => absurd z (by decide)⟩)), (by intro c k0 k1 k2; rfl)⟩) (by omega)
    · refine Z_iconst hk dX9_orders_26 ?_
      exact Z_iret hk hA hQ dX9_orders_27 ⟨rfl, rfl, _, rfl, (by exact ⟨(by (omega)), (by intro c k0 k1 k2 k3; rfl), (by intro i k0 k1; rfl), (by (try simp only [and_true, true_and, or_true, true_or, implies_true, upn, reduceIte, Nat.reduceEqDiff, ne_eq, not_false_eq_true, upc, upc]); first | exact h42a | exact q1), (by first | exact Or.inr ⟨by omega, rfl⟩ | exact Or.inl ⟨by omega, (by (try simp only [and_true, true_and, or_true, true_or, implies_true, upn, reduceIte, Nat.reduceEqDiff, ne_eq, not_false_eq_true, upc, upc]) <;> omega), (by (try simp only [and_true, true_and, or_true, true_or, implies_true, upn, reduceIte, Nat.reduceEqDiff, ne_eq, not_false_eq_true, upc, upc]) <;> omega), (by (try simp only [and_true, true_and, or_true, true_or, implies_true, upn, reduceIte, Nat.reduceEqDiff, ne_eq, not_false_eq_true, upc, upc]); rw [show nn.toNat = x5_42.toNat from by omega]; exact h42b)⟩)⟩)⟩
set_option maxRecDepth 10000 in
theorem c_X8_served_f (l : Launch) (δ : Dp) (ad : Nat → Nat) (M : Mem) (hA : okA δ ad) (i : Int) (p : Int) (q0 : ((M 32 0 = 0 ∧ M 32 1 = 0) ∨ (2 ≤ M 32 0 ∧ M 32 0 ≤ 5)) ∧ 0 ≤ M 32 1 ∧ M 32 1 ≤ 30) (i_i : -2147483648 ≤ i ∧ i ≤ 2147483647) (i_p : -2147483648 ≤ p ∧ p ≤ 2147483647) : Mi l δ yX8_served cX8_served 3 (some (.int)) 0 0 ad rs [.ref (ad 0), iv i, iv p] M (fun r M' => M = M' ∧ (r = if 0 ≤ i ∧ i < M 32 1 ∧ 0 ≤ p ∧ p < M 32 0 then M 33 (5 * i + p).toNat else -1)) := by
  refine Mg.of (rm := rmN 0 0) (by decide) (Nat.le_of_ble_eq_true rfl) fun κ _ hk _ => ?_
  generalize hQ : Qg κ δ 121 (rmN 0 0).cells (rmN 0 0).slots _ = Q
  show Zj κ δ ad rs Q 3 (121, 0, 0) 0 [some (.ref (ad 0)), some (iv i), some (iv p)] [] M
  refine Z_iload1 hk dX8_served_0 ?_
  refine Z_if_lt hk (tgt := 30) dX8_served_1 (by decide) (by omega) (by omega) (fun h1 => ?_) (fun h1 => ?_)
  · refine Z_iconst hk dX8_served_30 ?_
    exact Z_iret hk hA hQ dX8_served_31 ⟨rfl, rfl, _, rfl, (by exact ⟨rfl, (by first | (rw [if_neg (by omega)]; done) | (rw [if_pos (by omega), e44]; congr 1; omega))⟩)⟩
  · refine Z_iload1 hk dX8_served_4 ?_
    refine Z_aload0 hk dX8_served_5 ?_
    refine Z_getR hk fl_8_65 dX8_served_6 ob_0.1 ob_0.2.1 ob_0.2.2.1 ob_0.2.2.2 ft_8_6 rs_0_6 ?_
    refine Z_getI hk fl_8_227 dX8_served_9 ob_32.1 ob_32.2.1 ob_32.2.2.1 ob_32.2.2.2 ft_6_1 (fun v9 e9 a9 b9 => ?_)
    refine Z_icmp_ge hk (tgt := 30) dX8_served_12 (by decide) (by omega) (by omega) (by omega) (by omega) (fun h12 => ?_) (fun h12 => ?_)
    · refine Z_iconst hk dX8_served_30 ?_
      exact Z_iret hk hA hQ dX8_served_31 ⟨rfl, rfl, _, rfl, (by exact ⟨rfl, (by first | (rw [if_neg (by omega)]; done) | (rw [if_pos (by omega), e44]; congr 1; omega))⟩)⟩
    · refine Z_iload2 hk dX8_served_15 ?_
      refine Z_if_lt hk (tgt := 30) dX8_served_16 (by decide) (by omega) (by omega) (fun h16 => ?_) (fun h16 => ?_)
      · refine Z_iconst hk dX8_served_30 ?_
        exact Z_iret hk hA hQ dX8_served_31 ⟨rfl, rfl, _, rfl, (by exact ⟨rfl, (by first | (rw [if_neg (by omega)]; done) | (rw [if_pos (by omega), e44]; congr 1; omega))⟩)⟩
      · refine Z_iload2 hk dX8_served_19 ?_
        refine Z_aload0 hk dX8_served_20 ?_
        refine Z_getR hk fl_8_65 dX8_served_21 ob_0.1 ob_0.2.1 ob_0.2.2.1 ob_0.2.2.2 ft_8_6 rs_0_6 ?_
        refine Z_getI hk fl_8_230 dX8_served_24 ob_32.1 ob_32.2.1 ob_32.2.2.1 ob_32.2.2.2 ft_6_0 (fun v24 e24 a24 b24 => ?_)
        try simp only [e9, and_true, true_and, or_true, true_or, implies_true, upn, reduceIte, Nat.reduceEqDiff, ne_eq, not_false_eq_true, upc] at e24
        refine Z_icmp_lt hk (tgt := 32) dX8_served_27 (by decide) (by omega) (by omega) (by omega) (by omega) (fun h27 => ?_) (fun h27 => ?_)
        · refine Z_aload0 hk dX8_served_32 ?_
          refine Z_getR hk fl_8_65 dX8_served_33 ob_0.1 ob_0.2.1 ob_0.2.2.1 ob_0.2.2.2 ft_8_6 rs_0_6 ?_
          refine Z_getR hk fl_8_233 dX8_served_36 ob_32.1 ob_32.2.1 ob_32.2.2.1 ob_32.2.2.2 ft_6_2 rs_32_2 ?_
          refine Z_iload1 hk dX8_served_39 ?_
          refine Z_iconst hk dX8_served_40 ?_
          refine Z_imul hk dX8_served_41 ?_
          refine Z_iload2 hk dX8_served_42 ?_
          refine Z_iadd hk dX8_served_43 ?_
          refine Z_iald hk dX8_served_44 ar_33.1 ar_33.2.1 ar_33.2.2 (by omega) (by omega) (fun v44 e44 a44 b44 => ?_)
          try simp only [e9, e24, and_true, true_and, or_true, true_or, implies_true, upn, reduceIte, Nat.reduceEqDiff, ne_eq, not_false_eq_true, upc] at e44
          exact Z_iret hk hA hQ dX8_served_45 ⟨rfl, rfl, _, rfl, (by exact ⟨rfl, (by first | (rw [if_neg (by omega)]; done) | (rw [if_pos (by omega), e44]; congr 1; omega))⟩)⟩
        · refine Z_iconst hk dX8_served_30 ?_
          exact Z_iret hk hA hQ dX8_served_31 ⟨rfl, rfl, _, rfl, (by exact ⟨rfl, (by first | (rw [if_neg (by omega)]; done) | (rw [if_pos (by omega), e44]; congr 1; omega))⟩)⟩
set_option maxRecDepth 10000 in
theorem c_X9_served_f (l : Launch) (δ : Dp) (ad : Nat → Nat) (M : Mem) (hA : okA δ ad) (i : Int) (p : Int) (q0 : ((M 48 108) = 0 ∨ (2 ≤ (M 48 108) ∧ (M 48 108) ≤ 5)) ∧ 0 ≤ (M 48 109) ∧ (M 48 109) ≤ 30) (i_i : -2147483648 ≤ i ∧ i ≤ 2147483647) (i_p : -2147483648 ≤ p ∧ p ≤ 2147483647) : Mi l δ yX9_served cX9_served 3 (some (.int)) 1 25 ad rs [.ref (ad 48), iv i, iv p] M (fun r M' => M = M' ∧ (r = if 0 ≤ i ∧ i < M 48 109 ∧ 0 ≤ p ∧ p < M 48 108 then M 118 (5 * i + p).toNat else -1)) := by
  refine Mg.of (rm := rmN 1 25) (by decide) (Nat.le_of_ble_eq_true rfl) fun κ _ hk _ => ?_
  generalize hQ : Qg κ δ 121 (rmN 1 25).cells (rmN 1 25).slots _ = Q
  show Zj κ δ ad rs Q 3 (121, 0, 0) 0 [some (.ref (ad 48)), some (iv i), some (iv p)] [] M
  refine Z_iload1 hk dX9_served_0 ?_
  refine Z_if_lt hk (tgt := 41) dX9_served_1 (by decide) (by omega) (by omega) (fun h1 => ?_) (fun h1 => ?_)
  · refine Z_iconst hk dX9_served_41 ?_
    exact Z_iret hk hA hQ dX9_served_42 ⟨rfl, rfl, _, rfl, (by exact ⟨rfl, (by first | (rw [if_neg (by omega)]; done) | (rw [if_pos (by omega), e37]; done))⟩)⟩
  · refine Z_iload1 hk dX9_served_4 ?_
    refine Z_aload0 hk dX9_served_5 ?_
    refine Z_getI hk fl_9_649 dX9_served_6 ob_48.1 ob_48.2.1 ob_48.2.2.1 ob_48.2.2.2 ft_9_109 (fun v6 e6 a6 b6 => ?_)
    refine Z_icmp_ge hk (tgt := 41) dX9_served_9 (by decide) (by omega) (by omega) (by omega) (by omega) (fun h9 => ?_) (fun h9 => ?_)
    · refine Z_iconst hk dX9_served_41 ?_
      exact Z_iret hk hA hQ dX9_served_42 ⟨rfl, rfl, _, rfl, (by exact ⟨rfl, (by first | (rw [if_neg (by omega)]; done) | (rw [if_pos (by omega), e37]; done))⟩)⟩
    · refine Z_iload2 hk dX9_served_12 ?_
      refine Z_i2l hk dX9_served_13 (by omega) (by omega) ?_
      refine Z_lconst0 hk dX9_served_14 ?_
      refine Z_aload0 hk dX9_served_15 ?_
      refine Z_getI hk fl_9_646 dX9_served_16 ob_48.1 ob_48.2.1 ob_48.2.2.1 ob_48.2.2.2 ft_9_108 (fun v16 e16 a16 b16 => ?_)
      try simp only [e6, and_true, true_and, or_true, true_or, implies_true, upn, reduceIte, Nat.reduceEqDiff, ne_eq, not_false_eq_true, upc] at e16
      refine Z_iconst hk dX9_served_19 ?_
      refine Z_isub hk dX9_served_20 ?_
      refine Z_i2l hk dX9_served_21 (by omega) (by omega) ?_
      refine Z_Si hk (c_X9_isIn κ.2.1 δ ad _ hA p 0 (v16 - 1) (by (omega)) (by (omega)) (by (omega))) os_X9_isIn ml_X9_285 dX9_served_22 rfl ⟨by decide, by decide⟩ rfl (Nat.le_of_ble_eq_true rfl) (fun r22 m22 p22 => ?_)
      obtain ⟨rfl, p22⟩ := p22
      refine Z_if_eq hk (tgt := 41) dX9_served_25 (by decide) (by omega) (by omega) (fun h25 => ?_) (fun h25 => ?_)
      · refine Z_iconst hk dX9_served_41 ?_
        exact Z_iret hk hA hQ dX9_served_42 ⟨rfl, rfl, _, rfl, (by exact ⟨rfl, (by first | (rw [if_neg (by omega)]; done) | (rw [if_pos (by omega), e37]; done))⟩)⟩
      · refine Z_aload0 hk dX9_served_28 ?_
        refine Z_getR hk fl_9_233 dX9_served_29 ob_48.1 ob_48.2.1 ob_48.2.2.1 ob_48.2.2.2 ft_9_110 rs_48_110 ?_
        refine Z_iconst hk dX9_served_32 ?_
        refine Z_iload1 hk dX9_served_33 ?_
        refine Z_imul hk dX9_served_34 ?_
        refine Z_iload2 hk dX9_served_35 ?_
        refine Z_iadd hk dX9_served_36 ?_
        refine Z_iald hk dX9_served_37 ar_118.1 ar_118.2.1 ar_118.2.2 (by omega) (by omega) (fun v37 e37 a37 b37 => ?_)
        try simp only [e6, e16, and_true, true_and, or_true, true_or, implies_true, upn, reduceIte, Nat.reduceEqDiff, ne_eq, not_false_eq_true, upc] at e37
        refine Z_goto hk (tgt := 42) dX9_served_38 (by decide) ?_
        exact Z_iret hk hA hQ dX9_served_42 ⟨rfl, rfl, _, rfl, (by exact ⟨rfl, (by first | (rw [if_neg (by omega)]; done) | (rw [if_pos (by omega), e37]; done))⟩)⟩
set_option maxHeartbeats 1000000 in
set_option maxRecDepth 10000 in
theorem c_X6_layByHand_f (l : Launch) (δ : Dp) (ad : Nat → Nat) (M : Mem) (hA : okA δ ad) (v : Int) (q1 : 2 ≤ (M 32 0) ∧ (M 32 0) ≤ 5) (q0 : 1 ≤ (M 32 1) ∧ (M 32 1) < 30) (q3 : CB (5 * M 32 1) (M 34)) (q4 : CB (5 * M 32 1) (M 35)) (i_v : -2147483648 ≤ v ∧ v ≤ 2147483647) : Mi l δ yX6_layByHand cX6_layByHand 4 (some (.int)) 2 46 ad rs [.ref (ad 32), iv v] M (fun r M' => ((M 32 1) ≤ (M' 32 1) ∧ (M' 32 1) ≤ 30) ∧ (∀ c : Nat, c ≠ 32 → c ≠ 33 → c ≠ 34 → c ≠ 35 → c ≠ 36 → M' c = M c) ∧ (∀ i : Nat, i ≠ 1 → M' 32 i = M 32 i) ∧ (CB (5 * M' 32 1) (M' 34)) ∧ (CB (5 * M' 32 1) (M' 35)) ∧ (scL v r M M')) := by
  refine Mg.of (rm := rmN 2 46) (by decide) (Nat.le_of_ble_eq_true rfl) fun κ _ hk _ => ?_
  generalize hQ : Qg κ δ 121 (rmN 2 46).cells (rmN 2 46).slots _ = Q
  show Zj κ δ ad rs Q 4 (121, 0, 0) 0 [some (.ref (ad 32)), some (iv v), none, none] [] M
  refine Z_iconst hk dX6_layByHand_0 ?_
  refine Z_istore2 hk rfl (by decide) dX6_layByHand_1 ?_
  refine Z_iconst hk dX6_layByHand_2 ?_
  have J4 : ∀ (n : Nat) (x2_4 : Int) (x3_4 : Int) (m4 : Mem), (((0 ≤ x3_4 ∧ x3_4 ≤ (M 32 0) ∧ 0 ≤ x2_4 ∧ x2_4 < 65536) ∧ (∀ j : Nat, (j : Int) < x3_4 → 0 ≤ m4 36 j ∧ m4 36 j ≤ 15 ∧ (x2_4 : Int).toNat.testBit (m4 36 j).toNat = true) ∧ Imp (0 ≤ v) ((x2_4 : Int).toNat = sn v (x3_4 : Int).toNat ∧ ∀ j : Nat, (j : Int) < x3_4 → m4 36 j = D4 v j)) ∧ (∀ c : Nat, c ≠ 36 → m4 c = M c)) → ((M 32 0) - x3_4) < (n : Int) → Zj κ δ ad rs Q 4 (121, 0, 0) 4 [some (.ref (ad 32)), some (iv v), some (iv x2_4), some (iv x3_4)] [] m4 := by
    intro n
    induction n with
    | zero => intro x2_4 x3_4 m4 h4 hm4; exfalso; obtain ⟨h4, -⟩ := h4; obtain ⟨h4, -⟩ := h4; omega
    | succ n ih4 =>
      intro x2_4 x3_4 m4 h4 hm4
      obtain ⟨h4, f4_0⟩ := h4
      try simp only [f4_0, and_true, true_and, or_true, true_or, implies_true, upn, reduceIte, Nat.reduceEqDiff, ne_eq, not_false_eq_true, upc] at h4 hm4
      refine Z_iload3 hk dX6_layByHand_4 ?_
      refine Z_aload0 hk dX6_layByHand_5 ?_
      refine Z_getI hk fl_6_27 dX6_layByHand_6 ob_32.1 ob_32.2.1 ob_32.2.2.1 ob_32.2.2.2 ft_6_0 (fun v6 e6 a6 b6 => ?_)
      try simp only [f4_0, and_true, true_and, or_true, true_or, implies_true, upn, reduceIte, Nat.reduceEqDiff, ne_eq, not_false_eq_true, upc] at e6
      refine Z_icmp_ge hk (tgt := 43) dX6_layByHand_9 (by decide) (by omega) (by omega) (by omega) (by omega) (fun h9 => ?_) (fun h9 => ?_)
      · refine Z_iload1 hk dX6_layByHand_43 ?_
        refine Z_iconst hk dX6_layByHand_44 ?_
        refine Z_aload0 hk dX6_layByHand_45 ?_
        refine Z_getI hk fl_6_27 dX6_layByHand_46 ob_32.1 ob_32.2.1 ob_32.2.2.1 ob_32.2.2.2 ft_6_0 (fun v46 e46 a46 b46 => ?_)
        try simp only [f4_0, e6, and_true, true_and, or_true, true_or, implies_true, upn, reduceIte, Nat.reduceEqDiff, ne_eq, not_false_eq_true, upc] at e46
        refine Z_imul hk dX6_layByHand_49 ?_
        refine Z_iushr hk dX6_layByHand_50 (fun v50 e50 a50 b50 => ?_)
        refine Z_if_ne hk (tgt := 66) dX6_layByHand_51 (by decide) (by omega) (by omega) (fun h51 => ?_) (fun h51 => ?_)
        · refine Z_iconst hk dX6_layByHand_66 ?_
          exact Z_iret hk hA hQ dX6_layByHand_67 ⟨rfl, rfl, _, rfl, (by exact ⟨(by (try simp only [f4_0, and_true, true_and, or_true, true_or, implies_true, upn, reduceIte, Nat.reduceEqDiff, ne_eq, not_false_eq_true, upc]) <;> (omega)), (by intro c k0 k1 k2 k3 k4; simp only [f4_0, upc, upn, k0, k1, k2, k3, k4, reduceIte, Nat.reduceEqDiff, ne_eq, not_false_eq_true]), (by intro i k0; simp only [f4_0, upc, upn, k0, reduceIte, Nat.reduceEqDiff, ne_eq, not_false_eq_true]), (by (try simp only [f4_0, e6, e46, and_true, true_and, or_true, true_or, implies_true, upn, reduceIte, Nat.reduceEqDiff, ne_eq, not_false_eq_true, upc, upc]) <;> (first | assumption | exact q3)), (by (try simp only [f4_0, e6, e46, and_true, true_and, or_true, true_or, implies_true, upn, reduceIte, Nat.reduceEqDiff, ne_eq, not_false_eq_true, upc, upc]) <;> (first | assumption | exact q4)), (by refine Or.inr ⟨fun c => ?_, rfl, f4_0 32 (by decide), f4_0 33 (by decide), f4_0 34 (by decide), f4_0 35 (by decide)⟩; obtain ⟨c3, c4, c5⟩ := c; first | (have d50 : v50 = sh4 v (((M 32 0).toNat : Nat) : Int) := (by rw [e50, us_eq c3 (by omega) (by omega) (by omega)]; unfold sh4; rw [show (((M 32 0).toNat : Nat) : Int) = M 32 0 from by omega, ← e46]); omega) | (have z := (h4.2.2 c3).1; rw [show x3_4.toNat = (M 32 0).toNat from by omega, c5, ← hg60] at z; omega))⟩)⟩
        · refine Z_iload2 hk dX6_layByHand_54 ?_
          refine Z_iconst hk dX6_layByHand_55 ?_
          refine Z_aload0 hk dX6_layByHand_56 ?_
          refine Z_getI hk fl_6_27 dX6_layByHand_57 ob_32.1 ob_32.2.1 ob_32.2.2.1 ob_32.2.2.2 ft_6_0 (fun v57 e57 a57 b57 => ?_)
          try simp only [f4_0, e6, e46, and_true, true_and, or_true, true_or, implies_true, upn, reduceIte, Nat.reduceEqDiff, ne_eq, not_false_eq_true, upc] at e57
          refine Z_ishl hk dX6_layByHand_60 (fun v60 e60 a60 b60 => ?_)
          have s60 : v60 = ((2 ^ (M 32 0).toNat : Nat) : Int) := by
            rw [e60, e57]
            exact seen_all (by omega) (by omega)
          have s61 : 2 ^ (M 32 0).toNat ≤ 2 ^ 5 := Nat.pow_le_pow_right (by decide) (by omega)
          have s62 : 1 ≤ 2 ^ (M 32 0).toNat := Nat.one_le_two_pow
          obtain ⟨g60, hg60⟩ : ∃ g : Nat, g = 2 ^ (M 32 0).toNat := ⟨_, rfl⟩
          rw [← hg60] at s60 s61 s62
          refine Z_iconst hk dX6_layByHand_61 ?_
          refine Z_isub hk dX6_layByHand_62 ?_
          refine Z_icmp_eq hk (tgt := 68) dX6_layByHand_63 (by decide) (by omega) (by omega) (by omega) (by omega) (fun h63 => ?_) (fun h63 => ?_)
          · have rw68 : RW (M 32 0) (m4 36) := fun j hj => ⟨(h4.2.1 j (by omega)).1, tb_lt (by omega) (s := x2_4) (by rw [← hg60]; omega) (h4.2.1 j (by omega)).1 (h4.2.1 j (by omega)).2.2⟩
            have a68 : 0 ≤ v := by
              rcases Int.lt_or_le v 0 with z | z
              · exact absurd (e50.symm.trans (show v50 = 0 by omega)) (us_ne z (by omega) (by omega) (by omega))
              · exact z
            have d50 : v50 = sh4 v (((M 32 0).toNat : Nat) : Int) :=  by
              rw [e50, us_eq a68 (by omega) (by omega) (by omega)]
              unfold sh4
              rw [show (((M 32 0).toNat : Nat) : Int) = M 32 0 from by omega, ← e46]
            have c68 : ACC v (M 32 0).toNat := ⟨a68, by omega, by have z := (h4.2.2 a68).1; rw [show x3_4.toNat = (M 32 0).toNat from by omega] at z; rw [← z, ← hg60]; omega⟩
            have w36 : ∀ p, p < (M 32 0).toNat → m4 36 p = D4 v p := fun p hp => (h4.2.2 a68).2 p (by omega)
            refine Z_aload0 hk dX6_layByHand_68 ?_
            refine Z_aload0 hk dX6_layByHand_69 ?_
            refine Z_getR hk fl_6_21 dX6_layByHand_70 ob_32.1 ob_32.2.1 ob_32.2.2.1 ob_32.2.2.2 ft_6_5 rs_32_5 ?_
            refine Z_Vv hk (c_X6_append_f36 κ.2.1 δ ad _ hA  (by (try simp only [f4_0, and_true, true_and, or_true, true_or, implies_true, upn, reduceIte, Nat.reduceEqDiff, ne_eq, not_false_eq_true, upc]) <;> (first | omega | assumption)) (by (try simp only [f4_0, and_true, true_and, or_true, true_or, implies_true, upn, reduceIte, Nat.reduceEqDiff, ne_eq, not_false_eq_true, upc]) <;> (first | omega | assumption)) (by (try simp only [f4_0, and_true, true_and, or_true, true_or, implies_true, upn, reduceIte, Nat.reduceEqDiff, ne_eq, not_false_eq_true, upc]) <;> (first | omega | assumption)) (by (try simp only [f4_0, and_true, true_and, or_true, true_or, implies_true, upn, reduceIte, Nat.reduceEqDiff, ne_eq, not_false_eq_true, upc]) <;> (first | omega | assumption)) (by (try simp only [f4_0, and_true, true_and, or_true, true_or, implies_true, upn, reduceIte, Nat.reduceEqDiff, ne_eq, not_false_eq_true, upc]) <;> (first | omega | assumption))) ov_X6_append ml_X6_43 dX6_layByHand_73 rfl ⟨by decide, by decide⟩ ob_32.1 (by decide) (by decide) rfl (Nat.le_of_ble_eq_true rfl) (fun m73 p73 => ?_)
            obtain ⟨p73, f73_0, f73_1, f73_2, f73_3, f73_4, f73_5, f73_6, f73_7⟩ := p73
            try simp only [f73_0, f73_1, f73_2, f73_3, f73_4, f73_5, f73_6, f73_7, f4_0, e6, e46, e57, and_true, true_and, or_true, true_or, implies_true, upn, reduceIte, Nat.reduceEqDiff, ne_eq, not_false_eq_true, upc] at p73
            try simp only [f73_0, f73_1, f73_3, f73_4, f73_5, f73_6, f73_7, f4_0, and_true, true_and, or_true, true_or, implies_true, upn, reduceIte, Nat.reduceEqDiff, ne_eq, not_false_eq_true, upc] at f73_2
            try simp only [f73_0, f73_1, f73_2, f73_4, f73_5, f73_6, f73_7, f4_0, and_true, true_and, or_true, true_or, implies_true, upn, reduceIte, Nat.reduceEqDiff, ne_eq, not_false_eq_true, upc] at f73_3
            try simp only [f73_0, f73_1, f73_2, f73_3, f73_5, f73_6, f73_7, f4_0, and_true, true_and, or_true, true_or, implies_true, upn, reduceIte, Nat.reduceEqDiff, ne_eq, not_false_eq_true, upc] at f73_4
            try simp only [f73_0, f73_1, f73_2, f73_3, f73_4, f73_6, f73_7, f4_0, and_true, true_and, or_true, true_or, implies_true, upn, reduceIte, Nat.reduceEqDiff, ne_eq, not_false_eq_true, upc] at f73_5
            try simp only [f73_0, f73_1, f73_2, f73_3, f73_4, f73_5, f73_7, f4_0, and_true, true_and, or_true, true_or, implies_true, upn, reduceIte, Nat.reduceEqDiff, ne_eq, not_false_eq_true, upc] at f73_6
            try simp only [f73_0, f73_1, f73_2, f73_3, f73_4, f73_5, f73_6, f4_0, and_true, true_and, or_true, true_or, implies_true, upn, reduceIte, Nat.reduceEqDiff, ne_eq, not_false_eq_true, upc] at f73_7
            refine Z_aload0 hk dX6_layByHand_76 ?_
            refine Z_Vi hk (c_X6_unevenness_f κ.2.1 δ ad _ hA  (by (try simp only [f73_0, f73_1, f73_2, f73_3, f73_4, f73_5, f73_6, f73_7, f4_0, and_true, true_and, or_true, true_or, implies_true, upn, reduceIte, Nat.reduceEqDiff, ne_eq, not_false_eq_true, upc]) <;> (first | omega | assumption))) ov_X6_unevenness ml_X6_47 dX6_layByHand_77 rfl ⟨by decide, by decide⟩ ob_32.1 (by decide) (by decide) rfl (Nat.le_of_ble_eq_true rfl) (fun r77 m77 p77 => ?_)
            obtain ⟨rfl, p77⟩ := p77
            try simp only [f73_0, f73_1, f73_2, f73_3, f73_4, f73_5, f73_6, f73_7, f4_0, e6, e46, e57, and_true, true_and, or_true, true_or, implies_true, upn, reduceIte, Nat.reduceEqDiff, ne_eq, not_false_eq_true, upc] at p77
            exact Z_iret hk hA hQ dX6_layByHand_80 ⟨rfl, rfl, _, rfl, (by exact ⟨(by (try simp only [f73_0, f73_1, f73_2, f73_3, f73_4, f73_5, f73_6, f73_7, f4_0, and_true, true_and, or_true, true_or, implies_true, upn, reduceIte, Nat.reduceEqDiff, ne_eq, not_false_eq_true, upc]) <;> (omega)), (by intro c k0 k1 k2 k3 k4; simp only [f73_0, f73_1, f73_2, f73_3, f73_4, f73_5, f73_6, f73_7, f4_0, upc, upn, k0, k1, k2, k3, k4, reduceIte, Nat.reduceEqDiff, ne_eq, not_false_eq_true]), (by intro i k0; simp only [f73_0, f73_1, f73_2, f73_3, f73_4, f73_5, f73_6, f73_7, f4_0, upc, upn, k0, reduceIte, Nat.reduceEqDiff, ne_eq, not_false_eq_true]), (by (try simp only [f73_0, f73_1, f73_2, f73_3, f73_4, f73_5, f73_6, f73_7, f4_0, e6, e46, e57, and_true, true_and, or_true, true_or, implies_true, upn, reduceIte, Nat.reduceEqDiff, ne_eq, not_false_eq_true, upc, upc]) <;> (first | assumption | exact q3)), (by (try simp only [f73_0, f73_1, f73_2, f73_3, f73_4, f73_5, f73_6, f73_7, f4_0, e6, e46, e57, and_true, true_and, or_true, true_or, implies_true, upn, reduceIte, Nat.reduceEqDiff, ne_eq, not_false_eq_true, upc, upc]) <;> (first | assumption | exact q4)), (by exact Or.inl ⟨c68, (by (try simp only [f73_0, f73_1, f73_2, f73_3, f73_4, f73_5, f73_6, f73_7, f4_0, e6, e46, e57, and_true, true_and, or_true, true_or, implies_true, upn, reduceIte, Nat.reduceEqDiff, ne_eq, not_false_eq_true, upc, upc]) <;> omega), (by omega), (fun p hp => by rw [f73_4 p (by omega)]; exact w36 p hp), (fun j hj => f73_5 j hj), (fun a b ha hb => by rw [f73_6 a b (by omega) (by omega), w36 b hb]), (fun a b ha hb => by rw [f73_7 a b (by omega) (by omega), cA1_congr (g := D4 v) (i := 0) (j := 0) (M 32 0).toNat (fun p hp => by rw [show 5 * 0 + p = p from by omega]; exact w36 p hp)]), (by rw [p77, show m73 32 1 = M 32 1 + 1 from by omega])⟩)⟩)⟩
          · refine Z_iconst hk dX6_layByHand_66 ?_
            exact Z_iret hk hA hQ dX6_layByHand_67 ⟨rfl, rfl, _, rfl, (by exact ⟨(by (try simp only [f4_0, and_true, true_and, or_true, true_or, implies_true, upn, reduceIte, Nat.reduceEqDiff, ne_eq, not_false_eq_true, upc]) <;> (omega)), (by intro c k0 k1 k2 k3 k4; simp only [f4_0, upc, upn, k0, k1, k2, k3, k4, reduceIte, Nat.reduceEqDiff, ne_eq, not_false_eq_true]), (by intro i k0; simp only [f4_0, upc, upn, k0, reduceIte, Nat.reduceEqDiff, ne_eq, not_false_eq_true]), (by (try simp only [f4_0, e6, e46, e57, and_true, true_and, or_true, true_or, implies_true, upn, reduceIte, Nat.reduceEqDiff, ne_eq, not_false_eq_true, upc, upc]) <;> (first | assumption | exact q3)), (by (try simp only [f4_0, e6, e46, e57, and_true, true_and, or_true, true_or, implies_true, upn, reduceIte, Nat.reduceEqDiff, ne_eq, not_false_eq_true, upc, upc]) <;> (first | assumption | exact q4)), (by refine Or.inr ⟨fun c => ?_, rfl, f4_0 32 (by decide), f4_0 33 (by decide), f4_0 34 (by decide), f4_0 35 (by decide)⟩; obtain ⟨c3, c4, c5⟩ := c; first | (have d50 : v50 = sh4 v (((M 32 0).toNat : Nat) : Int) := (by rw [e50, us_eq c3 (by omega) (by omega) (by omega)]; unfold sh4; rw [show (((M 32 0).toNat : Nat) : Int) = M 32 0 from by omega, ← e46]); omega) | (have z := (h4.2.2 c3).1; rw [show x3_4.toNat = (M 32 0).toNat from by omega, c5, ← hg60] at z; omega))⟩)⟩
      · refine Z_aload0 hk dX6_layByHand_12 ?_
        refine Z_getR hk fl_6_21 dX6_layByHand_13 ob_32.1 ob_32.2.1 ob_32.2.2.1 ob_32.2.2.2 ft_6_5 rs_32_5 ?_
        refine Z_iload3 hk dX6_layByHand_16 ?_
        refine Z_iload1 hk dX6_layByHand_17 ?_
        refine Z_iconst hk dX6_layByHand_18 ?_
        refine Z_iload3 hk dX6_layByHand_19 ?_
        refine Z_imul hk dX6_layByHand_20 ?_
        refine Z_iushr hk dX6_layByHand_21 (fun v21 e21 a21 b21 => ?_)
        refine Z_bipush hk dX6_layByHand_22 (by decide) ?_
        refine Z_iand hk dX6_layByHand_24 (fun v24 e24 a24 b24 => ?_)
        have g24 := and_mask (Int32.ofInt v21) 4 (m := 15) (by decide +kernel) (by decide)
        rw [← e24] at g24
        refine Z_iast hk hA dX6_layByHand_25 ar_36.1 ar_36.2.1 ar_36.2.2 (by omega) (by omega) (by omega) (by omega) ?_
        refine Z_nm (fun m25 em25 => ?_)
        refine Z_iload2 hk dX6_layByHand_26 ?_
        refine Z_iconst hk dX6_layByHand_27 ?_
        refine Z_aload0 hk dX6_layByHand_28 ?_
        refine Z_getR hk fl_6_21 dX6_layByHand_29 ob_32.1 ob_32.2.1 ob_32.2.2.1 ob_32.2.2.2 ft_6_5 rs_32_5 ?_
        refine Z_iload3 hk dX6_layByHand_32 ?_
        refine Z_iald hk dX6_layByHand_33 ar_36.1 ar_36.2.1 ar_36.2.2 (by omega) (by omega) (fun v33 e33 a33 b33 => ?_)
        try simp only [em25, f4_0, e6, and_true, true_and, or_true, true_or, implies_true, upn, reduceIte, Nat.reduceEqDiff, ne_eq, not_false_eq_true, upc] at e33
        refine Z_ishl hk dX6_layByHand_34 (fun v34 e34 a34 b34 => ?_)
        refine Z_ior hk dX6_layByHand_35 (fun v35 e35 a35 b35 => ?_)
        have s35 : v35 = ((x2_4.toNat ||| 2 ^ v24.toNat : Nat) : Int) := by
          rw [e35, e34, show v33 = v24 from by omega]
          exact seen_or (by omega) (by omega) (by omega) (by omega)
        have s36 : x2_4.toNat ||| 2 ^ v24.toNat < 2 ^ 16 := Nat.or_lt_two_pow (by omega) (Nat.pow_lt_pow_right (by decide) (by omega))
        refine Z_istore2 hk rfl (by decide) dX6_layByHand_36 ?_
        refine Z_iinc3 hk rfl (by decide) dX6_layByHand_37 ?_
        refine Z_goto hk (tgt := 4) dX6_layByHand_40 (by decide) ?_
        exact ih4 _ _ _ (by exact ⟨(by (refine ⟨by omega, (fun j hj => ?_), fun hv => ?_⟩; (have y := h4.2.1 j; rw [show v35 = _ from s35]; simp only [em25, f4_0, e6, e33, and_true, true_and, or_true, true_or, implies_true, upn, reduceIte, Nat.reduceEqDiff, ne_eq, not_false_eq_true, upc, upc]; split; exact ⟨by omega, by omega, tb_or (Or.inr rfl)⟩; exact ⟨(y (by omega)).1, (y (by omega)).2.1, tb_or (Or.inl (y (by omega)).2.2)⟩); (have d24 : v24 = D4 v x3_4.toNat := (by rw [e24, e21, us_eq hv (by omega) (by omega) (by omega)]; unfold D4; rw [show ((x3_4.toNat : Nat) : Int) = x3_4 from by omega]); refine ⟨?_, fun j hj => ?_⟩; (rw [show v35 = _ from s35, Int.toNat_natCast, (h4.2.2 hv).1, show (x3_4 + 1).toNat = x3_4.toNat + 1 from by omega, d24]; rfl); (simp only [em25, f4_0, e6, e33, and_true, true_and, or_true, true_or, implies_true, upn, reduceIte, Nat.reduceEqDiff, ne_eq, not_false_eq_true, upc, upc]; by_cases c : j = x3_4.toNat; (rw [if_pos c, c]; exact d24); (rw [if_neg c]; exact (h4.2.2 hv).2 j (by omega)))))), (by intro c k0; simp only [em25, f4_0, upc, upn, k0, reduceIte, Nat.reduceEqDiff, ne_eq, not_false_eq_true])⟩) (by (try simp only [em25, f4_0, and_true, true_and, or_true, true_or, implies_true, upn, reduceIte, Nat.reduceEqDiff, ne_eq, not_false_eq_true, upc]) <;> (omega))
  refine Z_istore3 hk rfl (by decide) dX6_layByHand_3 ?_
  exact J4 ((((M 32 0) - 0) : Int).toNat + 1) _ _ _ (by exact ⟨(by (exact ⟨by omega, (fun j hj => by omega), fun _ => ⟨rfl, fun j hj => by omega⟩⟩)), (by intro c k0; rfl)⟩) (by omega)
set_option maxRecDepth 10000 in
theorem c_X8_serves_f (l : Launch) (δ : Dp) (ad : Nat → Nat) (M : Mem) (hA : okA δ ad) (v : Int) (q0 : ((M 32 0 = 0 ∧ M 32 1 = 0) ∨ (2 ≤ M 32 0 ∧ M 32 0 ≤ 5)) ∧ 0 ≤ M 32 1 ∧ M 32 1 ≤ 30) (q3 : CB (5 * M 32 1) (M 34)) (q4 : CB (5 * M 32 1) (M 35)) (i_v : -2147483648 ≤ v ∧ v ≤ 2147483647) : Mi l δ yX8_serves cX8_serves 2 (some (.int)) 3 69 ad rs [.ref (ad 0), iv v] M (fun r M' => (M 32 1 ≤ M' 32 1 ∧ M' 32 1 ≤ 30 ∧ (M 32 1 = 0 → M' 32 1 = 0)) ∧ (∀ c : Nat, c ≠ 32 → c ≠ 33 → c ≠ 34 → c ≠ 35 → c ≠ 36 → M' c = M c) ∧ (∀ i : Nat, i ≠ 1 → M' 32 i = M 32 i) ∧ (CB (5 * M' 32 1) (M' 34)) ∧ (CB (5 * M' 32 1) (M' 35)) ∧ (scS v r M M')) := by
  refine Mg.of (rm := rmN 3 69) (by decide) (Nat.le_of_ble_eq_true rfl) fun κ _ hk _ => ?_
  generalize hQ : Qg κ δ 121 (rmN 3 69).cells (rmN 3 69).slots _ = Q
  show Zj κ δ ad rs Q 2 (121, 0, 0) 0 [some (.ref (ad 0)), some (iv v)] [] M
  refine Z_aload0 hk dX8_serves_0 ?_
  refine Z_getR hk fl_8_65 dX8_serves_1 ob_0.1 ob_0.2.1 ob_0.2.2.1 ob_0.2.2.2 ft_8_6 rs_0_6 ?_
  refine Z_getI hk fl_8_227 dX8_serves_4 ob_32.1 ob_32.2.1 ob_32.2.2.1 ob_32.2.2.2 ft_6_1 (fun v4 e4 a4 b4 => ?_)
  refine Z_iconst hk dX8_serves_7 ?_
  refine Z_icmp_lt hk (tgt := 23) dX8_serves_8 (by decide) (by omega) (by omega) (by decide) (by decide) (fun h8 => ?_) (fun h8 => ?_)
  · refine Z_iconst hk dX8_serves_23 ?_
    refine Z_goto hk (tgt := 35) dX8_serves_24 (by decide) ?_
    exact Z_iret hk hA hQ dX8_serves_35 ⟨rfl, rfl, _, rfl, (by exact ⟨(by (omega)), (by intro c k0 k1 k2 k3 k4; rfl), (by intro i k0; rfl), (by (try simp only [e4, and_true, true_and, or_true, true_or, implies_true, upn, reduceIte, Nat.reduceEqDiff, ne_eq, not_false_eq_true, upc, upc]) <;> (first | assumption | exact q3)), (by (try simp only [e4, and_true, true_and, or_true, true_or, implies_true, upn, reduceIte, Nat.reduceEqDiff, ne_eq, not_false_eq_true, upc, upc]) <;> (first | assumption | exact q4)), (by first | exact Or.inr ⟨fun c => by omega, rfl, rfl, rfl, rfl, rfl⟩ | (rcases f32_4 with ⟨z1, z2⟩ | ⟨z1, z2⟩; (exact Or.inl ⟨⟨by omega, by omega, z1⟩, z2⟩); exact Or.inr ⟨fun c => z1 c.2.2, z2⟩))⟩)⟩
  · refine Z_aload0 hk dX8_serves_11 ?_
    refine Z_getR hk fl_8_65 dX8_serves_12 ob_0.1 ob_0.2.1 ob_0.2.2.1 ob_0.2.2.2 ft_8_6 rs_0_6 ?_
    refine Z_getI hk fl_8_227 dX8_serves_15 ob_32.1 ob_32.2.1 ob_32.2.2.1 ob_32.2.2.2 ft_6_1 (fun v15 e15 a15 b15 => ?_)
    try simp only [e4, and_true, true_and, or_true, true_or, implies_true, upn, reduceIte, Nat.reduceEqDiff, ne_eq, not_false_eq_true, upc] at e15
    refine Z_bipush hk dX8_serves_18 (by decide) ?_
    refine Z_icmp_lt hk (tgt := 27) dX8_serves_20 (by decide) (by omega) (by omega) (by decide) (by decide) (fun h20 => ?_) (fun h20 => ?_)
    · refine Z_aload0 hk dX8_serves_27 ?_
      refine Z_getR hk fl_8_65 dX8_serves_28 ob_0.1 ob_0.2.1 ob_0.2.2.1 ob_0.2.2.2 ft_8_6 rs_0_6 ?_
      refine Z_iload1 hk dX8_serves_31 ?_
      refine Z_Vi hk (c_X6_layByHand_f κ.2.1 δ ad _ hA v (by (first | omega | assumption)) (by (first | omega | assumption)) (by (first | omega | assumption)) (by (first | omega | assumption)) (by (first | omega | assumption))) ov_X6_layByHand ml_X8_236 dX8_serves_32 rfl ⟨by decide, by decide⟩ ob_32.1 (by decide) (by decide) rfl (Nat.le_of_ble_eq_true rfl) (fun r32 m32 p32 => ?_)
      obtain ⟨p32, f32_0, f32_1, f32_2, f32_3, f32_4⟩ := p32
      try simp only [f32_0, f32_1, f32_2, f32_3, f32_4, e4, e15, and_true, true_and, or_true, true_or, implies_true, upn, reduceIte, Nat.reduceEqDiff, ne_eq, not_false_eq_true, upc] at p32
      try simp only [f32_0, f32_1, f32_3, f32_4, and_true, true_and, or_true, true_or, implies_true, upn, reduceIte, Nat.reduceEqDiff, ne_eq, not_false_eq_true, upc] at f32_2
      try simp only [f32_0, f32_1, f32_2, f32_4, and_true, true_and, or_true, true_or, implies_true, upn, reduceIte, Nat.reduceEqDiff, ne_eq, not_false_eq_true, upc] at f32_3
      try simp only [f32_0, f32_1, f32_2, f32_3, and_true, true_and, or_true, true_or, implies_true, upn, reduceIte, Nat.reduceEqDiff, ne_eq, not_false_eq_true, upc] at f32_4
      exact Z_iret hk hA hQ dX8_serves_35 ⟨rfl, rfl, _, rfl, (by exact ⟨(by (try simp only [f32_0, f32_1, f32_2, f32_3, f32_4, and_true, true_and, or_true, true_or, implies_true, upn, reduceIte, Nat.reduceEqDiff, ne_eq, not_false_eq_true, upc]) <;> (omega)), (by intro c k0 k1 k2 k3 k4; simp only [f32_0, f32_1, f32_2, f32_3, f32_4, upc, upn, k0, k1, k2, k3, k4, reduceIte, Nat.reduceEqDiff, ne_eq, not_false_eq_true]), (by intro i k0; simp only [f32_0, f32_1, f32_2, f32_3, f32_4, upc, upn, k0, reduceIte, Nat.reduceEqDiff, ne_eq, not_false_eq_true]), (by (try simp only [f32_0, f32_1, f32_2, f32_3, f32_4, e4, e15, and_true, true_and, or_true, true_or, implies_true, upn, reduceIte, Nat.reduceEqDiff, ne_eq, not_false_eq_true, upc, upc]) <;> (first | assumption | exact q3)), (by (try simp only [f32_0, f32_1, f32_2, f32_3, f32_4, e4, e15, and_true, true_and, or_true, true_or, implies_true, upn, reduceIte, Nat.reduceEqDiff, ne_eq, not_false_eq_true, upc, upc]) <;> (first | assumption | exact q4)), (by first | exact Or.inr ⟨fun c => by omega, rfl, rfl, rfl, rfl, rfl⟩ | (rcases f32_4 with ⟨z1, z2⟩ | ⟨z1, z2⟩; (exact Or.inl ⟨⟨by omega, by omega, z1⟩, z2⟩); exact Or.inr ⟨fun c => z1 c.2.2, z2⟩))⟩)⟩
    · refine Z_iconst hk dX8_serves_23 ?_
      refine Z_goto hk (tgt := 35) dX8_serves_24 (by decide) ?_
      exact Z_iret hk hA hQ dX8_serves_35 ⟨rfl, rfl, _, rfl, (by exact ⟨(by (omega)), (by intro c k0 k1 k2 k3 k4; rfl), (by intro i k0; rfl), (by (try simp only [e4, e15, and_true, true_and, or_true, true_or, implies_true, upn, reduceIte, Nat.reduceEqDiff, ne_eq, not_false_eq_true, upc, upc]) <;> (first | assumption | exact q3)), (by (try simp only [e4, e15, and_true, true_and, or_true, true_or, implies_true, upn, reduceIte, Nat.reduceEqDiff, ne_eq, not_false_eq_true, upc, upc]) <;> (first | assumption | exact q4)), (by first | exact Or.inr ⟨fun c => by omega, rfl, rfl, rfl, rfl, rfl⟩ | (rcases f32_4 with ⟨z1, z2⟩ | ⟨z1, z2⟩; (exact Or.inl ⟨⟨by omega, by omega, z1⟩, z2⟩); exact Or.inr ⟨fun c => z1 c.2.2, z2⟩))⟩)⟩
set_option maxHeartbeats 2000000 in
set_option maxRecDepth 10000 in
theorem c_X9_serves_f (l : Launch) (δ : Dp) (ad : Nat → Nat) (M : Mem) (hA : okA δ ad) (v : Int) (q0 : ((M 48 108) = 0 ∨ (2 ≤ (M 48 108) ∧ (M 48 108) ≤ 5)) ∧ 0 ≤ (M 48 109) ∧ (M 48 109) ≤ 30) (q1 : TH (M 118)) (i_v : -2147483648 ≤ v ∧ v ≤ 2147483647) : Mi l δ yX9_serves cX9_serves 5 (some (.int)) 2 45 ad rs [.ref (ad 48), iv v] M (fun r M' => ((M 48 109) ≤ (M' 48 109) ∧ (M' 48 109) ≤ 30) ∧ (∀ c : Nat, c ≠ 118 → c ≠ 119 → c ≠ 120 → c ≠ 48 → M' c = M c) ∧ (∀ i : Nat, i ≠ 109 → M' 48 i = M 48 i) ∧ (TH (M' 118)) ∧ (smS v r M M')) := by
  refine Mg.of (rm := rmN 2 45) (by decide) (Nat.le_of_ble_eq_true rfl) fun κ _ hk _ => ?_
  generalize hQ : Qg κ δ 121 (rmN 2 45).cells (rmN 2 45).slots _ = Q
  show Zj κ δ ad rs Q 5 (121, 0, 0) 0 [some (.ref (ad 48)), some (iv v), none, none, none] [] M
  refine Z_aload0 hk dX9_serves_0 ?_
  refine Z_getI hk fl_9_646 dX9_serves_1 ob_48.1 ob_48.2.1 ob_48.2.2.1 ob_48.2.2.2 ft_9_108 (fun v1 e1 a1 b1 => ?_)
  refine Z_if_eq hk (tgt := 31) dX9_serves_4 (by decide) (by omega) (by omega) (fun h4 => ?_) (fun h4 => ?_)
  · refine Z_iconst hk dX9_serves_31 ?_
    exact Z_iret hk hA hQ dX9_serves_32 ⟨rfl, rfl, _, rfl, (by exact ⟨(by (omega)), (by intro c k0 k1 k2 k3; rfl), (by intro i k0; rfl), (by (try simp only [e1, and_true, true_and, or_true, true_or, implies_true, upn, reduceIte, Nat.reduceEqDiff, ne_eq, not_false_eq_true, upc, upc]); first | exact h95.2.1 | exact q1), (by refine Or.inr ⟨fun c => ?_, rfl, rfl, rfl, rfl⟩; obtain ⟨c1, c2, c3, c4, c5⟩ := c; omega)⟩)⟩
  · refine Z_aload0 hk dX9_serves_7 ?_
    refine Z_getI hk fl_9_649 dX9_serves_8 ob_48.1 ob_48.2.1 ob_48.2.2.1 ob_48.2.2.2 ft_9_109 (fun v8 e8 a8 b8 => ?_)
    try simp only [e1, and_true, true_and, or_true, true_or, implies_true, upn, reduceIte, Nat.reduceEqDiff, ne_eq, not_false_eq_true, upc] at e8
    refine Z_bipush hk dX9_serves_11 (by decide) ?_
    refine Z_icmp_eq hk (tgt := 31) dX9_serves_13 (by decide) (by omega) (by omega) (by decide) (by decide) (fun h13 => ?_) (fun h13 => ?_)
    · refine Z_iconst hk dX9_serves_31 ?_
      exact Z_iret hk hA hQ dX9_serves_32 ⟨rfl, rfl, _, rfl, (by exact ⟨(by (omega)), (by intro c k0 k1 k2 k3; rfl), (by intro i k0; rfl), (by (try simp only [e1, e8, and_true, true_and, or_true, true_or, implies_true, upn, reduceIte, Nat.reduceEqDiff, ne_eq, not_false_eq_true, upc, upc]); first | exact h95.2.1 | exact q1), (by refine Or.inr ⟨fun c => ?_, rfl, rfl, rfl, rfl⟩; obtain ⟨c1, c2, c3, c4, c5⟩ := c; omega)⟩)⟩
    · refine Z_iload1 hk dX9_serves_16 ?_
      refine Z_if_lt hk (tgt := 31) dX9_serves_17 (by decide) (by omega) (by omega) (fun h17 => ?_) (fun h17 => ?_)
      · refine Z_iconst hk dX9_serves_31 ?_
        exact Z_iret hk hA hQ dX9_serves_32 ⟨rfl, rfl, _, rfl, (by exact ⟨(by (omega)), (by intro c k0 k1 k2 k3; rfl), (by intro i k0; rfl), (by (try simp only [e1, e8, and_true, true_and, or_true, true_or, implies_true, upn, reduceIte, Nat.reduceEqDiff, ne_eq, not_false_eq_true, upc, upc]); first | exact h95.2.1 | exact q1), (by refine Or.inr ⟨fun c => ?_, rfl, rfl, rfl, rfl⟩; obtain ⟨c1, c2, c3, c4, c5⟩ := c; omega)⟩)⟩
      · refine Z_iload1 hk dX9_serves_20 ?_
        refine Z_iconst hk dX9_serves_21 ?_
        refine Z_aload0 hk dX9_serves_22 ?_
        refine Z_getI hk fl_9_646 dX9_serves_23 ob_48.1 ob_48.2.1 ob_48.2.2.1 ob_48.2.2.2 ft_9_108 (fun v23 e23 a23 b23 => ?_)
        try simp only [e1, e8, and_true, true_and, or_true, true_or, implies_true, upn, reduceIte, Nat.reduceEqDiff, ne_eq, not_false_eq_true, upc] at e23
        refine Z_imul hk dX9_serves_26 ?_
        refine Z_ishr hk dX9_serves_27 (fun v27 e27 a27 b27 => ?_)
        have d27 : v27 = sh4 v (((M 48 108).toNat : Nat) : Int) := by
          unfold sh4
          rw [show (((M 48 108).toNat : Nat) : Int) = M 48 108 from by omega, ← e23, ← e27]
        refine Z_if_eq hk (tgt := 33) dX9_serves_28 (by decide) (by omega) (by omega) (fun h28 => ?_) (fun h28 => ?_)
        · refine Z_iconst hk dX9_serves_33 ?_
          refine Z_istore2 hk rfl (by decide) dX9_serves_34 ?_
          refine Z_iconst hk dX9_serves_35 ?_
          have J37 : ∀ (n : Nat) (x2_37 : Int) (x3_37 : Int), ((0 ≤ x3_37 ∧ x3_37 ≤ (M 48 108) ∧ 0 ≤ x2_37 ∧ x2_37 < 65536) ∧ (x2_37 : Int).toNat = sn v (x3_37 : Int).toNat ∧ ∀ j : Nat, (j : Int) < x3_37 → D4 v j < (M 48 108)) → ((M 48 108) - x3_37) < (n : Int) → Zj κ δ ad rs Q 5 (121, 0, 0) 37 [some (.ref (ad 48)), some (iv v), some (iv x2_37), some (iv x3_37), none] [] M := by
            intro n
            induction n with
            | zero => intro x2_37 x3_37 h37 hm37; exfalso; obtain ⟨h37, -⟩ := h37; omega
            | succ n ih37 =>
              intro x2_37 x3_37 h37 hm37
              refine Z_iload3 hk dX9_serves_37 ?_
              refine Z_aload0 hk dX9_serves_38 ?_
              refine Z_getI hk fl_9_646 dX9_serves_39 ob_48.1 ob_48.2.1 ob_48.2.2.1 ob_48.2.2.2 ft_9_108 (fun v39 e39 a39 b39 => ?_)
              try simp only [e1, e8, e23, and_true, true_and, or_true, true_or, implies_true, upn, reduceIte, Nat.reduceEqDiff, ne_eq, not_false_eq_true, upc] at e39
              refine Z_icmp_ge hk (tgt := 79) dX9_serves_42 (by decide) (by omega) (by omega) (by omega) (by omega) (fun h42 => ?_) (fun h42 => ?_)
              · refine Z_iload2 hk dX9_serves_79 ?_
                refine Z_iconst hk dX9_serves_80 ?_
                refine Z_aload0 hk dX9_serves_81 ?_
                refine Z_getI hk fl_9_646 dX9_serves_82 ob_48.1 ob_48.2.1 ob_48.2.2.1 ob_48.2.2.2 ft_9_108 (fun v82 e82 a82 b82 => ?_)
                try simp only [e1, e8, e23, e39, and_true, true_and, or_true, true_or, implies_true, upn, reduceIte, Nat.reduceEqDiff, ne_eq, not_false_eq_true, upc] at e82
                refine Z_ishl hk dX9_serves_85 (fun v85 e85 a85 b85 => ?_)
                have s85 : v85 = ((2 ^ (M 48 108).toNat : Nat) : Int) := by
                  rw [e85, e82]
                  exact seen_all (by omega) (by omega)
                have s86 : 2 ^ (M 48 108).toNat ≤ 2 ^ 5 := Nat.pow_le_pow_right (by decide) (by omega)
                have s87 : 1 ≤ 2 ^ (M 48 108).toNat := Nat.one_le_two_pow
                obtain ⟨g85, hg85⟩ : ∃ g : Nat, g = 2 ^ (M 48 108).toNat := ⟨_, rfl⟩
                rw [← hg85] at s85 s86 s87
                refine Z_iconst hk dX9_serves_86 ?_
                refine Z_isub hk dX9_serves_87 ?_
                refine Z_icmp_eq hk (tgt := 93) dX9_serves_88 (by decide) (by omega) (by omega) (by omega) (by omega) (fun h88 => ?_) (fun h88 => ?_)
                · refine Z_iconst hk dX9_serves_93 ?_
                  have J95 : ∀ (n : Nat) (x3_95 : Int) (m95 : Mem), (((0 ≤ x3_95 ∧ x3_95 ≤ (M 48 108)) ∧ TH (m95 118) ∧ (∀ p : Nat, (p : Int) < x3_95 → m95 118 (5 * (M 48 109).toNat + p) = D4 v p) ∧ ∀ j : Nat, j < 5 * (M 48 109).toNat → m95 118 j = M 118 j) ∧ (∀ c : Nat, c ≠ 118 → m95 c = M c)) → ((M 48 108) - x3_95) < (n : Int) → Zj κ δ ad rs Q 5 (121, 0, 0) 95 [some (.ref (ad 48)), some (iv v), some (iv x2_37), some (iv x3_95), none] [] m95 := by
                    intro n
                    induction n with
                    | zero => intro x3_95 m95 h95 hm95; exfalso; obtain ⟨h95, -⟩ := h95; obtain ⟨h95, -⟩ := h95; omega
                    | succ n ih95 =>
                      intro x3_95 m95 h95 hm95
                      obtain ⟨h95, f95_0⟩ := h95
                      try simp only [f95_0, and_true, true_and, or_true, true_or, implies_true, upn, reduceIte, Nat.reduceEqDiff, ne_eq, not_false_eq_true, upc] at h95 hm95
                      refine Z_iload3 hk dX9_serves_95 ?_
                      refine Z_aload0 hk dX9_serves_96 ?_
                      refine Z_getI hk fl_9_646 dX9_serves_97 ob_48.1 ob_48.2.1 ob_48.2.2.1 ob_48.2.2.2 ft_9_108 (fun v97 e97 a97 b97 => ?_)
                      try simp only [f95_0, e1, e8, e23, e39, e82, and_true, true_and, or_true, true_or, implies_true, upn, reduceIte, Nat.reduceEqDiff, ne_eq, not_false_eq_true, upc] at e97
                      refine Z_icmp_ge hk (tgt := 130) dX9_serves_100 (by decide) (by omega) (by omega) (by omega) (by omega) (fun h100 => ?_) (fun h100 => ?_)
                      · refine Z_aload0 hk dX9_serves_130 ?_
                        refine Z_dup1 hk rfl dX9_serves_131 ?_
                        refine Z_getI hk fl_9_649 dX9_serves_132 ob_48.1 ob_48.2.1 ob_48.2.2.1 ob_48.2.2.2 ft_9_109 (fun v132 e132 a132 b132 => ?_)
                        try simp only [f95_0, e1, e8, e23, e39, e82, e97, and_true, true_and, or_true, true_or, implies_true, upn, reduceIte, Nat.reduceEqDiff, ne_eq, not_false_eq_true, upc] at e132
                        refine Z_iconst hk dX9_serves_135 ?_
                        refine Z_iadd hk dX9_serves_136 ?_
                        refine Z_putI hk hA fl_9_649 dX9_serves_137 ob_48.1 ob_48.2.1 ob_48.2.2.1 ob_48.2.2.2 ft_9_109 (by omega) (by omega) ?_
                        refine Z_nm (fun m137 em137 => ?_)
                        refine Z_aload0 hk dX9_serves_140 ?_
                        refine Z_aload0 hk dX9_serves_141 ?_
                        refine Z_getI hk fl_9_646 dX9_serves_142 ob_48.1 ob_48.2.1 ob_48.2.2.1 ob_48.2.2.2 ft_9_108 (fun v142 e142 a142 b142 => ?_)
                        try simp only [em137, f95_0, e1, e8, e23, e39, e82, e97, e132, and_true, true_and, or_true, true_or, implies_true, upn, reduceIte, Nat.reduceEqDiff, ne_eq, not_false_eq_true, upc] at e142
                        refine Z_aload0 hk dX9_serves_145 ?_
                        refine Z_getI hk fl_9_649 dX9_serves_146 ob_48.1 ob_48.2.1 ob_48.2.2.1 ob_48.2.2.2 ft_9_109 (fun v146 e146 a146 b146 => ?_)
                        try simp only [em137, f95_0, e1, e8, e23, e39, e82, e97, e132, e142, and_true, true_and, or_true, true_or, implies_true, upn, reduceIte, Nat.reduceEqDiff, ne_eq, not_false_eq_true, upc] at e146
                        refine Z_Vi hk (c_X9_uneven_f κ.2.1 δ ad _ hA v142 v146 (by (try simp only [em137, f95_0, and_true, true_and, or_true, true_or, implies_true, upn, reduceIte, Nat.reduceEqDiff, ne_eq, not_false_eq_true, upc]) <;> (omega)) (by ((try simp only [em137, f95_0, e1, e8, e23, e39, e82, e97, e132, e142, e146, and_true, true_and, or_true, true_or, implies_true, upn, reduceIte, Nat.reduceEqDiff, ne_eq, not_false_eq_true, upc, upc]); exact h95.2.1))) ov_X9_uneven ml_X9_643 dX9_serves_149 rfl ⟨by decide, by decide⟩ ob_48.1 (by decide) (by decide) rfl (Nat.le_of_ble_eq_true rfl) (fun r149 m149 p149 => ?_)
                        obtain ⟨p149, f149_0, f149_1, f149_2⟩ := p149
                        try simp only [f149_0, f149_1, f149_2, em137, f95_0, e1, e8, e23, e39, e82, e97, e132, e142, e146, and_true, true_and, or_true, true_or, implies_true, upn, reduceIte, Nat.reduceEqDiff, ne_eq, not_false_eq_true, upc] at p149
                        have u149 : r149 = UN (M 48 108).toNat ((M 48 109).toNat + 1) (m95 118) := by
                          have cc : CC (m149 119) (m149 120) (m95 118) (M 48 108).toNat ((M 48 109).toNat + 1) := fun a b ha hb => ⟨by
                            have z := f149_1 a b (by omega) (by omega)
                            (try simp only [f149_0, f149_1, f149_2, em137, f95_0, e1, e8, e23, e39, e82, e97, e132, e142, e146, and_true, true_and, or_true, true_or, implies_true, upn, reduceIte, Nat.reduceEqDiff, ne_eq, not_false_eq_true, upc, upc] at z)
                            rw [z]
                            congr 1
                            omega, by
                            have z := f149_2 a b (by omega) (by omega)
                            (try simp only [f149_0, f149_1, f149_2, em137, f95_0, e1, e8, e23, e39, e82, e97, e132, e142, e146, and_true, true_and, or_true, true_or, implies_true, upn, reduceIte, Nat.reduceEqDiff, ne_eq, not_false_eq_true, upc, upc] at z)
                            rw [z]
                            congr 1
                            omega⟩
                          have z0 := UN_of (by omega) cc
                          rw [show (((M 48 108).toNat : Nat) : Int) = M 48 108 from by omega, show (((M 48 109).toNat + 1 : Nat) : Int) = M 48 109 + 1 from by omega] at z0
                          have y := p149
                          (try simp only [f149_0, f149_1, f149_2, em137, f95_0, e1, e8, e23, e39, e82, e97, e132, e142, e146, and_true, true_and, or_true, true_or, implies_true, upn, reduceIte, Nat.reduceEqDiff, ne_eq, not_false_eq_true, upc, upc] at y)
                          rw [y]
                          exact z0
                        exact Z_iret hk hA hQ dX9_serves_152 ⟨rfl, rfl, _, rfl, (by exact ⟨(by (try simp only [f149_0, f149_1, f149_2, em137, f95_0, and_true, true_and, or_true, true_or, implies_true, upn, reduceIte, Nat.reduceEqDiff, ne_eq, not_false_eq_true, upc]) <;> (omega)), (by intro c k0 k1 k2 k3; simp only [f149_0, f149_1, f149_2, em137, f95_0, upc, upn, k0, k1, k2, k3, reduceIte, Nat.reduceEqDiff, ne_eq, not_false_eq_true]), (by intro i k0; simp only [f149_0, f149_1, f149_2, em137, f95_0, upc, upn, k0, reduceIte, Nat.reduceEqDiff, ne_eq, not_false_eq_true]), (by (try simp only [f149_0, f149_1, f149_2, em137, f95_0, e1, e8, e23, e39, e82, e97, e132, e142, e146, and_true, true_and, or_true, true_or, implies_true, upn, reduceIte, Nat.reduceEqDiff, ne_eq, not_false_eq_true, upc, upc]); first | exact h95.2.1 | exact q1), (by exact Or.inl ⟨⟨by omega, by omega, by omega, by omega, (by have z := h37.2.1; rw [show x3_37.toNat = (M 48 108).toNat from by omega] at z; rw [← z, ← hg85]; omega)⟩, (by (try simp only [f149_0, f149_1, f149_2, em137, f95_0, e1, e8, e23, e39, e82, e97, e132, e142, e146, and_true, true_and, or_true, true_or, implies_true, upn, reduceIte, Nat.reduceEqDiff, ne_eq, not_false_eq_true, upc, upc]) <;> omega), (by (try simp only [f149_0, f149_1, f149_2, em137, f95_0, e1, e8, e23, e39, e82, e97, e132, e142, e146, and_true, true_and, or_true, true_or, implies_true, upn, reduceIte, Nat.reduceEqDiff, ne_eq, not_false_eq_true, upc, upc]) <;> omega), (fun p hp => by simp only [f149_0, f149_1, f149_2, em137, f95_0, e1, e8, e23, e39, e82, e97, e132, e142, e146, and_true, true_and, or_true, true_or, implies_true, upn, reduceIte, Nat.reduceEqDiff, ne_eq, not_false_eq_true, upc, upc]; exact h95.2.2.1 p (by omega)), (fun j hj => by simp only [f149_0, f149_1, f149_2, em137, f95_0, e1, e8, e23, e39, e82, e97, e132, e142, e146, and_true, true_and, or_true, true_or, implies_true, upn, reduceIte, Nat.reduceEqDiff, ne_eq, not_false_eq_true, upc, upc]; exact h95.2.2.2 j hj), (by simp only [f149_0, f149_1, f149_2, em137, f95_0, e1, e8, e23, e39, e82, e97, e132, e142, e146, and_true, true_and, or_true, true_or, implies_true, upn, reduceIte, Nat.reduceEqDiff, ne_eq, not_false_eq_true, upc, upc]; exact u149)⟩)⟩)⟩
                      · refine Z_aload0 hk dX9_serves_103 ?_
                        refine Z_getR hk fl_9_233 dX9_serves_104 ob_48.1 ob_48.2.1 ob_48.2.2.1 ob_48.2.2.2 ft_9_110 rs_48_110 ?_
                        refine Z_iconst hk dX9_serves_107 ?_
                        refine Z_aload0 hk dX9_serves_108 ?_
                        refine Z_getI hk fl_9_649 dX9_serves_109 ob_48.1 ob_48.2.1 ob_48.2.2.1 ob_48.2.2.2 ft_9_109 (fun v109 e109 a109 b109 => ?_)
                        try simp only [f95_0, e1, e8, e23, e39, e82, e97, and_true, true_and, or_true, true_or, implies_true, upn, reduceIte, Nat.reduceEqDiff, ne_eq, not_false_eq_true, upc] at e109
                        refine Z_imul hk dX9_serves_112 ?_
                        refine Z_iload3 hk dX9_serves_113 ?_
                        refine Z_iadd hk dX9_serves_114 ?_
                        refine Z_iload1 hk dX9_serves_115 ?_
                        refine Z_iconst hk dX9_serves_116 ?_
                        refine Z_iload3 hk dX9_serves_117 ?_
                        refine Z_imul hk dX9_serves_118 ?_
                        refine Z_ishr hk dX9_serves_119 (fun v119 e119 a119 b119 => ?_)
                        refine Z_bipush hk dX9_serves_120 (by decide) ?_
                        refine Z_iand hk dX9_serves_122 (fun v122 e122 a122 b122 => ?_)
                        have d122 : v122 = D4 v x3_95.toNat := by
                          unfold D4
                          rw [show ((x3_95.toNat : Nat) : Int) = x3_95 from by omega, ← e119, ← e122]
                        have g122 := D4_in v x3_95.toNat
                        rw [← d122] at g122
                        have g123 := h37.2.2 x3_95.toNat (by omega)
                        rw [← d122] at g123
                        refine Z_iast hk hA dX9_serves_123 ar_118.1 ar_118.2.1 ar_118.2.2 (by omega) (by omega) (by omega) (by omega) ?_
                        refine Z_nm (fun m123 em123 => ?_)
                        refine Z_iinc3 hk rfl (by decide) dX9_serves_124 ?_
                        refine Z_goto hk (tgt := 95) dX9_serves_127 (by decide) ?_
                        exact ih95 _ _ (by exact ⟨(by (refine ⟨by omega, (by simp only [em123, f95_0, e1, e8, e23, e39, e82, e97, e109, and_true, true_and, or_true, true_or, implies_true, upn, reduceIte, Nat.reduceEqDiff, ne_eq, not_false_eq_true, upc, upc]; exact h95.2.1.put (by omega)), (fun p hp => ?_), fun j hj => ?_⟩; (simp only [em123, f95_0, e1, e8, e23, e39, e82, e97, e109, and_true, true_and, or_true, true_or, implies_true, upn, reduceIte, Nat.reduceEqDiff, ne_eq, not_false_eq_true, upc, upc]; by_cases c : p = x3_95.toNat; (rw [if_pos (by omega), c]; exact d122); (rw [if_neg (by omega)]; exact h95.2.2.1 p (by omega))); (simp only [em123, f95_0, e1, e8, e23, e39, e82, e97, e109, and_true, true_and, or_true, true_or, implies_true, upn, reduceIte, Nat.reduceEqDiff, ne_eq, not_false_eq_true, upc, upc]; rw [if_neg (by omega)]; exact h95.2.2.2 j hj))), (by intro c k0; simp only [em123, f95_0, upc, upn, k0, reduceIte, Nat.reduceEqDiff, ne_eq, not_false_eq_true])⟩) (by (try simp only [em123, f95_0, and_true, true_and, or_true, true_or, implies_true, upn, reduceIte, Nat.reduceEqDiff, ne_eq, not_false_eq_true, upc]) <;> (omega))
                  refine Z_istore3 hk rfl (by decide) dX9_serves_94 ?_
                  exact J95 ((((M 48 108) - 0) : Int).toNat + 1) _ _ (by exact ⟨(by (exact ⟨by omega, q1, (fun p hp => by omega), fun j _ => rfl⟩)), (by intro c k0; rfl)⟩) (by omega)
                · refine Z_iconst hk dX9_serves_91 ?_
                  exact Z_iret hk hA hQ dX9_serves_92 ⟨rfl, rfl, _, rfl, (by exact ⟨(by (omega)), (by intro c k0 k1 k2 k3; rfl), (by intro i k0; rfl), (by (try simp only [e1, e8, e23, e39, e82, and_true, true_and, or_true, true_or, implies_true, upn, reduceIte, Nat.reduceEqDiff, ne_eq, not_false_eq_true, upc, upc]); first | exact h95.2.1 | exact q1), (by refine Or.inr ⟨fun c => ?_, rfl, rfl, rfl, rfl⟩; obtain ⟨c1, c2, c3, c4, c5⟩ := c; have z := h37.2.1; rw [show x3_37.toNat = (M 48 108).toNat from by omega, c5, ← hg85] at z; omega)⟩)⟩
              · refine Z_iload1 hk dX9_serves_45 ?_
                refine Z_iconst hk dX9_serves_46 ?_
                refine Z_iload3 hk dX9_serves_47 ?_
                refine Z_imul hk dX9_serves_48 ?_
                refine Z_ishr hk dX9_serves_49 (fun v49 e49 a49 b49 => ?_)
                refine Z_bipush hk dX9_serves_50 (by decide) ?_
                refine Z_iand hk dX9_serves_52 (fun v52 e52 a52 b52 => ?_)
                have d52 : v52 = D4 v x3_37.toNat := by
                  unfold D4
                  rw [show ((x3_37.toNat : Nat) : Int) = x3_37 from by omega, ← e49, ← e52]
                have g52 := D4_in v x3_37.toNat
                rw [← d52] at g52
                refine Z_istore4 hk rfl (by decide) dX9_serves_53 ?_
                refine Z_iload4 hk dX9_serves_55 ?_
                refine Z_aload0 hk dX9_serves_57 ?_
                refine Z_getI hk fl_9_646 dX9_serves_58 ob_48.1 ob_48.2.1 ob_48.2.2.1 ob_48.2.2.2 ft_9_108 (fun v58 e58 a58 b58 => ?_)
                try simp only [e1, e8, e23, e39, and_true, true_and, or_true, true_or, implies_true, upn, reduceIte, Nat.reduceEqDiff, ne_eq, not_false_eq_true, upc] at e58
                refine Z_icmp_lt hk (tgt := 66) dX9_serves_61 (by decide) (by omega) (by omega) (by omega) (by omega) (fun h61 => ?_) (fun h61 => ?_)
                · refine Z_iload2 hk dX9_serves_66 ?_
                  refine Z_iconst hk dX9_serves_67 ?_
                  refine Z_iload4 hk dX9_serves_68 ?_
                  refine Z_ishl hk dX9_serves_70 (fun v70 e70 a70 b70 => ?_)
                  refine Z_ior hk dX9_serves_71 (fun v71 e71 a71 b71 => ?_)
                  have s71 : v71 = ((x2_37.toNat ||| 2 ^ v52.toNat : Nat) : Int) := by
                    rw [e71, e70]
                    exact seen_or (by omega) (by omega) (by omega) (by omega)
                  have s72 : x2_37.toNat ||| 2 ^ v52.toNat < 2 ^ 16 := Nat.or_lt_two_pow (by omega) (Nat.pow_lt_pow_right (by decide) (by omega))
                  refine Z_istore2 hk rfl (by decide) dX9_serves_72 ?_
                  refine Z_iinc3 hk rfl (by decide) dX9_serves_73 ?_
                  refine Z_goto hk (tgt := 37) dX9_serves_76 (by decide) ?_
                  refine Z_drop4 ?_
                  exact ih37 _ _ (by refine ⟨by omega, ?_, fun j hj => ?_⟩; (rw [show v71 = _ from s71, Int.toNat_natCast, h37.2.1, show (x3_37 + 1).toNat = x3_37.toNat + 1 from by omega, d52]; rfl); (by_cases c : (j : Int) = x3_37; (rw [show j = x3_37.toNat from by omega, ← d52]; omega); exact h37.2.2 j (by omega))) (by (omega))
                · refine Z_iconst hk dX9_serves_64 ?_
                  exact Z_iret hk hA hQ dX9_serves_65 ⟨rfl, rfl, _, rfl, (by exact ⟨(by (omega)), (by intro c k0 k1 k2 k3; rfl), (by intro i k0; rfl), (by (try simp only [e1, e8, e23, e39, e58, and_true, true_and, or_true, true_or, implies_true, upn, reduceIte, Nat.reduceEqDiff, ne_eq, not_false_eq_true, upc, upc]); first | exact h95.2.1 | exact q1), (by refine Or.inr ⟨fun c => ?_, rfl, rfl, rfl, rfl⟩; obtain ⟨c1, c2, c3, c4, c5⟩ := c; have z := sn_all (j := x3_37.toNat) c5 (by omega); omega)⟩)⟩
          refine Z_istore3 hk rfl (by decide) dX9_serves_36 ?_
          exact J37 ((((M 48 108) - 0) : Int).toNat + 1) _ _ (by exact ⟨by omega, rfl, fun j hj => by omega⟩) (by omega)
        · refine Z_iconst hk dX9_serves_31 ?_
          exact Z_iret hk hA hQ dX9_serves_32 ⟨rfl, rfl, _, rfl, (by exact ⟨(by (omega)), (by intro c k0 k1 k2 k3; rfl), (by intro i k0; rfl), (by (try simp only [e1, e8, e23, and_true, true_and, or_true, true_or, implies_true, upn, reduceIte, Nat.reduceEqDiff, ne_eq, not_false_eq_true, upc, upc]); first | exact h95.2.1 | exact q1), (by refine Or.inr ⟨fun c => ?_, rfl, rfl, rfl, rfl⟩; obtain ⟨c1, c2, c3, c4, c5⟩ := c; omega)⟩)⟩
