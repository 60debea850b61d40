/-- the two plans change places -/
def swp (c : Nat) : Nat := if 21 ≤ c ∧ c ≤ 30 then c + 17 else if 38 ≤ c ∧ c ≤ 47 then c - 17 else c
theorem swp_swp (c : Nat) : swp (swp c) = c := by unfold swp; split <;> split <;> (try split) <;> omega
theorem swp_lt {c : Nat} (h : c < 121) : swp c < 121 := by unfold swp; split <;> (try split) <;> omega
theorem swp_hi {c : Nat} (h : 48 ≤ c) : swp c = c := by unfold swp; rw [if_neg (by omega), if_neg (by omega)]
theorem swp_lay : ∀ c, c < 121 → lay (swp c) = lay c := by decide +kernel
def rt1 : Rt := fun a b => if a = 20 ∧ b = 1 then some 38 else rs a b
def rt2 : Rt := fun a b => if a = 0 ∧ b = 7 then some 21 else rt1 a b
def objL : List Nat := [0, 1, 8, 10, 13, 18, 20, 21, 32, 38, 48]
theorem swp_obj : ∀ c, c < 121 → (lay c).1 < 100 → c ∈ objL := by decide +kernel
theorem swp_N : ∀ c, c < 121 → (lay c).1 < 100 → (lay c).2 ≤ 113 := by decide +kernel
theorem swp_rt : ∀ c ∈ objL, ∀ i, i < 113 → rs c i = (rt2 (swp c) i).map swp := by decide +kernel
theorem sv_el (k : Nat) (ad ad' : Nat → Nat) (rt rt' : Rt) (c c' j : Nat) (z : Int) : sv ad rt (elTy k) c j z = sv ad' rt' (elTy k) c' j z := by
  unfold elTy
  split
  · rfl
  · split
    · rfl
    · split <;> rfl
theorem wd_swap {δ : Dp} {ad : Nat → Nat} {M : Mem} {H : Heap} (hw : wd δ ad rt2 121 M H) : wd δ (fun c => ad (swp c)) rs 121 (fun c => M (swp c)) H := by
  refine ⟨hw.1, fun c hc => ?_⟩
  have h := hw.2 (swp c) (swp_lt hc)
  rw [swp_lay c hc] at h
  refine ⟨fun hk => ?_, fun hk => ?_⟩
  · obtain ⟨h1, h2⟩ := h.1 hk
    refine ⟨h1.to (fun i hi => ?_), h2⟩
    have e := swp_rt c (swp_obj c hc hk) i (by have := swp_N c hc hk; omega)
    show sv ad rt2 (fty (lay c).1 i) (swp c) i (M (swp c) i) = sv (fun c => ad (swp c)) rs (fty (lay c).1 i) c i (M (swp c) i)
    generalize fty (lay c).1 i = ty
    unfold sv
    rw [e]
    cases rt2 (swp c) i with
    | none => rfl
    | some d => cases ty <;> first | rfl | (simp [swp_swp])
  · obtain ⟨h1, h2⟩ := h.2 hk
    refine ⟨?_, h2⟩
    show H[ad (swp c)]? = _
    rw [h1]
    congr 2
    funext j
    exact sv_el _ _ _ _ _ _ _ _ _
theorem Z_ren {κ : Kp} {δ : Dp} {ad : Nat → Nat} {Q : State → Prop} {mL : Nat} {pc x y : Nat} {L : List (Option Value)} {S : List Value} {M : Mem} (kk : Zj κ δ (fun c => ad (swp c)) rs Q mL (121, x, y) pc L S (fun c => M (swp c))) : Zj κ δ ad rt2 Q mL (121, x, y) pc L S M := fun H locs ls hw hs hl => kk H locs ls (wd_swap hw) hs hl
theorem okA_swp {δ : Dp} {ad : Nat → Nat} (h : okA δ ad) : okA δ (fun c => ad (swp c)) := ⟨fun a b e => by have := h.1 _ _ e; rw [← swp_swp a, this, swp_swp], fun a => h.2 _⟩
theorem Z_aret {κ : Kp} {δ : Dp} {ad : Nat → Nat} {rt : Rt} {Q : State → Prop} {mL : Nat} {ρ : Nat × Nat × Nat} {pc a : Nat} {L : List (Option Value)} {M : Mem} {cc : ByteArray} {own nm : String} {rm : Room} {post : Pg} (hk : okK κ δ cc own mL (some (.object nm)) rm) (hA : okA δ ad) (hQ : Qg κ δ ρ.1 ρ.2.1 ρ.2.2 post = Q) (hd : decode cc pc = .ok (.areturn, 1)) (hp : post (some (.ref a)) ad rt M) : Zj κ δ ad rt Q mL ρ pc L [.ref a] M := by
  intro H locs ls hw hs hl
  subst hQ
  exact W.aret (v := .ref a) hk.1 hk.2.1 hk.2.2.2.2.2.2.1 (Or.inl ⟨_, rfl⟩) (Or.inr ⟨_, rfl⟩) (fun t ht hW => ⟨⟨_, ad, rt, M, rfl, by rw [ht]; exact hw, hA, hp⟩, hs.F ht⟩) hs.2.2 hd hk.2.2.2.2.2.2.2.1
theorem c_X4_trade (l : Launch) (δ : Dp) (ad : Nat → Nat) (M : Mem) (hA : okA δ ad) : Mg l δ yX4_trade cX4_trade 3 (some (.object "TastingHouse$Plan")) (rmN 0 0) 121 121 ad rs [.ref (ad 20), .ref (ad 38)] M (fun v ad' rt' M' => ad' = ad ∧ rt' = rt1 ∧ M' = M ∧ v = some (.ref (ad 21))) := by
  refine Mg.of (rm := rmN 0 0) (by decide) (Nat.le_of_ble_eq_true rfl) fun κ _ hk _ => ?_
  generalize hQ : Qg κ δ 121 (rmN 0 0).cells (rmN 0 0).slots _ = Q
  show Zj κ δ ad rs Q 3 (121, 0, 0) 0 [some (.ref (ad 20)), some (.ref (ad 38)), none] [] M
  refine Z_aload0 hk dX4_trade_0 ?_
  refine Z_getR hk fl_4_15 dX4_trade_1 ob_20.1 ob_20.2.1 ob_20.2.2.1 ob_20.2.2.2 ft_4_1 rs_20_1 ?_
  refine Z_astore2 hk rfl (by decide) dX4_trade_4 ?_
  refine Z_aload0 hk dX4_trade_5 ?_
  refine Z_aload1 hk dX4_trade_6 ?_
  refine Z_putR hk hA fl_4_15 dX4_trade_7 ob_20.1 ob_20.2.1 ob_20.2.2.1 ob_20.2.2.2 ft_4_1 (rt1 := rt1) rfl (fun a b h => if_neg (fun z => by rcases h with h | h <;> exact h (by first | exact z.1 | exact z.2))) ?_
  refine Z_aload2 hk dX4_trade_10 ?_
  exact Z_aret hk hA hQ dX4_trade_11 ⟨rfl, rfl, rfl, rfl⟩
def IC (M : Mem) : Prop := (0 ≤ M 20 2 ∧ M 20 2 ≤ 700) ∧ (0 ≤ M 38 0 ∧ M 38 0 ≤ 6 ∧ 0 ≤ M 38 1 ∧ M 38 1 ≤ 4 ∧ 0 ≤ M 38 2 ∧ M 38 2 ≤ 8 ∧ -1 ≤ M 38 5 ∧ M 38 5 ≤ 5 ∧ 0 ≤ M 38 6 ∧ M 38 6 ≤ 700) ∧ (0 ≤ M 1 0 ∧ M 1 0 ≤ 250) ∧ (-1 ≤ M 0 10 ∧ M 0 10 ≤ M 1 0) ∧ (((M 32 0 = 0 ∧ M 32 1 = 0) ∨ (2 ≤ M 32 0 ∧ M 32 0 ≤ 5)) ∧ 0 ≤ M 32 1 ∧ M 32 1 ≤ 30) ∧ (AD (M 1 0) (M 2) (M 3) (M 4) (M 5) (M 6)) ∧ (LK (M 41)) ∧ (SS (M 46)) ∧ (SE (M 47)) ∧ (LK (M 24)) ∧ (SS (M 29)) ∧ (SE (M 30)) ∧ (CB (5 * M 32 1) (M 34)) ∧ (CB (5 * M 32 1) (M 35))
def IM (M : Mem) : Prop := (0 ≤ (M 48 1) ∧ (M 48 1) ≤ 700) ∧ (0 ≤ (M 48 65) ∧ (M 48 65) ≤ 6 ∧ 0 ≤ (M 48 66) ∧ (M 48 66) ≤ 4 ∧ -1 ≤ (M 48 76) ∧ (M 48 76) ≤ 5 ∧ 0 ≤ (M 48 77) ∧ (M 48 77) ≤ 8 ∧ 0 ≤ (M 48 84) ∧ (M 48 84) ≤ 250 ∧ -1 ≤ (M 48 91) ∧ (M 48 91) ≤ (M 48 84)) ∧ (((M 48 108) = 0 ∨ (2 ≤ (M 48 108) ∧ (M 48 108) ≤ 5)) ∧ 0 ≤ (M 48 109) ∧ (M 48 109) ≤ 30) ∧ (NK M) ∧ (LK (M 97)) ∧ (KB (M 99)) ∧ (KB (M 100)) ∧ (CP (M 48 77) (M 101) (M 82)) ∧ (AC (M 48 84) (M 104) (M 105) (M 106) (M 107) (M 108)) ∧ (TH (M 118))
def Inv (M : Mem) : Prop := IC M ∧ IM M
theorem IM.of {M M' : Mem} (h : IM M) (e : ∀ c, 48 ≤ c → M' c = M c) : IM M' := by
  unfold IM NK at *
  rw [e 48 (by decide), e 89 (by decide), e 90 (by decide), e 91 (by decide), e 97 (by decide), e 99 (by decide), e 100 (by decide), e 101 (by decide), e 82 (by decide), e 104 (by decide), e 105 (by decide), e 106 (by decide), e 107 (by decide), e 108 (by decide), e 118 (by decide)]
  exact h
theorem IC.of {M M' : Mem} (h : IC M) (e : ∀ c, c < 48 → M' c = M c) : IC M' := by
  unfold IC at *
  rw [e 20 (by decide), e 38 (by decide), e 1 (by decide), e 0 (by decide), e 32 (by decide), e 2 (by decide), e 3 (by decide), e 4 (by decide), e 5 (by decide), e 6 (by decide), e 41 (by decide), e 46 (by decide), e 47 (by decide), e 24 (by decide), e 29 (by decide), e 30 (by decide), e 34 (by decide), e 35 (by decide)]
  exact h
set_option maxHeartbeats 2000000 in
theorem c_X8_plan (l : Launch) (δ : Dp) (ad : Nat → Nat) (M : Mem) (hA : okA δ ad) (hz : NS δ) (h : Inv M) (s : Int) (s1 : -2147483648 ≤ s ∧ s ≤ 2147483647) : Mg l δ yX8_plan cX8_plan 3 (some (.int)) (rmN 41 922) 121 121 ad rs [.ref (ad 0), iv s] M (fun v ad' rt' M' => rt' = rs ∧ (∃ r, v = some (iv r)) ∧ ad' 0 = ad 0 ∧ ad' 48 = ad 48 ∧ Inv M') := by
  refine Mg.of (rm := rmN 41 922) (by decide) (Nat.le_of_ble_eq_true rfl) fun κ _ hk _ => ?_
  generalize hQ : Qg κ δ 121 (rmN 41 922).cells (rmN 41 922).slots _ = Q
  show Zj κ δ ad rs Q 3 (121, 0, 0) 0 [some (.ref (ad 0)), some (iv s), none] [] M
  obtain ⟨⟨a1, a2, a3, a4, a5, a6, a7, a8, a9, a10, a11, a12, a13, a14⟩, hm⟩ := id h
  refine Z_iload1 hk dX8_plan_0 ?_
  refine Z_if_ge hk (tgt := 7) dX8_plan_1 (by decide) (by omega) (by omega) (fun h1 => ?_) (fun h1 => ?_)
  rotate_left
  · refine Z_bipush hk dX8_plan_4 (by decide) ?_
    exact Z_iret hk hA hQ dX8_plan_6 ⟨rfl, ⟨_, rfl⟩, rfl, rfl, h⟩
  refine Z_aload0 hk dX8_plan_7 ?_
  refine Z_getR hk fl_8_58 dX8_plan_8 ob_0.1 ob_0.2.1 ob_0.2.2.1 ob_0.2.2.2 ft_8_0 rs_0_0 ?_
  refine Z_Vi hk (c_X4_readPlan κ.2.1 δ ad _ hA hz a1 a10 a11 a12) ov_X4_readPlan ml_X8_91 dX8_plan_11 rfl ⟨by decide, by decide⟩ ob_20.1 (by decide) (by decide) rfl (Nat.le_of_ble_eq_true rfl) (fun r M1 p => ?_)
  obtain ⟨p, f0, f1, f2, f3, f4, f5⟩ := p
  have hv : Inv M1 := by
    refine ⟨?_, hm.of (fun c hc => by rw [f0 c (by omega) (by omega) (by omega) (by omega) (by omega) (by omega) (by omega) (by omega) (by omega) (by omega)])⟩
    refine ⟨by omega, ?_, ?_, ?_, ?_, ?_, ?_, ?_, ?_, ?_, ?_, ?_, ?_, ?_⟩ <;> (try simp only [f0, f1, f2, and_true, true_and, or_true, true_or, implies_true, upn, reduceIte, Nat.reduceEqDiff, ne_eq, not_false_eq_true, upc]) <;> first | omega | assumption
  refine Z_istore2 hk rfl (by decide) dX8_plan_14 ?_
  refine Z_iload2 hk dX8_plan_15 ?_
  refine Z_iconst hk dX8_plan_16 ?_
  refine Z_icmp_ne hk (tgt := 22) dX8_plan_17 (by decide) (by omega) (by omega) (by decide) (by decide) (fun h2 => ?_) (fun h2 => ?_)
  rotate_left
  · refine Z_iconst hk dX8_plan_20 ?_
    exact Z_iret hk hA hQ dX8_plan_21 ⟨rfl, ⟨_, rfl⟩, rfl, rfl, hv⟩
  refine Z_aload0 hk dX8_plan_22 ?_
  refine Z_aload0 hk dX8_plan_23 ?_
  refine Z_getR hk fl_8_58 dX8_plan_24 ob_0.1 ob_0.2.1 ob_0.2.2.1 ob_0.2.2.2 ft_8_0 rs_0_0 ?_
  refine Z_aload0 hk dX8_plan_27 ?_
  refine Z_getR hk fl_8_69 dX8_plan_28 ob_0.1 ob_0.2.1 ob_0.2.2.1 ob_0.2.2.2 ft_8_7 rs_0_7 ?_
  refine Z_callV hk (ρ := (121, 0, 0)) (b := 20) (As := [.ref (ad 38)]) (S := [.ref (ad 0)]) (c_X4_trade κ.2.1 δ ad M1 hA) ov_X4_trade ml_X8_95 dX8_plan_31 rfl ⟨by decide, by decide⟩ ob_20.1 (by decide) (by decide) rfl (Nat.le_of_ble_eq_true rfl) ⟨Nat.le_refl 0, Nat.le_refl 0⟩ (fun v ad' rt' M' _ hp => ?_)
  obtain ⟨rfl, rfl, rfl, rfl⟩ := hp
  show Zj κ δ ad' rt1 Q 3 (121, 0, 0) 34 [some (.ref (ad' 0)), some (iv s), some (iv r)] [.ref (ad' 21), .ref (ad' 0)] M'
  refine Z_putR hk hA fl_8_69 dX8_plan_34 ob_0.1 ob_0.2.1 ob_0.2.2.1 ob_0.2.2.2 ft_8_7 (rt1 := rt2) rfl (fun a b h => if_neg (fun z => by rcases h with h | h <;> exact h (by first | exact z.1 | exact z.2))) ?_
  refine Z_ren ?_
  have hA2 := okA_swp hA
  obtain ⟨ad2, had2⟩ : ∃ g : Nat → Nat, g = fun c => ad' (swp c) := ⟨_, rfl⟩
  obtain ⟨M2, hM2⟩ : ∃ g : Mem, g = fun c => M' (swp c) := ⟨_, rfl⟩
  have e0 : ad2 0 = ad' 0 := by rw [had2]; rfl
  have e48 : ad2 48 = ad' 48 := by rw [had2]; rfl
  rw [← had2] at hA2 ⊢
  rw [← hM2, ← e0]
  have hv2 : (0 ≤ M2 38 0 ∧ M2 38 0 ≤ 6 ∧ 0 ≤ M2 38 1 ∧ M2 38 1 ≤ 4 ∧ 0 ≤ M2 38 2 ∧ M2 38 2 ≤ 8 ∧ -1 ≤ M2 38 5 ∧ M2 38 5 ≤ 5 ∧ 0 ≤ M2 38 6 ∧ M2 38 6 ≤ 700) ∧ LK (M2 41) ∧ SS (M2 46) ∧ SE (M2 47) := by
    rw [hM2]
    exact ⟨by show (0 ≤ M' 21 0 ∧ M' 21 0 ≤ 6 ∧ 0 ≤ M' 21 1 ∧ M' 21 1 ≤ 4 ∧ 0 ≤ M' 21 2 ∧ M' 21 2 ≤ 8 ∧ -1 ≤ M' 21 5 ∧ M' 21 5 ≤ 5 ∧ 0 ≤ M' 21 6 ∧ M' 21 6 ≤ 700); omega, by show LK (M' 24); assumption, by show SS (M' 29); assumption, by show SE (M' 30); assumption⟩
  have hv3 : LK (M2 24) ∧ SS (M2 29) ∧ SE (M2 30) := by
    obtain ⟨⟨b1, b2, b3, b4, b5, b6, b7, b8, b9, b10, b11, b12, b13, b14⟩, bm⟩ := hv
    rw [hM2]
    exact ⟨by show LK (M' 41); assumption, by show SS (M' 46); assumption, by show SE (M' 47); assumption⟩
  have hv4 : (0 ≤ M2 20 2 ∧ M2 20 2 ≤ 700) ∧ (((M2 32 0 = 0 ∧ M2 32 1 = 0) ∨ (2 ≤ M2 32 0 ∧ M2 32 0 ≤ 5)) ∧ 0 ≤ M2 32 1 ∧ M2 32 1 ≤ 30) ∧ CB (5 * M2 32 1) (M2 34) ∧ CB (5 * M2 32 1) (M2 35) ∧ IM M2 := by
    obtain ⟨⟨b1, b2, b3, b4, b5, b6, b7, b8, b9, b10, b11, b12, b13, b14⟩, bm⟩ := hv
    rw [hM2]
    exact ⟨b1, b5, b13, b14, bm.of (fun c hc => by show M' (swp c) = _; rw [swp_hi hc])⟩
  clear hM2 had2 hv
  obtain ⟨w1, w2, w3, w4⟩ := hv2
  obtain ⟨w5, w6, w7⟩ := hv3
  obtain ⟨w8, w9, w10, w11, w12⟩ := hv4
  refine Z_aload0 hk dX8_plan_37 ?_
  refine Z_getR hk fl_8_69 dX8_plan_38 ob_0.1 ob_0.2.1 ob_0.2.2.1 ob_0.2.2.2 ft_8_7 rs_0_7 ?_
  refine Z_iload1 hk dX8_plan_41 ?_
  refine Z_Vv hk (c_X3_layCodes_p38 κ.2.1 δ ad2 _ hA2 s w1 s1) ov_X3_layCodes ml_X8_99 dX8_plan_42 rfl ⟨by decide, by decide⟩ ob_38.1 (by decide) (by decide) rfl (Nat.le_of_ble_eq_true rfl) (fun M3 p3 => ?_)
  obtain ⟨-, g0⟩ := p3
  refine Z_aload0 hk dX8_plan_45 ?_
  refine Z_getR hk fl_8_25 dX8_plan_46 ob_0.1 ob_0.2.1 ob_0.2.2.1 ob_0.2.2.2 ft_8_1 rs_0_1 ?_
  refine Z_Vv hk (c_X2_clear κ.2.1 δ ad2 _ hA2) ov_X2_clear ml_X8_102 dX8_plan_49 rfl ⟨by decide, by decide⟩ ob_1.1 (by decide) (by decide) rfl (Nat.le_of_ble_eq_true rfl) (fun M4 p4 => ?_)
  obtain ⟨p4, k0, k1⟩ := p4
  refine Z_aload0 hk dX8_plan_52 ?_
  refine Z_iconst hk dX8_plan_53 ?_
  refine Z_putZ hk hA2 fl_8_73 dX8_plan_54 ob_0.1 ob_0.2.1 ob_0.2.2.1 ob_0.2.2.2 ft_8_8 (by decide) (by decide) ?_
  refine Z_nm (fun m54 em54 => ?_)
  refine Z_aload0 hk dX8_plan_57 ?_
  refine Z_iconst hk dX8_plan_58 ?_
  refine Z_putZ hk hA2 fl_8_77 dX8_plan_59 ob_0.1 ob_0.2.1 ob_0.2.2.1 ob_0.2.2.2 ft_8_9 (by decide) (by decide) ?_
  refine Z_nm (fun m59 em59 => ?_)
  refine Z_aload0 hk dX8_plan_62 ?_
  refine Z_iconst hk dX8_plan_63 ?_
  refine Z_putI hk hA2 fl_8_80 dX8_plan_64 ob_0.1 ob_0.2.1 ob_0.2.2.1 ob_0.2.2.2 ft_8_10 (by decide) (by decide) ?_
  refine Z_nm (fun m64 em64 => ?_)
  refine Z_iload2 hk dX8_plan_67 ?_
  refine Z_iret hk hA2 hQ dX8_plan_68 ⟨rfl, ⟨_, rfl⟩, e0, e48, ?_, ?_⟩
  · have ha : AD (m64 1 0) (m64 2) (m64 3) (m64 4) (m64 5) (m64 6) := AD.nil (by simp only [em64, em59, em54, and_true, true_and, or_true, true_or, implies_true, upn, reduceIte, Nat.reduceEqDiff, ne_eq, not_false_eq_true, upc]; omega)
    refine ⟨?_, ?_, ?_, ?_, ?_, ha, ?_, ?_, ?_, ?_, ?_, ?_, ?_, ?_⟩ <;> simp only [em64, em59, em54, k0, k1, g0, and_true, true_and, or_true, true_or, implies_true, upn, reduceIte, Nat.reduceEqDiff, ne_eq, not_false_eq_true, upc] <;> first | omega | assumption
  · exact w12.of (fun c hc => by
      have n0 : c ≠ 0 := by omega
      have n1 : c ≠ 1 := by omega
      have n2 : c ≠ 45 := by omega
      simp only [em64, em59, em54, upc, n0, reduceIte, k0 c n1, g0 c n2])
