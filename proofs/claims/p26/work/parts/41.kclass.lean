def rtX : List (Nat × Nat × Nat × Nat) := [(0, 0, 20, 35), (0, 1, 1, 16), (0, 2, 8, 17), (0, 3, 10, 18), (0, 4, 13, 19), (0, 5, 18, 23), (0, 6, 32, 41), (0, 7, 38, 51), (1, 1, 2, 0), (1, 2, 3, 1), (1, 3, 4, 2), (1, 4, 5, 3), (1, 5, 6, 4), (1, 6, 7, 5), (8, 0, 9, 6), (10, 0, 1, 9), (10, 1, 8, 10), (10, 2, 11, 7), (10, 3, 12, 8), (13, 0, 1, 15), (13, 1, 14, 11), (13, 2, 15, 12), (13, 3, 16, 13), (13, 5, 17, 14), (18, 0, 10, 21), (18, 1, 13, 22), (18, 2, 19, 20), (20, 0, 31, 33), (20, 1, 21, 34), (21, 7, 22, 24), (21, 8, 23, 25), (21, 9, 24, 26), (21, 10, 25, 27), (21, 11, 26, 28), (21, 12, 27, 29), (21, 13, 28, 30), (21, 14, 29, 31), (21, 15, 30, 32), (32, 2, 33, 36), (32, 3, 34, 37), (32, 4, 35, 38), (32, 5, 36, 39), (32, 6, 37, 40), (38, 7, 39, 42), (38, 8, 40, 43), (38, 9, 41, 44), (38, 10, 42, 45), (38, 11, 43, 46), (38, 12, 44, 47), (38, 13, 45, 48), (38, 14, 46, 49), (38, 15, 47, 50), (48, 0, 49, 52), (48, 9, 50, 53), (48, 10, 51, 54), (48, 11, 52, 55), (48, 12, 53, 56), (48, 13, 54, 57), (48, 14, 55, 58), (48, 15, 56, 59), (48, 16, 57, 60), (48, 17, 58, 61), (48, 18, 59, 62), (48, 19, 60, 63), (48, 20, 61, 64), (48, 21, 62, 65), (48, 22, 63, 66), (48, 23, 64, 67), (48, 24, 65, 68), (48, 25, 66, 69), (48, 26, 67, 70), (48, 27, 68, 71), (48, 28, 69, 72), (48, 29, 70, 73), (48, 30, 71, 74), (48, 31, 72, 75), (48, 32, 73, 76), (48, 33, 74, 77), (48, 34, 75, 78), (48, 35, 76, 79), (48, 36, 77, 80), (48, 37, 78, 81), (48, 38, 79, 82), (48, 39, 80, 83), (48, 40, 81, 84), (48, 42, 82, 85), (48, 44, 83, 86), (48, 49, 84, 87), (48, 51, 85, 88), (48, 52, 86, 89), (48, 53, 87, 90), (48, 54, 88, 91), (48, 55, 89, 92), (48, 56, 90, 93), (48, 57, 91, 94), (48, 62, 92, 95), (48, 63, 93, 96), (48, 67, 94, 97), (48, 68, 95, 98), (48, 69, 96, 99), (48, 70, 97, 100), (48, 71, 98, 101), (48, 72, 99, 102), (48, 73, 100, 103), (48, 78, 101, 104), (48, 82, 102, 105), (48, 83, 103, 106), (48, 85, 104, 107), (48, 86, 105, 108), (48, 87, 106, 109), (48, 88, 107, 110), (48, 89, 108, 111), (48, 90, 109, 112), (48, 93, 110, 113), (48, 99, 111, 114), (48, 100, 112, 115), (48, 101, 113, 116), (48, 102, 114, 117), (48, 103, 115, 118), (48, 105, 116, 119), (48, 106, 117, 120), (48, 110, 118, 121), (48, 111, 119, 122), (48, 112, 120, 123)]
def rtT : List (Nat × Nat) := [(1, 1), (1, 2), (1, 3), (1, 4), (1, 5), (1, 6), (8, 0), (10, 2), (10, 3), (10, 0), (10, 1), (13, 1), (13, 2), (13, 3), (13, 5), (13, 0), (0, 1), (0, 2), (0, 3), (0, 4), (18, 2), (18, 0), (18, 1), (0, 5), (21, 7), (21, 8), (21, 9), (21, 10), (21, 11), (21, 12), (21, 13), (21, 14), (21, 15), (20, 0), (20, 1), (0, 0), (32, 2), (32, 3), (32, 4), (32, 5), (32, 6), (0, 6), (38, 7), (38, 8), (38, 9), (38, 10), (38, 11), (38, 12), (38, 13), (38, 14), (38, 15), (0, 7), (48, 0), (48, 9), (48, 10), (48, 11), (48, 12), (48, 13), (48, 14), (48, 15), (48, 16), (48, 17), (48, 18), (48, 19), (48, 20), (48, 21), (48, 22), (48, 23), (48, 24), (48, 25), (48, 26), (48, 27), (48, 28), (48, 29), (48, 30), (48, 31), (48, 32), (48, 33), (48, 34), (48, 35), (48, 36), (48, 37), (48, 38), (48, 39), (48, 40), (48, 42), (48, 44), (48, 49), (48, 51), (48, 52), (48, 53), (48, 54), (48, 55), (48, 56), (48, 57), (48, 62), (48, 63), (48, 67), (48, 68), (48, 69), (48, 70), (48, 71), (48, 72), (48, 73), (48, 78), (48, 82), (48, 83), (48, 85), (48, 86), (48, 87), (48, 88), (48, 89), (48, 90), (48, 93), (48, 99), (48, 100), (48, 101), (48, 102), (48, 103), (48, 105), (48, 106), (48, 110), (48, 111), (48, 112)]
def rq (n : Nat) : Rt := fun c i => (rtX.find? (fun q => decide (q.2.2.2 < n) && (q.1 == c && q.2.1 == i))).map (fun q => q.2.2.1)
theorem rq_h : ∀ q ∈ rtX, rtT[q.2.2.2]? = some (q.1, q.2.1) := by decide +kernel
theorem find_congr {α : Type} {p q : α → Bool} : ∀ {l : List α}, (∀ x ∈ l, p x = q x) → l.find? p = l.find? q := by
  intro l
  induction l with
  | nil => intro _; rfl
  | cons a l ih =>
    intro h
    rw [List.find?_cons, List.find?_cons, h a List.mem_cons_self, ih (fun x hx => h x (List.mem_cons_of_mem _ hx))]
theorem rq_step {n c i : Nat} (h : rtT[n]? = some (c, i)) : ∀ a b, (a ≠ c ∨ b ≠ i) → rq (n + 1) a b = rq n a b := by
  intro a b hab
  unfold rq
  congr 1
  apply find_congr
  intro q hq
  by_cases e : q.2.2.2 = n
  · have h2 := rq_h q hq
    rw [e, h] at h2
    have h3 := Option.some.inj h2
    have h4 : c = q.1 := congrArg Prod.fst h3
    have h5 : i = q.2.1 := congrArg Prod.snd h3
    have h6 : (q.1 == a && q.2.1 == b) = false := by
      rw [← h4, ← h5]
      rcases hab with h | h
      · rw [show (c == a) = false from beq_eq_false_iff_ne.mpr (fun z => h z.symm)]; rfl
      · rw [show (i == b) = false from beq_eq_false_iff_ne.mpr (fun z => h z.symm), Bool.and_false]
    rw [h6, Bool.and_false, Bool.and_false]
  · congr 1
    by_cases l : q.2.2.2 < n
    · rw [decide_eq_true (show q.2.2.2 < n + 1 by omega), decide_eq_true l]
    · rw [decide_eq_false (show ¬ q.2.2.2 < n + 1 by omega), decide_eq_false l]
theorem rq_none {n c : Nat} (h : ∀ q ∈ rtX, q.1 = c → n ≤ q.2.2.2) : ∀ j, rq n c j = none := by
  intro j
  unfold rq
  rw [List.find?_eq_none.mpr]
  · rfl
  · intro q hq hz
    simp only [Bool.and_eq_true, decide_eq_true_eq, beq_iff_eq] at hz
    have := h q hq hz.2.1
    omega
theorem rq_lt : ∀ q ∈ rtX, q.2.2.2 < 124 := by decide +kernel
theorem rq_map : rtL = rtX.map (fun q => (q.1, q.2.1, q.2.2.1)) := by decide +kernel
theorem rq_all : rq 124 = rs := by
  funext c i
  unfold rq rs
  rw [rq_map, List.find?_map, Option.map_map]
  show _ = Option.map (fun q : Nat × Nat × Nat × Nat => q.2.2.1) _
  congr 1
def ad0 (δ : Dp) : Nat → Nat := fun c => δ.2.2.1 + c
theorem ad0_ok (δ : Dp) : okA δ (ad0 δ) := ⟨fun a b h => by unfold ad0 at h; omega, fun a => Nat.le_add_right _ _⟩
/-- the memory as far as it is told: the cells below 50 as the base has them, nothing written from nc on -/
def Wq (base : Mem) (nc : Nat) (M : Mem) : Prop := (∀ c, c < 50 → M c = base c) ∧ ∀ c, (nc ≤ c ∨ 82 ≤ c) → ∀ j, M c j = 0
theorem Wq.put {base M : Mem} {nc c i : Nat} {x : Int} (h : Wq base nc M) (hc : c < nc) (h5 : c < 50) : Wq (up base c i x) nc (up M c i x) := by
  refine ⟨fun d hd => ?_, fun d hd j => ?_⟩
  · by_cases e : d = c
    · subst e; rw [up_eq, up_eq, h.1 d hd]
    · rw [up_ne e, up_ne e, h.1 d hd]
  · rw [up_ne (by omega)]; exact h.2 d hd j
theorem Wq.word {base M : Mem} {nc c i : Nat} {x : Int} (h : Wq base nc M) (hc : c < nc) (h5 : 50 ≤ c) (h8 : c < 82) : Wq base nc (up M c i x) := by
  refine ⟨fun d hd => ?_, fun d hd j => ?_⟩
  · rw [up_ne (by omega)]; exact h.1 d hd
  · rw [up_ne (by omega)]; exact h.2 d hd j
theorem Wq.more {base M : Mem} {nc : Nat} (h : Wq base nc M) : Wq base (nc + 1) M := ⟨h.1, fun c hc => h.2 c (by omega)⟩
theorem Z_fg {κ : Kp} {δ : Dp} {ad : Nat → Nat} {rt : Rt} {Q : State → Prop} {mL : Nat} {ρ : Nat × Nat × Nat} {pc : Nat} {L : List (Option Value)} {S : List Value} {M : Mem} {P : Mem → Prop} (h : P M) (k : ∀ M', P M' → Zj κ δ ad rt Q mL ρ pc L S M') : Zj κ δ ad rt Q mL ρ pc L S M := k M h
theorem lk_oi : Cond.instanceMethod Lib.objectInit ∈ lw_g := mg 24 (by decide +kernel) rfl
theorem lk_oc : Cond.code Lib.objectInit ⟨#[0xb1]⟩ 1 none ∈ lw_g := mc1 25 rfl
theorem lk_a100 : Cond.arrayClass (elTy 100) ∈ lw_g := mg 62 (by decide +kernel) rfl
theorem lk_a101 : Cond.arrayClass (elTy 101) ∈ lw_g := mg 73 (by decide +kernel) rfl
theorem lk_a102 : Cond.arrayClass (elTy 102) ∈ lw_g := mg 116 (by decide +kernel) rfl
theorem lk_a103 : Cond.arrayClass (elTy 103) ∈ lw_g := mg 280 (by decide +kernel) rfl
set_option maxRecDepth 20000 in
set_option maxHeartbeats 4000000 in
theorem k_X2_init_1 (l : Launch) (δ : Dp) (hz : NS δ) (base M : Mem) (hq : Wq base 2 M) : Mg l δ yX2_init cX2_init 1 none { frames := 1, cells := 6, slots := 1506, locals := 20 } 2 8 (ad0 δ) (rq 0) [.ref (ad0 δ 1)] M (fun v ad' rt' M' => v = none ∧ ad' = ad0 δ ∧ rt' = rq 6 ∧ Wq base 8 M') := by
  refine Mg.of (rm := { frames := 1, cells := 6, slots := 1506, locals := 20 }) (by decide) (Nat.le_of_ble_eq_true rfl) fun κ _ hk hn => ?_
  have hA := ad0_ok δ
  generalize hQ : Qg κ δ 8 _ _ _ = Q
  show Zj κ δ (ad0 δ) (rq 0) Q 1 (2, 0, 0) 0 [some (.ref (ad0 δ 1))] [] M
  refine Z_aload0 hk dX2_init_0 ?_
  refine Z_obj hk (mg 31 (by decide +kernel) rfl) dX2_init_1 lk_oi lk_oc ⟨by decide, by decide⟩ (Nat.le_of_ble_eq_true rfl) ?_
  refine Z_aload0 hk dX2_init_4 ?_
  refine Z_sipush hk dX2_init_5 (by decide) ?_
  refine Z_newa hk (k := 100) (N := 251) (t0 := 0) rfl (by decide +kernel) rfl rfl lk_a100 (by decide) rfl (by decide) (by decide) rfl dX2_init_8 (hq.2 2 (Or.inl (Nat.le_refl _))) (rq_none (by decide +kernel)) ⟨by decide, by decide⟩ ?_
  show Zj κ δ (ad0 δ) (rq 0) Q 1 (3, 1, 251) 10 [some (.ref (ad0 δ 1))] [.ref (ad0 δ 2), .ref (ad0 δ 1)] M
  replace hq := hq.more
  refine Z_putRF hk hn hA fl_2_9 (fun q h => by cases (Option.some.inj h : (RX2, TX2, 7) = q); rfl) dX2_init_10 ob_1.1 ob_1.2.1 (by decide) ob_1.2.2.2 ft_2_1 (show rq 1 1 1 = some 2 from by decide +kernel) (rq_step (by decide +kernel)) ?_
  refine Z_aload0 hk dX2_init_13 ?_
  refine Z_sipush hk dX2_init_14 (by decide) ?_
  refine Z_newa hk (k := 100) (N := 251) (t0 := 0) rfl (by decide +kernel) rfl rfl lk_a100 (by decide) rfl (by decide) (by decide) rfl dX2_init_17 (hq.2 3 (Or.inl (Nat.le_refl _))) (rq_none (by decide +kernel)) ⟨by decide, by decide⟩ ?_
  show Zj κ δ (ad0 δ) (rq 1) Q 1 (4, 2, 502) 19 [some (.ref (ad0 δ 1))] [.ref (ad0 δ 3), .ref (ad0 δ 1)] M
  replace hq := hq.more
  refine Z_putRF hk hn hA fl_2_15 (fun q h => by cases (Option.some.inj h : (RX2, TX2, 7) = q); rfl) dX2_init_19 ob_1.1 ob_1.2.1 (by decide) ob_1.2.2.2 ft_2_2 (show rq 2 1 2 = some 3 from by decide +kernel) (rq_step (by decide +kernel)) ?_
  refine Z_aload0 hk dX2_init_22 ?_
  refine Z_sipush hk dX2_init_23 (by decide) ?_
  refine Z_newa hk (k := 100) (N := 251) (t0 := 0) rfl (by decide +kernel) rfl rfl lk_a100 (by decide) rfl (by decide) (by decide) rfl dX2_init_26 (hq.2 4 (Or.inl (Nat.le_refl _))) (rq_none (by decide +kernel)) ⟨by decide, by decide⟩ ?_
  show Zj κ δ (ad0 δ) (rq 2) Q 1 (5, 3, 753) 28 [some (.ref (ad0 δ 1))] [.ref (ad0 δ 4), .ref (ad0 δ 1)] M
  replace hq := hq.more
  refine Z_putRF hk hn hA fl_2_18 (fun q h => by cases (Option.some.inj h : (RX2, TX2, 7) = q); rfl) dX2_init_28 ob_1.1 ob_1.2.1 (by decide) ob_1.2.2.2 ft_2_3 (show rq 3 1 3 = some 4 from by decide +kernel) (rq_step (by decide +kernel)) ?_
  refine Z_aload0 hk dX2_init_31 ?_
  refine Z_sipush hk dX2_init_32 (by decide) ?_
  refine Z_newa hk (k := 100) (N := 251) (t0 := 0) rfl (by decide +kernel) rfl rfl lk_a100 (by decide) rfl (by decide) (by decide) rfl dX2_init_35 (hq.2 5 (Or.inl (Nat.le_refl _))) (rq_none (by decide +kernel)) ⟨by decide, by decide⟩ ?_
  show Zj κ δ (ad0 δ) (rq 3) Q 1 (6, 4, 1004) 37 [some (.ref (ad0 δ 1))] [.ref (ad0 δ 5), .ref (ad0 δ 1)] M
  replace hq := hq.more
  refine Z_putRF hk hn hA fl_2_21 (fun q h => by cases (Option.some.inj h : (RX2, TX2, 7) = q); rfl) dX2_init_37 ob_1.1 ob_1.2.1 (by decide) ob_1.2.2.2 ft_2_4 (show rq 4 1 4 = some 5 from by decide +kernel) (rq_step (by decide +kernel)) ?_
  refine Z_aload0 hk dX2_init_40 ?_
  refine Z_sipush hk dX2_init_41 (by decide) ?_
  refine Z_newa hk (k := 100) (N := 251) (t0 := 0) rfl (by decide +kernel) rfl rfl lk_a100 (by decide) rfl (by decide) (by decide) rfl dX2_init_44 (hq.2 6 (Or.inl (Nat.le_refl _))) (rq_none (by decide +kernel)) ⟨by decide, by decide⟩ ?_
  show Zj κ δ (ad0 δ) (rq 4) Q 1 (7, 5, 1255) 46 [some (.ref (ad0 δ 1))] [.ref (ad0 δ 6), .ref (ad0 δ 1)] M
  replace hq := hq.more
  refine Z_putRF hk hn hA fl_2_24 (fun q h => by cases (Option.some.inj h : (RX2, TX2, 7) = q); rfl) dX2_init_46 ob_1.1 ob_1.2.1 (by decide) ob_1.2.2.2 ft_2_5 (show rq 5 1 5 = some 6 from by decide +kernel) (rq_step (by decide +kernel)) ?_
  refine Z_aload0 hk dX2_init_49 ?_
  refine Z_sipush hk dX2_init_50 (by decide) ?_
  refine Z_newa hk (k := 100) (N := 251) (t0 := 0) rfl (by decide +kernel) rfl rfl lk_a100 (by decide) rfl (by decide) (by decide) rfl dX2_init_53 (hq.2 7 (Or.inl (Nat.le_refl _))) (rq_none (by decide +kernel)) ⟨by decide, by decide⟩ ?_
  show Zj κ δ (ad0 δ) (rq 5) Q 1 (8, 6, 1506) 55 [some (.ref (ad0 δ 1))] [.ref (ad0 δ 7), .ref (ad0 δ 1)] M
  replace hq := hq.more
  refine Z_putRF hk hn hA fl_2_27 (fun q h => by cases (Option.some.inj h : (RX2, TX2, 7) = q); rfl) dX2_init_55 ob_1.1 ob_1.2.1 (by decide) ob_1.2.2.2 ft_2_6 (show rq 6 1 6 = some 7 from by decide +kernel) (rq_step (by decide +kernel)) ?_
  exact Z_vret hk hA hQ dX2_init_58 ⟨rfl, rfl, rfl, hq⟩
set_option maxRecDepth 20000 in
set_option maxHeartbeats 4000000 in
theorem k_X0_init_8 (l : Launch) (δ : Dp) (hz : NS δ) (base M : Mem) (hq : Wq base 9 M) : Mg l δ yX0_init cX0_init 1 none { frames := 1, cells := 1, slots := 31, locals := 20 } 9 10 (ad0 δ) (rq 6) [.ref (ad0 δ 8)] M (fun v ad' rt' M' => v = none ∧ ad' = ad0 δ ∧ rt' = rq 7 ∧ Wq base 10 M') := by
  refine Mg.of (rm := { frames := 1, cells := 1, slots := 31, locals := 20 }) (by decide) (Nat.le_of_ble_eq_true rfl) fun κ _ hk hn => ?_
  have hA := ad0_ok δ
  generalize hQ : Qg κ δ 10 _ _ _ = Q
  show Zj κ δ (ad0 δ) (rq 6) Q 1 (9, 0, 0) 0 [some (.ref (ad0 δ 8))] [] M
  refine Z_aload0 hk dX0_init_0 ?_
  refine Z_obj hk (mg 68 (by decide +kernel) rfl) dX0_init_1 lk_oi lk_oc ⟨by decide, by decide⟩ (Nat.le_of_ble_eq_true rfl) ?_
  refine Z_aload0 hk dX0_init_4 ?_
  refine Z_bipush hk dX0_init_5 (by decide) ?_
  refine Z_newa hk (k := 101) (N := 31) (t0 := 1) rfl (by decide +kernel) rfl rfl lk_a101 (by decide) rfl (by decide) (by decide) rfl dX0_init_7 (hq.2 9 (Or.inl (Nat.le_refl _))) (rq_none (by decide +kernel)) ⟨by decide, by decide⟩ ?_
  show Zj κ δ (ad0 δ) (rq 6) Q 1 (10, 1, 31) 9 [some (.ref (ad0 δ 8))] [.ref (ad0 δ 9), .ref (ad0 δ 8)] M
  replace hq := hq.more
  refine Z_putRF hk hn hA fl_0_11 (fun q h => by cases (Option.some.inj h : (RX0, TX0, 1) = q); rfl) dX0_init_9 ob_8.1 ob_8.2.1 (by decide) ob_8.2.2.2 ft_0_0 (show rq 7 8 0 = some 9 from by decide +kernel) (rq_step (by decide +kernel)) ?_
  exact Z_vret hk hA hQ dX0_init_12 ⟨rfl, rfl, rfl, hq⟩
set_option maxRecDepth 20000 in
set_option maxHeartbeats 4000000 in
theorem k_X7_init_10 (l : Launch) (δ : Dp) (hz : NS δ) (base M : Mem) (hq : Wq base 11 M) : Mg l δ yX7_init cX7_init 3 none { frames := 1, cells := 2, slots := 120, locals := 20 } 11 13 (ad0 δ) (rq 7) [.ref (ad0 δ 10), .ref (ad0 δ 1), .ref (ad0 δ 8)] M (fun v ad' rt' M' => v = none ∧ ad' = ad0 δ ∧ rt' = rq 11 ∧ Wq base 13 M') := by
  refine Mg.of (rm := { frames := 1, cells := 2, slots := 120, locals := 20 }) (by decide) (Nat.le_of_ble_eq_true rfl) fun κ _ hk hn => ?_
  have hA := ad0_ok δ
  generalize hQ : Qg κ δ 13 _ _ _ = Q
  show Zj κ δ (ad0 δ) (rq 7) Q 3 (11, 0, 0) 0 [some (.ref (ad0 δ 10)), some (.ref (ad0 δ 1)), some (.ref (ad0 δ 8))] [] M
  refine Z_aload0 hk dX7_init_0 ?_
  refine Z_obj hk (mg 79 (by decide +kernel) rfl) dX7_init_1 lk_oi lk_oc ⟨by decide, by decide⟩ (Nat.le_of_ble_eq_true rfl) ?_
  refine Z_aload0 hk dX7_init_4 ?_
  refine Z_bipush hk dX7_init_5 (by decide) ?_
  refine Z_newa hk (k := 100) (N := 90) (t0 := 0) rfl (by decide +kernel) rfl rfl lk_a100 (by decide) rfl (by decide) (by decide) rfl dX7_init_7 (hq.2 11 (Or.inl (Nat.le_refl _))) (rq_none (by decide +kernel)) ⟨by decide, by decide⟩ ?_
  show Zj κ δ (ad0 δ) (rq 7) Q 3 (12, 1, 90) 9 [some (.ref (ad0 δ 10)), some (.ref (ad0 δ 1)), some (.ref (ad0 δ 8))] [.ref (ad0 δ 11), .ref (ad0 δ 10)] M
  replace hq := hq.more
  refine Z_putRF hk hn hA fl_7_9 (fun q h => by cases (Option.some.inj h : (RX7, TX7, 11) = q); rfl) dX7_init_9 ob_10.1 ob_10.2.1 (by decide) ob_10.2.2.2 ft_7_2 (show rq 8 10 2 = some 11 from by decide +kernel) (rq_step (by decide +kernel)) ?_
  refine Z_aload0 hk dX7_init_12 ?_
  refine Z_bipush hk dX7_init_13 (by decide) ?_
  refine Z_newa hk (k := 102) (N := 30) (t0 := 2) rfl (by decide +kernel) rfl rfl lk_a102 (by decide) rfl (by decide) (by decide) rfl dX7_init_15 (hq.2 12 (Or.inl (Nat.le_refl _))) (rq_none (by decide +kernel)) ⟨by decide, by decide⟩ ?_
  show Zj κ δ (ad0 δ) (rq 8) Q 3 (13, 2, 120) 17 [some (.ref (ad0 δ 10)), some (.ref (ad0 δ 1)), some (.ref (ad0 δ 8))] [.ref (ad0 δ 12), .ref (ad0 δ 10)] M
  replace hq := hq.more
  refine Z_putRF hk hn hA fl_7_15 (fun q h => by cases (Option.some.inj h : (RX7, TX7, 11) = q); rfl) dX7_init_17 ob_10.1 ob_10.2.1 (by decide) ob_10.2.2.2 ft_7_3 (show rq 9 10 3 = some 12 from by decide +kernel) (rq_step (by decide +kernel)) ?_
  refine Z_aload0 hk dX7_init_20 ?_
  refine Z_aload1 hk dX7_init_21 ?_
  refine Z_putRF hk hn hA fl_7_19 (fun q h => by cases (Option.some.inj h : (RX7, TX7, 11) = q); rfl) dX7_init_22 ob_10.1 ob_10.2.1 (by decide) ob_10.2.2.2 ft_7_0 (show rq 10 10 0 = some 1 from by decide +kernel) (rq_step (by decide +kernel)) ?_
  refine Z_aload0 hk dX7_init_25 ?_
  refine Z_aload2 hk dX7_init_26 ?_
  refine Z_putRF hk hn hA fl_7_23 (fun q h => by cases (Option.some.inj h : (RX7, TX7, 11) = q); rfl) dX7_init_27 ob_10.1 ob_10.2.1 (by decide) ob_10.2.2.2 ft_7_1 (show rq 11 10 1 = some 8 from by decide +kernel) (rq_step (by decide +kernel)) ?_
  exact Z_vret hk hA hQ dX7_init_30 ⟨rfl, rfl, rfl, hq⟩
set_option maxRecDepth 20000 in
set_option maxHeartbeats 4000000 in
theorem k_X5_init_13 (l : Launch) (δ : Dp) (hz : NS δ) (base M : Mem) (hq : Wq base 14 M) : Mg l δ yX5_init cX5_init 2 none { frames := 1, cells := 4, slots := 1870, locals := 20 } 14 18 (ad0 δ) (rq 11) [.ref (ad0 δ 13), .ref (ad0 δ 1)] M (fun v ad' rt' M' => v = none ∧ ad' = ad0 δ ∧ rt' = rq 16 ∧ Wq base 18 M') := by
  refine Mg.of (rm := { frames := 1, cells := 4, slots := 1870, locals := 20 }) (by decide) (Nat.le_of_ble_eq_true rfl) fun κ _ hk hn => ?_
  have hA := ad0_ok δ
  generalize hQ : Qg κ δ 18 _ _ _ = Q
  show Zj κ δ (ad0 δ) (rq 11) Q 2 (14, 0, 0) 0 [some (.ref (ad0 δ 13)), some (.ref (ad0 δ 1))] [] M
  refine Z_aload0 hk dX5_init_0 ?_
  refine Z_obj hk (mg 122 (by decide +kernel) rfl) dX5_init_1 lk_oi lk_oc ⟨by decide, by decide⟩ (Nat.le_of_ble_eq_true rfl) ?_
  refine Z_aload0 hk dX5_init_4 ?_
  refine Z_sipush hk dX5_init_5 (by decide) ?_
  refine Z_newa hk (k := 100) (N := 1800) (t0 := 0) rfl (by decide +kernel) rfl rfl lk_a100 (by decide) rfl (by decide) (by decide) rfl dX5_init_8 (hq.2 14 (Or.inl (Nat.le_refl _))) (rq_none (by decide +kernel)) ⟨by decide, by decide⟩ ?_
  show Zj κ δ (ad0 δ) (rq 11) Q 2 (15, 1, 1800) 10 [some (.ref (ad0 δ 13)), some (.ref (ad0 δ 1))] [.ref (ad0 δ 14), .ref (ad0 δ 13)] M
  replace hq := hq.more
  refine Z_putRF hk hn hA fl_5_9 (fun q h => by cases (Option.some.inj h : (RX5, TX5, 6) = q); rfl) dX5_init_10 ob_13.1 ob_13.2.1 (by decide) ob_13.2.2.2 ft_5_1 (show rq 12 13 1 = some 14 from by decide +kernel) (rq_step (by decide +kernel)) ?_
  refine Z_aload0 hk dX5_init_13 ?_
  refine Z_bipush hk dX5_init_14 (by decide) ?_
  refine Z_newa hk (k := 100) (N := 30) (t0 := 0) rfl (by decide +kernel) rfl rfl lk_a100 (by decide) rfl (by decide) (by decide) rfl dX5_init_16 (hq.2 15 (Or.inl (Nat.le_refl _))) (rq_none (by decide +kernel)) ⟨by decide, by decide⟩ ?_
  show Zj κ δ (ad0 δ) (rq 12) Q 2 (16, 2, 1830) 18 [some (.ref (ad0 δ 13)), some (.ref (ad0 δ 1))] [.ref (ad0 δ 15), .ref (ad0 δ 13)] M
  replace hq := hq.more
  refine Z_putRF hk hn hA fl_5_15 (fun q h => by cases (Option.some.inj h : (RX5, TX5, 6) = q); rfl) dX5_init_18 ob_13.1 ob_13.2.1 (by decide) ob_13.2.2.2 ft_5_2 (show rq 13 13 2 = some 15 from by decide +kernel) (rq_step (by decide +kernel)) ?_
  refine Z_aload0 hk dX5_init_21 ?_
  refine Z_bipush hk dX5_init_22 (by decide) ?_
  refine Z_newa hk (k := 100) (N := 30) (t0 := 0) rfl (by decide +kernel) rfl rfl lk_a100 (by decide) rfl (by decide) (by decide) rfl dX5_init_24 (hq.2 16 (Or.inl (Nat.le_refl _))) (rq_none (by decide +kernel)) ⟨by decide, by decide⟩ ?_
  show Zj κ δ (ad0 δ) (rq 13) Q 2 (17, 3, 1860) 26 [some (.ref (ad0 δ 13)), some (.ref (ad0 δ 1))] [.ref (ad0 δ 16), .ref (ad0 δ 13)] M
  replace hq := hq.more
  refine Z_putRF hk hn hA fl_5_18 (fun q h => by cases (Option.some.inj h : (RX5, TX5, 6) = q); rfl) dX5_init_26 ob_13.1 ob_13.2.1 (by decide) ob_13.2.2.2 ft_5_3 (show rq 14 13 3 = some 16 from by decide +kernel) (rq_step (by decide +kernel)) ?_
  refine Z_aload0 hk dX5_init_29 ?_
  refine Z_bipush hk dX5_init_30 (by decide) ?_
  refine Z_newa hk (k := 100) (N := 10) (t0 := 0) rfl (by decide +kernel) rfl rfl lk_a100 (by decide) rfl (by decide) (by decide) rfl dX5_init_32 (hq.2 17 (Or.inl (Nat.le_refl _))) (rq_none (by decide +kernel)) ⟨by decide, by decide⟩ ?_
  show Zj κ δ (ad0 δ) (rq 14) Q 2 (18, 4, 1870) 34 [some (.ref (ad0 δ 13)), some (.ref (ad0 δ 1))] [.ref (ad0 δ 17), .ref (ad0 δ 13)] M
  replace hq := hq.more
  refine Z_putRF hk hn hA fl_5_21 (fun q h => by cases (Option.some.inj h : (RX5, TX5, 6) = q); rfl) dX5_init_34 ob_13.1 ob_13.2.1 (by decide) ob_13.2.2.2 ft_5_5 (show rq 15 13 5 = some 17 from by decide +kernel) (rq_step (by decide +kernel)) ?_
  refine Z_aload0 hk dX5_init_37 ?_
  refine Z_aload1 hk dX5_init_38 ?_
  refine Z_putRF hk hn hA fl_5_24 (fun q h => by cases (Option.some.inj h : (RX5, TX5, 6) = q); rfl) dX5_init_39 ob_13.1 ob_13.2.1 (by decide) ob_13.2.2.2 ft_5_0 (show rq 16 13 0 = some 1 from by decide +kernel) (rq_step (by decide +kernel)) ?_
  exact Z_vret hk hA hQ dX5_init_42 ⟨rfl, rfl, rfl, hq⟩
set_option maxRecDepth 20000 in
set_option maxHeartbeats 4000000 in
theorem k_X1_init_18 (l : Launch) (δ : Dp) (hz : NS δ) (base M : Mem) (hq : Wq base 19 M) : Mg l δ yX1_init cX1_init 3 none { frames := 1, cells := 1, slots := 64, locals := 20 } 19 20 (ad0 δ) (rq 20) [.ref (ad0 δ 18), .ref (ad0 δ 10), .ref (ad0 δ 13)] M (fun v ad' rt' M' => v = none ∧ ad' = ad0 δ ∧ rt' = rq 23 ∧ Wq base 20 M') := by
  refine Mg.of (rm := { frames := 1, cells := 1, slots := 64, locals := 20 }) (by decide) (Nat.le_of_ble_eq_true rfl) fun κ _ hk hn => ?_
  have hA := ad0_ok δ
  generalize hQ : Qg κ δ 20 _ _ _ = Q
  show Zj κ δ (ad0 δ) (rq 20) Q 3 (19, 0, 0) 0 [some (.ref (ad0 δ 18)), some (.ref (ad0 δ 10)), some (.ref (ad0 δ 13))] [] M
  refine Z_aload0 hk dX1_init_0 ?_
  refine Z_obj hk (mg 149 (by decide +kernel) rfl) dX1_init_1 lk_oi lk_oc ⟨by decide, by decide⟩ (Nat.le_of_ble_eq_true rfl) ?_
  refine Z_aload0 hk dX1_init_4 ?_
  refine Z_bipush hk dX1_init_5 (by decide) ?_
  refine Z_newa hk (k := 100) (N := 64) (t0 := 0) rfl (by decide +kernel) rfl rfl lk_a100 (by decide) rfl (by decide) (by decide) rfl dX1_init_7 (hq.2 19 (Or.inl (Nat.le_refl _))) (rq_none (by decide +kernel)) ⟨by decide, by decide⟩ ?_
  show Zj κ δ (ad0 δ) (rq 20) Q 3 (20, 1, 64) 9 [some (.ref (ad0 δ 18)), some (.ref (ad0 δ 10)), some (.ref (ad0 δ 13))] [.ref (ad0 δ 19), .ref (ad0 δ 18)] M
  replace hq := hq.more
  refine Z_putRF hk hn hA fl_1_11 (fun q h => by cases (Option.some.inj h : (RX1, TX1, 4) = q); rfl) dX1_init_9 ob_18.1 ob_18.2.1 (by decide) ob_18.2.2.2 ft_1_2 (show rq 21 18 2 = some 19 from by decide +kernel) (rq_step (by decide +kernel)) ?_
  refine Z_aload0 hk dX1_init_12 ?_
  refine Z_aload1 hk dX1_init_13 ?_
  refine Z_putRF hk hn hA fl_1_15 (fun q h => by cases (Option.some.inj h : (RX1, TX1, 4) = q); rfl) dX1_init_14 ob_18.1 ob_18.2.1 (by decide) ob_18.2.2.2 ft_1_0 (show rq 22 18 0 = some 10 from by decide +kernel) (rq_step (by decide +kernel)) ?_
  refine Z_aload0 hk dX1_init_17 ?_
  refine Z_aload2 hk dX1_init_18 ?_
  refine Z_putRF hk hn hA fl_1_19 (fun q h => by cases (Option.some.inj h : (RX1, TX1, 4) = q); rfl) dX1_init_19 ob_18.1 ob_18.2.1 (by decide) ob_18.2.2.2 ft_1_1 (show rq 23 18 1 = some 13 from by decide +kernel) (rq_step (by decide +kernel)) ?_
  exact Z_vret hk hA hQ dX1_init_22 ⟨rfl, rfl, rfl, hq⟩
set_option maxRecDepth 20000 in
set_option maxHeartbeats 4000000 in
theorem k_X3_init_21 (l : Launch) (δ : Dp) (hz : NS δ) (base M : Mem) (hq : Wq base 22 M) : Mg l δ yX3_init cX3_init 1 none { frames := 1, cells := 9, slots := 1150, locals := 20 } 22 31 (ad0 δ) (rq 24) [.ref (ad0 δ 21)] M (fun v ad' rt' M' => v = none ∧ ad' = ad0 δ ∧ rt' = rq 33 ∧ Wq (up (up base 21 3 9) 21 5 (-1)) 31 M') := by
  refine Mg.of (rm := { frames := 1, cells := 9, slots := 1150, locals := 20 }) (by decide) (Nat.le_of_ble_eq_true rfl) fun κ _ hk hn => ?_
  have hA := ad0_ok δ
  generalize hQ : Qg κ δ 31 _ _ _ = Q
  show Zj κ δ (ad0 δ) (rq 24) Q 1 (22, 0, 0) 0 [some (.ref (ad0 δ 21))] [] M
  refine Z_aload0 hk dX3_init_0 ?_
  refine Z_obj hk (mg 170 (by decide +kernel) rfl) dX3_init_1 lk_oi lk_oc ⟨by decide, by decide⟩ (Nat.le_of_ble_eq_true rfl) ?_
  refine Z_aload0 hk dX3_init_4 ?_
  refine Z_bipush hk dX3_init_5 (by decide) ?_
  refine Z_putI hk hA fl_3_9 dX3_init_7 ob_21.1 ob_21.2.1 (by decide) ob_21.2.2.2 ft_3_3 (by decide) (by decide) ?_
  refine Z_fg (Wq.put hq (by decide) (by decide)) (fun m1 hq => ?_)
  refine Z_aload0 hk dX3_init_10 ?_
  refine Z_iconst hk dX3_init_11 ?_
  refine Z_putI hk hA fl_3_15 dX3_init_12 ob_21.1 ob_21.2.1 (by decide) ob_21.2.2.2 ft_3_5 (by decide) (by decide) ?_
  refine Z_fg (Wq.put hq (by decide) (by decide)) (fun m2 hq => ?_)
  refine Z_aload0 hk dX3_init_15 ?_
  refine Z_bipush hk dX3_init_16 (by decide) ?_
  refine Z_newa hk (k := 101) (N := 14) (t0 := 1) rfl (by decide +kernel) rfl rfl lk_a101 (by decide) rfl (by decide) (by decide) rfl dX3_init_18 (hq.2 22 (Or.inl (Nat.le_refl _))) (rq_none (by decide +kernel)) ⟨by decide, by decide⟩ ?_
  show Zj κ δ (ad0 δ) (rq 24) Q 1 (23, 1, 14) 20 [some (.ref (ad0 δ 21))] [.ref (ad0 δ 22), .ref (ad0 δ 21)] m2
  replace hq := hq.more
  refine Z_putRF hk hn hA fl_3_18 (fun q h => by cases (Option.some.inj h : (RX3, TX3, 16) = q); rfl) dX3_init_20 ob_21.1 ob_21.2.1 (by decide) ob_21.2.2.2 ft_3_7 (show rq 25 21 7 = some 22 from by decide +kernel) (rq_step (by decide +kernel)) ?_
  refine Z_aload0 hk dX3_init_23 ?_
  refine Z_iconst hk dX3_init_24 ?_
  refine Z_newa hk (k := 102) (N := 4) (t0 := 2) rfl (by decide +kernel) rfl rfl lk_a102 (by decide) rfl (by decide) (by decide) rfl dX3_init_25 (hq.2 23 (Or.inl (Nat.le_refl _))) (rq_none (by decide +kernel)) ⟨by decide, by decide⟩ ?_
  show Zj κ δ (ad0 δ) (rq 25) Q 1 (24, 2, 18) 27 [some (.ref (ad0 δ 21))] [.ref (ad0 δ 23), .ref (ad0 δ 21)] m2
  replace hq := hq.more
  refine Z_putRF hk hn hA fl_3_22 (fun q h => by cases (Option.some.inj h : (RX3, TX3, 16) = q); rfl) dX3_init_27 ob_21.1 ob_21.2.1 (by decide) ob_21.2.2.2 ft_3_8 (show rq 26 21 8 = some 23 from by decide +kernel) (rq_step (by decide +kernel)) ?_
  refine Z_aload0 hk dX3_init_30 ?_
  refine Z_iconst hk dX3_init_31 ?_
  refine Z_newa hk (k := 100) (N := 4) (t0 := 0) rfl (by decide +kernel) rfl rfl lk_a100 (by decide) rfl (by decide) (by decide) rfl dX3_init_32 (hq.2 24 (Or.inl (Nat.le_refl _))) (rq_none (by decide +kernel)) ⟨by decide, by decide⟩ ?_
  show Zj κ δ (ad0 δ) (rq 26) Q 1 (25, 3, 22) 34 [some (.ref (ad0 δ 21))] [.ref (ad0 δ 24), .ref (ad0 δ 21)] m2
  replace hq := hq.more
  refine Z_putRF hk hn hA fl_3_26 (fun q h => by cases (Option.some.inj h : (RX3, TX3, 16) = q); rfl) dX3_init_34 ob_21.1 ob_21.2.1 (by decide) ob_21.2.2.2 ft_3_9 (show rq 27 21 9 = some 24 from by decide +kernel) (rq_step (by decide +kernel)) ?_
  refine Z_aload0 hk dX3_init_37 ?_
  refine Z_bipush hk dX3_init_38 (by decide) ?_
  refine Z_newa hk (k := 100) (N := 20) (t0 := 0) rfl (by decide +kernel) rfl rfl lk_a100 (by decide) rfl (by decide) (by decide) rfl dX3_init_40 (hq.2 25 (Or.inl (Nat.le_refl _))) (rq_none (by decide +kernel)) ⟨by decide, by decide⟩ ?_
  show Zj κ δ (ad0 δ) (rq 27) Q 1 (26, 4, 42) 42 [some (.ref (ad0 δ 21))] [.ref (ad0 δ 25), .ref (ad0 δ 21)] m2
  replace hq := hq.more
  refine Z_putRF hk hn hA fl_3_30 (fun q h => by cases (Option.some.inj h : (RX3, TX3, 16) = q); rfl) dX3_init_42 ob_21.1 ob_21.2.1 (by decide) ob_21.2.2.2 ft_3_10 (show rq 28 21 10 = some 25 from by decide +kernel) (rq_step (by decide +kernel)) ?_
  refine Z_aload0 hk dX3_init_45 ?_
  refine Z_bipush hk dX3_init_46 (by decide) ?_
  refine Z_newa hk (k := 100) (N := 20) (t0 := 0) rfl (by decide +kernel) rfl rfl lk_a100 (by decide) rfl (by decide) (by decide) rfl dX3_init_48 (hq.2 26 (Or.inl (Nat.le_refl _))) (rq_none (by decide +kernel)) ⟨by decide, by decide⟩ ?_
  show Zj κ δ (ad0 δ) (rq 28) Q 1 (27, 5, 62) 50 [some (.ref (ad0 δ 21))] [.ref (ad0 δ 26), .ref (ad0 δ 21)] m2
  replace hq := hq.more
  refine Z_putRF hk hn hA fl_3_33 (fun q h => by cases (Option.some.inj h : (RX3, TX3, 16) = q); rfl) dX3_init_50 ob_21.1 ob_21.2.1 (by decide) ob_21.2.2.2 ft_3_11 (show rq 29 21 11 = some 26 from by decide +kernel) (rq_step (by decide +kernel)) ?_
  refine Z_aload0 hk dX3_init_53 ?_
  refine Z_bipush hk dX3_init_54 (by decide) ?_
  refine Z_newa hk (k := 100) (N := 20) (t0 := 0) rfl (by decide +kernel) rfl rfl lk_a100 (by decide) rfl (by decide) (by decide) rfl dX3_init_56 (hq.2 27 (Or.inl (Nat.le_refl _))) (rq_none (by decide +kernel)) ⟨by decide, by decide⟩ ?_
  show Zj κ δ (ad0 δ) (rq 29) Q 1 (28, 6, 82) 58 [some (.ref (ad0 δ 21))] [.ref (ad0 δ 27), .ref (ad0 δ 21)] m2
  replace hq := hq.more
  refine Z_putRF hk hn hA fl_3_36 (fun q h => by cases (Option.some.inj h : (RX3, TX3, 16) = q); rfl) dX3_init_58 ob_21.1 ob_21.2.1 (by decide) ob_21.2.2.2 ft_3_12 (show rq 30 21 12 = some 27 from by decide +kernel) (rq_step (by decide +kernel)) ?_
  refine Z_aload0 hk dX3_init_61 ?_
  refine Z_sipush hk dX3_init_62 (by decide) ?_
  refine Z_newa hk (k := 100) (N := 360) (t0 := 0) rfl (by decide +kernel) rfl rfl lk_a100 (by decide) rfl (by decide) (by decide) rfl dX3_init_65 (hq.2 28 (Or.inl (Nat.le_refl _))) (rq_none (by decide +kernel)) ⟨by decide, by decide⟩ ?_
  show Zj κ δ (ad0 δ) (rq 30) Q 1 (29, 7, 442) 67 [some (.ref (ad0 δ 21))] [.ref (ad0 δ 28), .ref (ad0 δ 21)] m2
  replace hq := hq.more
  refine Z_putRF hk hn hA fl_3_39 (fun q h => by cases (Option.some.inj h : (RX3, TX3, 16) = q); rfl) dX3_init_67 ob_21.1 ob_21.2.1 (by decide) ob_21.2.2.2 ft_3_13 (show rq 31 21 13 = some 28 from by decide +kernel) (rq_step (by decide +kernel)) ?_
  refine Z_aload0 hk dX3_init_70 ?_
  refine Z_sipush hk dX3_init_71 (by decide) ?_
  refine Z_newa hk (k := 100) (N := 700) (t0 := 0) rfl (by decide +kernel) rfl rfl lk_a100 (by decide) rfl (by decide) (by decide) rfl dX3_init_74 (hq.2 29 (Or.inl (Nat.le_refl _))) (rq_none (by decide +kernel)) ⟨by decide, by decide⟩ ?_
  show Zj κ δ (ad0 δ) (rq 31) Q 1 (30, 8, 1142) 76 [some (.ref (ad0 δ 21))] [.ref (ad0 δ 29), .ref (ad0 δ 21)] m2
  replace hq := hq.more
  refine Z_putRF hk hn hA fl_3_42 (fun q h => by cases (Option.some.inj h : (RX3, TX3, 16) = q); rfl) dX3_init_76 ob_21.1 ob_21.2.1 (by decide) ob_21.2.2.2 ft_3_14 (show rq 32 21 14 = some 29 from by decide +kernel) (rq_step (by decide +kernel)) ?_
  refine Z_aload0 hk dX3_init_79 ?_
  refine Z_bipush hk dX3_init_80 (by decide) ?_
  refine Z_newa hk (k := 100) (N := 8) (t0 := 0) rfl (by decide +kernel) rfl rfl lk_a100 (by decide) rfl (by decide) (by decide) rfl dX3_init_82 (hq.2 30 (Or.inl (Nat.le_refl _))) (rq_none (by decide +kernel)) ⟨by decide, by decide⟩ ?_
  show Zj κ δ (ad0 δ) (rq 32) Q 1 (31, 9, 1150) 84 [some (.ref (ad0 δ 21))] [.ref (ad0 δ 30), .ref (ad0 δ 21)] m2
  replace hq := hq.more
  refine Z_putRF hk hn hA fl_3_45 (fun q h => by cases (Option.some.inj h : (RX3, TX3, 16) = q); rfl) dX3_init_84 ob_21.1 ob_21.2.1 (by decide) ob_21.2.2.2 ft_3_15 (show rq 33 21 15 = some 30 from by decide +kernel) (rq_step (by decide +kernel)) ?_
  exact Z_vret hk hA hQ dX3_init_87 ⟨rfl, rfl, rfl, hq⟩
set_option maxRecDepth 20000 in
set_option maxHeartbeats 4000000 in
theorem k_X4_init_20 (l : Launch) (δ : Dp) (hz : NS δ) (base M : Mem) (hq : Wq base 31 M) : Mg l δ yX4_init cX4_init 2 none { frames := 1, cells := 1, slots := 700, locals := 20 } 31 32 (ad0 δ) (rq 33) [.ref (ad0 δ 20), .ref (ad0 δ 21)] M (fun v ad' rt' M' => v = none ∧ ad' = ad0 δ ∧ rt' = rq 35 ∧ Wq (up (up (up base 20 2 0) 20 3 0) 20 4 (-1)) 32 M') := by
  refine Mg.of (rm := { frames := 1, cells := 1, slots := 700, locals := 20 }) (by decide) (Nat.le_of_ble_eq_true rfl) fun κ _ hk hn => ?_
  have hA := ad0_ok δ
  generalize hQ : Qg κ δ 32 _ _ _ = Q
  show Zj κ δ (ad0 δ) (rq 33) Q 2 (31, 0, 0) 0 [some (.ref (ad0 δ 20)), some (.ref (ad0 δ 21))] [] M
  refine Z_aload0 hk dX4_init_0 ?_
  refine Z_obj hk (mg 245 (by decide +kernel) rfl) dX4_init_1 lk_oi lk_oc ⟨by decide, by decide⟩ (Nat.le_of_ble_eq_true rfl) ?_
  refine Z_aload0 hk dX4_init_4 ?_
  refine Z_sipush hk dX4_init_5 (by decide) ?_
  refine Z_newa hk (k := 103) (N := 700) (t0 := 3) rfl (by decide +kernel) rfl rfl lk_a103 (by decide) rfl (by decide) (by decide) rfl dX4_init_8 (hq.2 31 (Or.inl (Nat.le_refl _))) (rq_none (by decide +kernel)) ⟨by decide, by decide⟩ ?_
  show Zj κ δ (ad0 δ) (rq 33) Q 2 (32, 1, 700) 10 [some (.ref (ad0 δ 20)), some (.ref (ad0 δ 21))] [.ref (ad0 δ 31), .ref (ad0 δ 20)] M
  replace hq := hq.more
  refine Z_putRF hk hn hA fl_4_9 (fun q h => by cases (Option.some.inj h : (RX4, TX4, 10) = q); rfl) dX4_init_10 ob_20.1 ob_20.2.1 (by decide) ob_20.2.2.2 ft_4_0 (show rq 34 20 0 = some 31 from by decide +kernel) (rq_step (by decide +kernel)) ?_
  refine Z_aload0 hk dX4_init_13 ?_
  refine Z_aload1 hk dX4_init_14 ?_
  refine Z_putR hk hA fl_4_15 dX4_init_15 ob_20.1 ob_20.2.1 (by decide) ob_20.2.2.2 ft_4_1 (show rq 35 20 1 = some 21 from by decide +kernel) (rq_step (by decide +kernel)) ?_
  refine Z_aload0 hk dX4_init_18 ?_
  refine Z_iconst hk dX4_init_19 ?_
  refine Z_putI hk hA fl_4_19 dX4_init_20 ob_20.1 ob_20.2.1 (by decide) ob_20.2.2.2 ft_4_2 (by decide) (by decide) ?_
  refine Z_fg (Wq.put hq (by decide) (by decide)) (fun m1 hq => ?_)
  refine Z_aload0 hk dX4_init_23 ?_
  refine Z_iconst hk dX4_init_24 ?_
  refine Z_putI hk hA fl_4_23 dX4_init_25 ob_20.1 ob_20.2.1 (by decide) ob_20.2.2.2 ft_4_3 (by decide) (by decide) ?_
  refine Z_fg (Wq.put hq (by decide) (by decide)) (fun m2 hq => ?_)
  refine Z_aload0 hk dX4_init_28 ?_
  refine Z_iconst hk dX4_init_29 ?_
  refine Z_putI hk hA fl_4_26 dX4_init_30 ob_20.1 ob_20.2.1 (by decide) ob_20.2.2.2 ft_4_4 (by decide) (by decide) ?_
  refine Z_fg (Wq.put hq (by decide) (by decide)) (fun m3 hq => ?_)
  exact Z_vret hk hA hQ dX4_init_33 ⟨rfl, rfl, rfl, hq⟩
set_option maxRecDepth 20000 in
set_option maxHeartbeats 4000000 in
theorem k_X6_init_32 (l : Launch) (δ : Dp) (hz : NS δ) (base M : Mem) (hq : Wq base 33 M) : Mg l δ yX6_init cX6_init 1 none { frames := 1, cells := 5, slots := 210, locals := 20 } 33 38 (ad0 δ) (rq 36) [.ref (ad0 δ 32)] M (fun v ad' rt' M' => v = none ∧ ad' = ad0 δ ∧ rt' = rq 41 ∧ Wq base 38 M') := by
  refine Mg.of (rm := { frames := 1, cells := 5, slots := 210, locals := 20 }) (by decide) (Nat.le_of_ble_eq_true rfl) fun κ _ hk hn => ?_
  have hA := ad0_ok δ
  generalize hQ : Qg κ δ 38 _ _ _ = Q
  show Zj κ δ (ad0 δ) (rq 36) Q 1 (33, 0, 0) 0 [some (.ref (ad0 δ 32))] [] M
  refine Z_aload0 hk dX6_init_0 ?_
  refine Z_obj hk (mg 286 (by decide +kernel) rfl) dX6_init_1 lk_oi lk_oc ⟨by decide, by decide⟩ (Nat.le_of_ble_eq_true rfl) ?_
  refine Z_aload0 hk dX6_init_4 ?_
  refine Z_sipush hk dX6_init_5 (by decide) ?_
  refine Z_newa hk (k := 100) (N := 150) (t0 := 0) rfl (by decide +kernel) rfl rfl lk_a100 (by decide) rfl (by decide) (by decide) rfl dX6_init_8 (hq.2 33 (Or.inl (Nat.le_refl _))) (rq_none (by decide +kernel)) ⟨by decide, by decide⟩ ?_
  show Zj κ δ (ad0 δ) (rq 36) Q 1 (34, 1, 150) 10 [some (.ref (ad0 δ 32))] [.ref (ad0 δ 33), .ref (ad0 δ 32)] M
  replace hq := hq.more
  refine Z_putRF hk hn hA fl_6_11 (fun q h => by cases (Option.some.inj h : (RX6, TX6, 7) = q); rfl) dX6_init_10 ob_32.1 ob_32.2.1 (by decide) ob_32.2.2.2 ft_6_2 (show rq 37 32 2 = some 33 from by decide +kernel) (rq_step (by decide +kernel)) ?_
  refine Z_aload0 hk dX6_init_13 ?_
  refine Z_bipush hk dX6_init_14 (by decide) ?_
  refine Z_newa hk (k := 100) (N := 25) (t0 := 0) rfl (by decide +kernel) rfl rfl lk_a100 (by decide) rfl (by decide) (by decide) rfl dX6_init_16 (hq.2 34 (Or.inl (Nat.le_refl _))) (rq_none (by decide +kernel)) ⟨by decide, by decide⟩ ?_
  show Zj κ δ (ad0 δ) (rq 37) Q 1 (35, 2, 175) 18 [some (.ref (ad0 δ 32))] [.ref (ad0 δ 34), .ref (ad0 δ 32)] M
  replace hq := hq.more
  refine Z_putRF hk hn hA fl_6_15 (fun q h => by cases (Option.some.inj h : (RX6, TX6, 7) = q); rfl) dX6_init_18 ob_32.1 ob_32.2.1 (by decide) ob_32.2.2.2 ft_6_3 (show rq 38 32 3 = some 34 from by decide +kernel) (rq_step (by decide +kernel)) ?_
  refine Z_aload0 hk dX6_init_21 ?_
  refine Z_bipush hk dX6_init_22 (by decide) ?_
  refine Z_newa hk (k := 100) (N := 25) (t0 := 0) rfl (by decide +kernel) rfl rfl lk_a100 (by decide) rfl (by decide) (by decide) rfl dX6_init_24 (hq.2 35 (Or.inl (Nat.le_refl _))) (rq_none (by decide +kernel)) ⟨by decide, by decide⟩ ?_
  show Zj κ δ (ad0 δ) (rq 38) Q 1 (36, 3, 200) 26 [some (.ref (ad0 δ 32))] [.ref (ad0 δ 35), .ref (ad0 δ 32)] M
  replace hq := hq.more
  refine Z_putRF hk hn hA fl_6_18 (fun q h => by cases (Option.some.inj h : (RX6, TX6, 7) = q); rfl) dX6_init_26 ob_32.1 ob_32.2.1 (by decide) ob_32.2.2.2 ft_6_4 (show rq 39 32 4 = some 35 from by decide +kernel) (rq_step (by decide +kernel)) ?_
  refine Z_aload0 hk dX6_init_29 ?_
  refine Z_iconst hk dX6_init_30 ?_
  refine Z_newa hk (k := 100) (N := 5) (t0 := 0) rfl (by decide +kernel) rfl rfl lk_a100 (by decide) rfl (by decide) (by decide) rfl dX6_init_31 (hq.2 36 (Or.inl (Nat.le_refl _))) (rq_none (by decide +kernel)) ⟨by decide, by decide⟩ ?_
  show Zj κ δ (ad0 δ) (rq 39) Q 1 (37, 4, 205) 33 [some (.ref (ad0 δ 32))] [.ref (ad0 δ 36), .ref (ad0 δ 32)] M
  replace hq := hq.more
  refine Z_putRF hk hn hA fl_6_21 (fun q h => by cases (Option.some.inj h : (RX6, TX6, 7) = q); rfl) dX6_init_33 ob_32.1 ob_32.2.1 (by decide) ob_32.2.2.2 ft_6_5 (show rq 40 32 5 = some 36 from by decide +kernel) (rq_step (by decide +kernel)) ?_
  refine Z_aload0 hk dX6_init_36 ?_
  refine Z_iconst hk dX6_init_37 ?_
  refine Z_newa hk (k := 100) (N := 5) (t0 := 0) rfl (by decide +kernel) rfl rfl lk_a100 (by decide) rfl (by decide) (by decide) rfl dX6_init_38 (hq.2 37 (Or.inl (Nat.le_refl _))) (rq_none (by decide +kernel)) ⟨by decide, by decide⟩ ?_
  show Zj κ δ (ad0 δ) (rq 40) Q 1 (38, 5, 210) 40 [some (.ref (ad0 δ 32))] [.ref (ad0 δ 37), .ref (ad0 δ 32)] M
  replace hq := hq.more
  refine Z_putRF hk hn hA fl_6_24 (fun q h => by cases (Option.some.inj h : (RX6, TX6, 7) = q); rfl) dX6_init_40 ob_32.1 ob_32.2.1 (by decide) ob_32.2.2.2 ft_6_6 (show rq 41 32 6 = some 37 from by decide +kernel) (rq_step (by decide +kernel)) ?_
  exact Z_vret hk hA hQ dX6_init_43 ⟨rfl, rfl, rfl, hq⟩
set_option maxRecDepth 20000 in
set_option maxHeartbeats 4000000 in
theorem k_X3_init_38 (l : Launch) (δ : Dp) (hz : NS δ) (base M : Mem) (hq : Wq base 39 M) : Mg l δ yX3_init cX3_init 1 none { frames := 1, cells := 9, slots := 1150, locals := 20 } 39 48 (ad0 δ) (rq 42) [.ref (ad0 δ 38)] M (fun v ad' rt' M' => v = none ∧ ad' = ad0 δ ∧ rt' = rq 51 ∧ Wq (up (up base 38 3 9) 38 5 (-1)) 48 M') := by
  refine Mg.of (rm := { frames := 1, cells := 9, slots := 1150, locals := 20 }) (by decide) (Nat.le_of_ble_eq_true rfl) fun κ _ hk hn => ?_
  have hA := ad0_ok δ
  generalize hQ : Qg κ δ 48 _ _ _ = Q
  show Zj κ δ (ad0 δ) (rq 42) Q 1 (39, 0, 0) 0 [some (.ref (ad0 δ 38))] [] M
  refine Z_aload0 hk dX3_init_0 ?_
  refine Z_obj hk (mg 170 (by decide +kernel) rfl) dX3_init_1 lk_oi lk_oc ⟨by decide, by decide⟩ (Nat.le_of_ble_eq_true rfl) ?_
  refine Z_aload0 hk dX3_init_4 ?_
  refine Z_bipush hk dX3_init_5 (by decide) ?_
  refine Z_putI hk hA fl_3_9 dX3_init_7 ob_38.1 ob_38.2.1 (by decide) ob_38.2.2.2 ft_3_3 (by decide) (by decide) ?_
  refine Z_fg (Wq.put hq (by decide) (by decide)) (fun m1 hq => ?_)
  refine Z_aload0 hk dX3_init_10 ?_
  refine Z_iconst hk dX3_init_11 ?_
  refine Z_putI hk hA fl_3_15 dX3_init_12 ob_38.1 ob_38.2.1 (by decide) ob_38.2.2.2 ft_3_5 (by decide) (by decide) ?_
  refine Z_fg (Wq.put hq (by decide) (by decide)) (fun m2 hq => ?_)
  refine Z_aload0 hk dX3_init_15 ?_
  refine Z_bipush hk dX3_init_16 (by decide) ?_
  refine Z_newa hk (k := 101) (N := 14) (t0 := 1) rfl (by decide +kernel) rfl rfl lk_a101 (by decide) rfl (by decide) (by decide) rfl dX3_init_18 (hq.2 39 (Or.inl (Nat.le_refl _))) (rq_none (by decide +kernel)) ⟨by decide, by decide⟩ ?_
  show Zj κ δ (ad0 δ) (rq 42) Q 1 (40, 1, 14) 20 [some (.ref (ad0 δ 38))] [.ref (ad0 δ 39), .ref (ad0 δ 38)] m2
  replace hq := hq.more
  refine Z_putRF hk hn hA fl_3_18 (fun q h => by cases (Option.some.inj h : (RX3, TX3, 16) = q); rfl) dX3_init_20 ob_38.1 ob_38.2.1 (by decide) ob_38.2.2.2 ft_3_7 (show rq 43 38 7 = some 39 from by decide +kernel) (rq_step (by decide +kernel)) ?_
  refine Z_aload0 hk dX3_init_23 ?_
  refine Z_iconst hk dX3_init_24 ?_
  refine Z_newa hk (k := 102) (N := 4) (t0 := 2) rfl (by decide +kernel) rfl rfl lk_a102 (by decide) rfl (by decide) (by decide) rfl dX3_init_25 (hq.2 40 (Or.inl (Nat.le_refl _))) (rq_none (by decide +kernel)) ⟨by decide, by decide⟩ ?_
  show Zj κ δ (ad0 δ) (rq 43) Q 1 (41, 2, 18) 27 [some (.ref (ad0 δ 38))] [.ref (ad0 δ 40), .ref (ad0 δ 38)] m2
  replace hq := hq.more
  refine Z_putRF hk hn hA fl_3_22 (fun q h => by cases (Option.some.inj h : (RX3, TX3, 16) = q); rfl) dX3_init_27 ob_38.1 ob_38.2.1 (by decide) ob_38.2.2.2 ft_3_8 (show rq 44 38 8 = some 40 from by decide +kernel) (rq_step (by decide +kernel)) ?_
  refine Z_aload0 hk dX3_init_30 ?_
  refine Z_iconst hk dX3_init_31 ?_
  refine Z_newa hk (k := 100) (N := 4) (t0 := 0) rfl (by decide +kernel) rfl rfl lk_a100 (by decide) rfl (by decide) (by decide) rfl dX3_init_32 (hq.2 41 (Or.inl (Nat.le_refl _))) (rq_none (by decide +kernel)) ⟨by decide, by decide⟩ ?_
  show Zj κ δ (ad0 δ) (rq 44) Q 1 (42, 3, 22) 34 [some (.ref (ad0 δ 38))] [.ref (ad0 δ 41), .ref (ad0 δ 38)] m2
  replace hq := hq.more
  refine Z_putRF hk hn hA fl_3_26 (fun q h => by cases (Option.some.inj h : (RX3, TX3, 16) = q); rfl) dX3_init_34 ob_38.1 ob_38.2.1 (by decide) ob_38.2.2.2 ft_3_9 (show rq 45 38 9 = some 41 from by decide +kernel) (rq_step (by decide +kernel)) ?_
  refine Z_aload0 hk dX3_init_37 ?_
  refine Z_bipush hk dX3_init_38 (by decide) ?_
  refine Z_newa hk (k := 100) (N := 20) (t0 := 0) rfl (by decide +kernel) rfl rfl lk_a100 (by decide) rfl (by decide) (by decide) rfl dX3_init_40 (hq.2 42 (Or.inl (Nat.le_refl _))) (rq_none (by decide +kernel)) ⟨by decide, by decide⟩ ?_
  show Zj κ δ (ad0 δ) (rq 45) Q 1 (43, 4, 42) 42 [some (.ref (ad0 δ 38))] [.ref (ad0 δ 42), .ref (ad0 δ 38)] m2
  replace hq := hq.more
  refine Z_putRF hk hn hA fl_3_30 (fun q h => by cases (Option.some.inj h : (RX3, TX3, 16) = q); rfl) dX3_init_42 ob_38.1 ob_38.2.1 (by decide) ob_38.2.2.2 ft_3_10 (show rq 46 38 10 = some 42 from by decide +kernel) (rq_step (by decide +kernel)) ?_
  refine Z_aload0 hk dX3_init_45 ?_
  refine Z_bipush hk dX3_init_46 (by decide) ?_
  refine Z_newa hk (k := 100) (N := 20) (t0 := 0) rfl (by decide +kernel) rfl rfl lk_a100 (by decide) rfl (by decide) (by decide) rfl dX3_init_48 (hq.2 43 (Or.inl (Nat.le_refl _))) (rq_none (by decide +kernel)) ⟨by decide, by decide⟩ ?_
  show Zj κ δ (ad0 δ) (rq 46) Q 1 (44, 5, 62) 50 [some (.ref (ad0 δ 38))] [.ref (ad0 δ 43), .ref (ad0 δ 38)] m2
  replace hq := hq.more
  refine Z_putRF hk hn hA fl_3_33 (fun q h => by cases (Option.some.inj h : (RX3, TX3, 16) = q); rfl) dX3_init_50 ob_38.1 ob_38.2.1 (by decide) ob_38.2.2.2 ft_3_11 (show rq 47 38 11 = some 43 from by decide +kernel) (rq_step (by decide +kernel)) ?_
  refine Z_aload0 hk dX3_init_53 ?_
  refine Z_bipush hk dX3_init_54 (by decide) ?_
  refine Z_newa hk (k := 100) (N := 20) (t0 := 0) rfl (by decide +kernel) rfl rfl lk_a100 (by decide) rfl (by decide) (by decide) rfl dX3_init_56 (hq.2 44 (Or.inl (Nat.le_refl _))) (rq_none (by decide +kernel)) ⟨by decide, by decide⟩ ?_
  show Zj κ δ (ad0 δ) (rq 47) Q 1 (45, 6, 82) 58 [some (.ref (ad0 δ 38))] [.ref (ad0 δ 44), .ref (ad0 δ 38)] m2
  replace hq := hq.more
  refine Z_putRF hk hn hA fl_3_36 (fun q h => by cases (Option.some.inj h : (RX3, TX3, 16) = q); rfl) dX3_init_58 ob_38.1 ob_38.2.1 (by decide) ob_38.2.2.2 ft_3_12 (show rq 48 38 12 = some 44 from by decide +kernel) (rq_step (by decide +kernel)) ?_
  refine Z_aload0 hk dX3_init_61 ?_
  refine Z_sipush hk dX3_init_62 (by decide) ?_
  refine Z_newa hk (k := 100) (N := 360) (t0 := 0) rfl (by decide +kernel) rfl rfl lk_a100 (by decide) rfl (by decide) (by decide) rfl dX3_init_65 (hq.2 45 (Or.inl (Nat.le_refl _))) (rq_none (by decide +kernel)) ⟨by decide, by decide⟩ ?_
  show Zj κ δ (ad0 δ) (rq 48) Q 1 (46, 7, 442) 67 [some (.ref (ad0 δ 38))] [.ref (ad0 δ 45), .ref (ad0 δ 38)] m2
  replace hq := hq.more
  refine Z_putRF hk hn hA fl_3_39 (fun q h => by cases (Option.some.inj h : (RX3, TX3, 16) = q); rfl) dX3_init_67 ob_38.1 ob_38.2.1 (by decide) ob_38.2.2.2 ft_3_13 (show rq 49 38 13 = some 45 from by decide +kernel) (rq_step (by decide +kernel)) ?_
  refine Z_aload0 hk dX3_init_70 ?_
  refine Z_sipush hk dX3_init_71 (by decide) ?_
  refine Z_newa hk (k := 100) (N := 700) (t0 := 0) rfl (by decide +kernel) rfl rfl lk_a100 (by decide) rfl (by decide) (by decide) rfl dX3_init_74 (hq.2 46 (Or.inl (Nat.le_refl _))) (rq_none (by decide +kernel)) ⟨by decide, by decide⟩ ?_
  show Zj κ δ (ad0 δ) (rq 49) Q 1 (47, 8, 1142) 76 [some (.ref (ad0 δ 38))] [.ref (ad0 δ 46), .ref (ad0 δ 38)] m2
  replace hq := hq.more
  refine Z_putRF hk hn hA fl_3_42 (fun q h => by cases (Option.some.inj h : (RX3, TX3, 16) = q); rfl) dX3_init_76 ob_38.1 ob_38.2.1 (by decide) ob_38.2.2.2 ft_3_14 (show rq 50 38 14 = some 46 from by decide +kernel) (rq_step (by decide +kernel)) ?_
  refine Z_aload0 hk dX3_init_79 ?_
  refine Z_bipush hk dX3_init_80 (by decide) ?_
  refine Z_newa hk (k := 100) (N := 8) (t0 := 0) rfl (by decide +kernel) rfl rfl lk_a100 (by decide) rfl (by decide) (by decide) rfl dX3_init_82 (hq.2 47 (Or.inl (Nat.le_refl _))) (rq_none (by decide +kernel)) ⟨by decide, by decide⟩ ?_
  show Zj κ δ (ad0 δ) (rq 50) Q 1 (48, 9, 1150) 84 [some (.ref (ad0 δ 38))] [.ref (ad0 δ 47), .ref (ad0 δ 38)] m2
  replace hq := hq.more
  refine Z_putRF hk hn hA fl_3_45 (fun q h => by cases (Option.some.inj h : (RX3, TX3, 16) = q); rfl) dX3_init_84 ob_38.1 ob_38.2.1 (by decide) ob_38.2.2.2 ft_3_15 (show rq 51 38 15 = some 47 from by decide +kernel) (rq_step (by decide +kernel)) ?_
  exact Z_vret hk hA hQ dX3_init_87 ⟨rfl, rfl, rfl, hq⟩
set_option maxRecDepth 20000 in
set_option maxHeartbeats 4000000 in
theorem k_X8_init_0 (l : Launch) (δ : Dp) (hz : NS δ) (base M : Mem) (hq : Wq base 1 M) : Mg l δ yX8_init cX8_init 5 none { frames := 2, cells := 47, slots := 6879, locals := 42 } 1 48 (ad0 δ) (rq 0) [.ref (ad0 δ 0)] M (fun v ad' rt' M' => v = none ∧ ad' = ad0 δ ∧ rt' = rq 52 ∧ Wq (up (up (up (up (up (up (up (up (up (up base 21 3 9) 21 5 (-1)) 20 2 0) 20 3 0) 20 4 (-1)) 38 3 9) 38 5 (-1)) 0 8 0) 0 9 0) 0 10 (-1)) 48 M') := by
  refine Mg.of (rm := { frames := 2, cells := 47, slots := 6879, locals := 42 }) (by decide) (Nat.le_of_ble_eq_true rfl) fun κ _ hk hn => ?_
  have hA := ad0_ok δ
  generalize hQ : Qg κ δ 48 _ _ _ = Q
  show Zj κ δ (ad0 δ) (rq 0) Q 5 (1, 0, 0) 0 [some (.ref (ad0 δ 0)), none, none, none, none] [] M
  refine Z_aload0 hk dX8_init_0 ?_
  refine Z_obj hk (mg 23 (by decide +kernel) rfl) dX8_init_1 lk_oi lk_oc ⟨by decide, by decide⟩ (Nat.le_of_ble_eq_true rfl) ?_
  refine Z_new hk (k := 2) (N := 7) (C := RX2) (by decide +kernel) (by decide) (by decide) (mg 26 (by decide +kernel) rfl) (mg 27 (by decide +kernel) rfl) (mg 2 (by decide +kernel) rfl) ⟨_, rfl⟩ rfl dX8_init_4 (hq.2 1 (Or.inl (Nat.le_refl _))) (rq_none (by decide +kernel)) ⟨by decide, by decide⟩ ?_
  show Zj κ δ (ad0 δ) (rq 0) Q 5 (2, 1, 7) 7 [some (.ref (ad0 δ 0)), none, none, none, none] [.ref (ad0 δ 1)] M
  replace hq := hq.more
  refine Z_dup1 hk rfl dX8_init_7 ?_
  refine Z_callIN hk hz (n := 0) (y := yX2_init) (bytes := cX2_init) (host := RX8) (k_X2_init_1 κ.2.1 δ hz _ _ hq) (mc1 30 rfl) (mg 2 (by decide +kernel) rfl) (mg 29 (by decide +kernel) rfl) rfl ⟨by decide, by decide, by decide +kernel⟩ (List.mem_of_getElem? (i := 28) (by decide +kernel)) dX8_init_8 rfl ⟨by decide, by decide⟩ rfl (Nat.le_of_ble_eq_true rfl) ⟨by decide, by decide⟩ (fun v ad' rt' M' _ h => ?_)
  clear hq
  obtain ⟨rfl, rfl, rfl, hq⟩ := h
  show Zj κ δ (ad0 δ) (rq 6) Q 5 (8, 7, 1513) 11 [some (.ref (ad0 δ 0)), none, none, none, none] [.ref (ad0 δ 1)] _
  refine Z_astore1 hk rfl (by decide) dX8_init_11 ?_
  refine Z_new hk (k := 0) (N := 1) (C := RX0) (by decide +kernel) (by decide) (by decide) (mg 63 (by decide +kernel) rfl) (mg 64 (by decide +kernel) rfl) (mg 3 (by decide +kernel) rfl) ⟨_, rfl⟩ rfl dX8_init_12 (hq.2 8 (Or.inl (Nat.le_refl _))) (rq_none (by decide +kernel)) ⟨by decide, by decide⟩ ?_
  show Zj κ δ (ad0 δ) (rq 6) Q 5 (9, 8, 1514) 15 [some (.ref (ad0 δ 0)), some (.ref (ad0 δ 1)), none, none, none] [.ref (ad0 δ 8)] M'
  replace hq := hq.more
  refine Z_dup1 hk rfl dX8_init_15 ?_
  refine Z_callIN hk hz (n := 0) (y := yX0_init) (bytes := cX0_init) (host := RX8) (k_X0_init_8 κ.2.1 δ hz _ _ hq) (mc1 67 rfl) (mg 3 (by decide +kernel) rfl) (mg 66 (by decide +kernel) rfl) rfl ⟨by decide, by decide, by decide +kernel⟩ (List.mem_of_getElem? (i := 65) (by decide +kernel)) dX8_init_16 rfl ⟨by decide, by decide⟩ rfl (Nat.le_of_ble_eq_true rfl) ⟨by decide, by decide⟩ (fun v ad' rt' M' _ h => ?_)
  clear hq
  obtain ⟨rfl, rfl, rfl, hq⟩ := h
  show Zj κ δ (ad0 δ) (rq 7) Q 5 (10, 9, 1545) 19 [some (.ref (ad0 δ 0)), some (.ref (ad0 δ 1)), none, none, none] [.ref (ad0 δ 8)] _
  refine Z_astore2 hk rfl (by decide) dX8_init_19 ?_
  refine Z_new hk (k := 7) (N := 11) (C := RX7) (by decide +kernel) (by decide) (by decide) (mg 74 (by decide +kernel) rfl) (mg 75 (by decide +kernel) rfl) (mg 4 (by decide +kernel) rfl) ⟨_, rfl⟩ rfl dX8_init_20 (hq.2 10 (Or.inl (Nat.le_refl _))) (rq_none (by decide +kernel)) ⟨by decide, by decide⟩ ?_
  show Zj κ δ (ad0 δ) (rq 7) Q 5 (11, 10, 1556) 23 [some (.ref (ad0 δ 0)), some (.ref (ad0 δ 1)), some (.ref (ad0 δ 8)), none, none] [.ref (ad0 δ 10)] M'
  replace hq := hq.more
  refine Z_dup1 hk rfl dX8_init_23 ?_
  refine Z_aload1 hk dX8_init_24 ?_
  refine Z_aload2 hk dX8_init_25 ?_
  refine Z_callI hk (n := 2) (y := yX7_init) (bytes := cX7_init) (k_X7_init_10 κ.2.1 δ hz _ _ hq) (mc1 78 rfl) (mg 4 (by decide +kernel) rfl) (mg 77 (by decide +kernel) rfl) rfl ⟨by decide, by decide, by decide +kernel⟩ (ml_X8_17) dX8_init_26 rfl ⟨by decide, by decide⟩ rfl (Nat.le_of_ble_eq_true rfl) ⟨by decide, by decide⟩ (fun v ad' rt' M' _ h => ?_)
  clear hq
  obtain ⟨rfl, rfl, rfl, hq⟩ := h
  show Zj κ δ (ad0 δ) (rq 11) Q 5 (13, 12, 1676) 29 [some (.ref (ad0 δ 0)), some (.ref (ad0 δ 1)), some (.ref (ad0 δ 8)), none, none] [.ref (ad0 δ 10)] _
  refine Z_astore3 hk rfl (by decide) dX8_init_29 ?_
  refine Z_new hk (k := 5) (N := 6) (C := RX5) (by decide +kernel) (by decide) (by decide) (mg 117 (by decide +kernel) rfl) (mg 118 (by decide +kernel) rfl) (mg 5 (by decide +kernel) rfl) ⟨_, rfl⟩ rfl dX8_init_30 (hq.2 13 (Or.inl (Nat.le_refl _))) (rq_none (by decide +kernel)) ⟨by decide, by decide⟩ ?_
  show Zj κ δ (ad0 δ) (rq 11) Q 5 (14, 13, 1682) 33 [some (.ref (ad0 δ 0)), some (.ref (ad0 δ 1)), some (.ref (ad0 δ 8)), some (.ref (ad0 δ 10)), none] [.ref (ad0 δ 13)] M'
  replace hq := hq.more
  refine Z_dup1 hk rfl dX8_init_33 ?_
  refine Z_aload1 hk dX8_init_34 ?_
  refine Z_callI hk (n := 1) (y := yX5_init) (bytes := cX5_init) (k_X5_init_13 κ.2.1 δ hz _ _ hq) (mc1 121 rfl) (mg 5 (by decide +kernel) rfl) (mg 120 (by decide +kernel) rfl) rfl ⟨by decide, by decide, by decide +kernel⟩ (ml_X8_22) dX8_init_35 rfl ⟨by decide, by decide⟩ rfl (Nat.le_of_ble_eq_true rfl) ⟨by decide, by decide⟩ (fun v ad' rt' M' _ h => ?_)
  clear hq
  obtain ⟨rfl, rfl, rfl, hq⟩ := h
  show Zj κ δ (ad0 δ) (rq 16) Q 5 (18, 17, 3552) 38 [some (.ref (ad0 δ 0)), some (.ref (ad0 δ 1)), some (.ref (ad0 δ 8)), some (.ref (ad0 δ 10)), none] [.ref (ad0 δ 13)] _
  refine Z_astore4 hk rfl (by decide) dX8_init_38 ?_
  refine Z_aload0 hk dX8_init_40 ?_
  refine Z_aload1 hk dX8_init_41 ?_
  refine Z_putRF hk hn hA fl_8_25 (fun q h => by cases (Option.some.inj h : (RX8, TX8, 11) = q); rfl) dX8_init_42 ob_0.1 ob_0.2.1 (by decide) ob_0.2.2.2 ft_8_1 (show rq 17 0 1 = some 1 from by decide +kernel) (rq_step (by decide +kernel)) ?_
  refine Z_aload0 hk dX8_init_45 ?_
  refine Z_aload2 hk dX8_init_46 ?_
  refine Z_putRF hk hn hA fl_8_29 (fun q h => by cases (Option.some.inj h : (RX8, TX8, 11) = q); rfl) dX8_init_47 ob_0.1 ob_0.2.1 (by decide) ob_0.2.2.2 ft_8_2 (show rq 18 0 2 = some 8 from by decide +kernel) (rq_step (by decide +kernel)) ?_
  refine Z_aload0 hk dX8_init_50 ?_
  refine Z_aload3 hk dX8_init_51 ?_
  refine Z_putRF hk hn hA fl_8_33 (fun q h => by cases (Option.some.inj h : (RX8, TX8, 11) = q); rfl) dX8_init_52 ob_0.1 ob_0.2.1 (by decide) ob_0.2.2.2 ft_8_3 (show rq 19 0 3 = some 10 from by decide +kernel) (rq_step (by decide +kernel)) ?_
  refine Z_aload0 hk dX8_init_55 ?_
  refine Z_aload4 hk dX8_init_56 ?_
  refine Z_putRF hk hn hA fl_8_37 (fun q h => by cases (Option.some.inj h : (RX8, TX8, 11) = q); rfl) dX8_init_58 ob_0.1 ob_0.2.1 (by decide) ob_0.2.2.2 ft_8_4 (show rq 20 0 4 = some 13 from by decide +kernel) (rq_step (by decide +kernel)) ?_
  refine Z_aload0 hk dX8_init_61 ?_
  refine Z_new hk (k := 1) (N := 4) (C := RX1) (by decide +kernel) (by decide) (by decide) (mg 144 (by decide +kernel) rfl) (mg 145 (by decide +kernel) rfl) (mg 6 (by decide +kernel) rfl) ⟨_, rfl⟩ rfl dX8_init_62 (hq.2 18 (Or.inl (Nat.le_refl _))) (rq_none (by decide +kernel)) ⟨by decide, by decide⟩ ?_
  show Zj κ δ (ad0 δ) (rq 20) Q 5 (19, 18, 3556) 65 [some (.ref (ad0 δ 0)), some (.ref (ad0 δ 1)), some (.ref (ad0 δ 8)), some (.ref (ad0 δ 10)), some (.ref (ad0 δ 13))] [.ref (ad0 δ 18), .ref (ad0 δ 0)] M'
  replace hq := hq.more
  refine Z_dup1 hk rfl dX8_init_65 ?_
  refine Z_aload3 hk dX8_init_66 ?_
  refine Z_aload4 hk dX8_init_67 ?_
  refine Z_callI hk (n := 2) (y := yX1_init) (bytes := cX1_init) (k_X1_init_18 κ.2.1 δ hz _ _ hq) (mc1 148 rfl) (mg 6 (by decide +kernel) rfl) (mg 147 (by decide +kernel) rfl) rfl ⟨by decide, by decide, by decide +kernel⟩ (ml_X8_43) dX8_init_69 rfl ⟨by decide, by decide⟩ rfl (Nat.le_of_ble_eq_true rfl) ⟨by decide, by decide⟩ (fun v ad' rt' M' _ h => ?_)
  clear hq
  obtain ⟨rfl, rfl, rfl, hq⟩ := h
  show Zj κ δ (ad0 δ) (rq 23) Q 5 (20, 19, 3620) 72 [some (.ref (ad0 δ 0)), some (.ref (ad0 δ 1)), some (.ref (ad0 δ 8)), some (.ref (ad0 δ 10)), some (.ref (ad0 δ 13))] [.ref (ad0 δ 18), .ref (ad0 δ 0)] _
  refine Z_putRF hk hn hA fl_8_46 (fun q h => by cases (Option.some.inj h : (RX8, TX8, 11) = q); rfl) dX8_init_72 ob_0.1 ob_0.2.1 (by decide) ob_0.2.2.2 ft_8_5 (show rq 24 0 5 = some 18 from by decide +kernel) (rq_step (by decide +kernel)) ?_
  refine Z_aload0 hk dX8_init_75 ?_
  refine Z_new hk (k := 4) (N := 10) (C := RX4) (by decide +kernel) (by decide) (by decide) (mg 163 (by decide +kernel) rfl) (mg 164 (by decide +kernel) rfl) (mg 7 (by decide +kernel) rfl) ⟨_, rfl⟩ rfl dX8_init_76 (hq.2 20 (Or.inl (Nat.le_refl _))) (rq_none (by decide +kernel)) ⟨by decide, by decide⟩ ?_
  show Zj κ δ (ad0 δ) (rq 24) Q 5 (21, 20, 3630) 79 [some (.ref (ad0 δ 0)), some (.ref (ad0 δ 1)), some (.ref (ad0 δ 8)), some (.ref (ad0 δ 10)), some (.ref (ad0 δ 13))] [.ref (ad0 δ 20), .ref (ad0 δ 0)] M'
  replace hq := hq.more
  refine Z_dup1 hk rfl dX8_init_79 ?_
  refine Z_new hk (k := 3) (N := 16) (C := RX3) (by decide +kernel) (by decide) (by decide) (mg 165 (by decide +kernel) rfl) (mg 166 (by decide +kernel) rfl) (mg 8 (by decide +kernel) rfl) ⟨_, rfl⟩ rfl dX8_init_80 (hq.2 21 (Or.inl (Nat.le_refl _))) (rq_none (by decide +kernel)) ⟨by decide, by decide⟩ ?_
  show Zj κ δ (ad0 δ) (rq 24) Q 5 (22, 21, 3646) 83 [some (.ref (ad0 δ 0)), some (.ref (ad0 δ 1)), some (.ref (ad0 δ 8)), some (.ref (ad0 δ 10)), some (.ref (ad0 δ 13))] [.ref (ad0 δ 21), .ref (ad0 δ 20), .ref (ad0 δ 20), .ref (ad0 δ 0)] M'
  replace hq := hq.more
  refine Z_dup1 hk rfl dX8_init_83 ?_
  refine Z_callIN hk hz (n := 0) (y := yX3_init) (bytes := cX3_init) (host := RX8) (k_X3_init_21 κ.2.1 δ hz _ _ hq) (mc1 169 rfl) (mg 8 (by decide +kernel) rfl) (mg 168 (by decide +kernel) rfl) rfl ⟨by decide, by decide, by decide +kernel⟩ (List.mem_of_getElem? (i := 167) (by decide +kernel)) dX8_init_84 rfl ⟨by decide, by decide⟩ rfl (Nat.le_of_ble_eq_true rfl) ⟨by decide, by decide⟩ (fun v ad' rt' M' _ h => ?_)
  clear hq
  obtain ⟨rfl, rfl, rfl, hq⟩ := h
  show Zj κ δ (ad0 δ) (rq 33) Q 5 (31, 30, 4796) 87 [some (.ref (ad0 δ 0)), some (.ref (ad0 δ 1)), some (.ref (ad0 δ 8)), some (.ref (ad0 δ 10)), some (.ref (ad0 δ 13))] [.ref (ad0 δ 21), .ref (ad0 δ 20), .ref (ad0 δ 20), .ref (ad0 δ 0)] _
  refine Z_callI hk (n := 1) (y := yX4_init) (bytes := cX4_init) (k_X4_init_20 κ.2.1 δ hz _ _ hq) (mc2 4 rfl) (mg 7 (by decide +kernel) rfl) (mg 243 (by decide +kernel) rfl) rfl ⟨by decide, by decide, by decide +kernel⟩ (ml_X8_55) dX8_init_87 rfl ⟨by decide, by decide⟩ rfl (Nat.le_of_ble_eq_true rfl) ⟨by decide, by decide⟩ (fun v ad' rt' M' _ h => ?_)
  clear hq
  obtain ⟨rfl, rfl, rfl, hq⟩ := h
  show Zj κ δ (ad0 δ) (rq 35) Q 5 (32, 31, 5496) 90 [some (.ref (ad0 δ 0)), some (.ref (ad0 δ 1)), some (.ref (ad0 δ 8)), some (.ref (ad0 δ 10)), some (.ref (ad0 δ 13))] [.ref (ad0 δ 20), .ref (ad0 δ 0)] _
  refine Z_putRF hk hn hA fl_8_58 (fun q h => by cases (Option.some.inj h : (RX8, TX8, 11) = q); rfl) dX8_init_90 ob_0.1 ob_0.2.1 (by decide) ob_0.2.2.2 ft_8_0 (show rq 36 0 0 = some 20 from by decide +kernel) (rq_step (by decide +kernel)) ?_
  refine Z_aload0 hk dX8_init_93 ?_
  refine Z_new hk (k := 6) (N := 7) (C := RX6) (by decide +kernel) (by decide) (by decide) (mg 281 (by decide +kernel) rfl) (mg 282 (by decide +kernel) rfl) (mg 9 (by decide +kernel) rfl) ⟨_, rfl⟩ rfl dX8_init_94 (hq.2 32 (Or.inl (Nat.le_refl _))) (rq_none (by decide +kernel)) ⟨by decide, by decide⟩ ?_
  show Zj κ δ (ad0 δ) (rq 36) Q 5 (33, 32, 5503) 97 [some (.ref (ad0 δ 0)), some (.ref (ad0 δ 1)), some (.ref (ad0 δ 8)), some (.ref (ad0 δ 10)), some (.ref (ad0 δ 13))] [.ref (ad0 δ 32), .ref (ad0 δ 0)] M'
  replace hq := hq.more
  refine Z_dup1 hk rfl dX8_init_97 ?_
  refine Z_callIN hk hz (n := 0) (y := yX6_init) (bytes := cX6_init) (host := RX8) (k_X6_init_32 κ.2.1 δ hz _ _ hq) (mc2 45 rfl) (mg 9 (by decide +kernel) rfl) (mg 284 (by decide +kernel) rfl) rfl ⟨by decide, by decide, by decide +kernel⟩ (List.mem_of_getElem? (i := 283) (by decide +kernel)) dX8_init_98 rfl ⟨by decide, by decide⟩ rfl (Nat.le_of_ble_eq_true rfl) ⟨by decide, by decide⟩ (fun v ad' rt' M' _ h => ?_)
  clear hq
  obtain ⟨rfl, rfl, rfl, hq⟩ := h
  show Zj κ δ (ad0 δ) (rq 41) Q 5 (38, 37, 5713) 101 [some (.ref (ad0 δ 0)), some (.ref (ad0 δ 1)), some (.ref (ad0 δ 8)), some (.ref (ad0 δ 10)), some (.ref (ad0 δ 13))] [.ref (ad0 δ 32), .ref (ad0 δ 0)] _
  refine Z_putRF hk hn hA fl_8_65 (fun q h => by cases (Option.some.inj h : (RX8, TX8, 11) = q); rfl) dX8_init_101 ob_0.1 ob_0.2.1 (by decide) ob_0.2.2.2 ft_8_6 (show rq 42 0 6 = some 32 from by decide +kernel) (rq_step (by decide +kernel)) ?_
  refine Z_aload0 hk dX8_init_104 ?_
  refine Z_new hk (k := 3) (N := 16) (C := RX3) (by decide +kernel) (by decide) (by decide) (mg 165 (by decide +kernel) rfl) (mg 166 (by decide +kernel) rfl) (mg 8 (by decide +kernel) rfl) ⟨_, rfl⟩ rfl dX8_init_105 (hq.2 38 (Or.inl (Nat.le_refl _))) (rq_none (by decide +kernel)) ⟨by decide, by decide⟩ ?_
  show Zj κ δ (ad0 δ) (rq 42) Q 5 (39, 38, 5729) 108 [some (.ref (ad0 δ 0)), some (.ref (ad0 δ 1)), some (.ref (ad0 δ 8)), some (.ref (ad0 δ 10)), some (.ref (ad0 δ 13))] [.ref (ad0 δ 38), .ref (ad0 δ 0)] M'
  replace hq := hq.more
  refine Z_dup1 hk rfl dX8_init_108 ?_
  refine Z_callIN hk hz (n := 0) (y := yX3_init) (bytes := cX3_init) (host := RX8) (k_X3_init_38 κ.2.1 δ hz _ _ hq) (mc1 169 rfl) (mg 8 (by decide +kernel) rfl) (mg 168 (by decide +kernel) rfl) rfl ⟨by decide, by decide, by decide +kernel⟩ (List.mem_of_getElem? (i := 167) (by decide +kernel)) dX8_init_109 rfl ⟨by decide, by decide⟩ rfl (Nat.le_of_ble_eq_true rfl) ⟨by decide, by decide⟩ (fun v ad' rt' M' _ h => ?_)
  clear hq
  obtain ⟨rfl, rfl, rfl, hq⟩ := h
  show Zj κ δ (ad0 δ) (rq 51) Q 5 (48, 47, 6879) 112 [some (.ref (ad0 δ 0)), some (.ref (ad0 δ 1)), some (.ref (ad0 δ 8)), some (.ref (ad0 δ 10)), some (.ref (ad0 δ 13))] [.ref (ad0 δ 38), .ref (ad0 δ 0)] _
  refine Z_putR hk hA fl_8_69 dX8_init_112 ob_0.1 ob_0.2.1 (by decide) ob_0.2.2.2 ft_8_7 (show rq 52 0 7 = some 38 from by decide +kernel) (rq_step (by decide +kernel)) ?_
  refine Z_aload0 hk dX8_init_115 ?_
  refine Z_iconst hk dX8_init_116 ?_
  refine Z_putZ hk hA fl_8_73 dX8_init_117 ob_0.1 ob_0.2.1 (by decide) ob_0.2.2.2 ft_8_8 (by decide) (by decide) ?_
  refine Z_fg (Wq.put hq (by decide) (by decide)) (fun m10 hq => ?_)
  refine Z_aload0 hk dX8_init_120 ?_
  refine Z_iconst hk dX8_init_121 ?_
  refine Z_putZ hk hA fl_8_77 dX8_init_122 ob_0.1 ob_0.2.1 (by decide) ob_0.2.2.2 ft_8_9 (by decide) (by decide) ?_
  refine Z_fg (Wq.put hq (by decide) (by decide)) (fun m11 hq => ?_)
  refine Z_aload0 hk dX8_init_125 ?_
  refine Z_iconst hk dX8_init_126 ?_
  refine Z_putI hk hA fl_8_80 dX8_init_127 ob_0.1 ob_0.2.1 (by decide) ob_0.2.2.2 ft_8_10 (by decide) (by decide) ?_
  refine Z_fg (Wq.put hq (by decide) (by decide)) (fun m12 hq => ?_)
  exact Z_vret hk hA hQ dX8_init_130 ⟨rfl, rfl, rfl, hq⟩
