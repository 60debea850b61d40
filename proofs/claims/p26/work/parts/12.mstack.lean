def Imp (P Q : Prop) : Prop := P → Q
def ef (c : Int) : Int := if 100 ≤ c then 1 else if c = 16 then 0 else -1
def bn (c : Int) : Int := if c = 1 ∨ c = 2 ∨ c = 3 ∨ c = 4 ∨ c = 14 ∨ c = 15 ∨ c = 23 ∨ c = 24 then 1 else 0
def dpt (f : Nat → Int) (a : Nat) : Nat → Int
  | 0 => 0
  | n + 1 => dpt f a n + ef (f (a + n))
def Bc (f : Nat → Int) : Nat → Int
  | 0 => 0
  | n + 1 => Bc f n + bn (f n)
def okc (c : Int) : Prop := (1000 ≤ c ∧ c ≤ 10999) ∨ (180 ≤ c ∧ c ≤ 183) ∨ (170 ≤ c ∧ c ≤ 179) ∨ (160 ≤ c ∧ c ≤ 165) ∨ (150 ≤ c ∧ c ≤ 153) ∨ (140 ≤ c ∧ c ≤ 143) ∨ (130 ≤ c ∧ c ≤ 133) ∨ (120 ≤ c ∧ c ≤ 123) ∨ (110 ≤ c ∧ c ≤ 113) ∨ (100 ≤ c ∧ c ≤ 103) ∨ (1 ≤ c ∧ c < 100)
def WF (f : Nat → Int) (a n : Nat) : Prop := ∀ j, j < n → okc (f (a + j)) ∧ (f (a + j) < 100 → f (a + j) ≠ 16 → 2 ≤ dpt f a j) ∧ (f (a + j) = 16 → 1 ≤ dpt f a j)
theorem dpt_up {f : Nat → Int} {a k : Nat} {v : Int} : ∀ n, a + n ≤ k → dpt (upr f k v) a n = dpt f a n := by
  intro n
  induction n with
  | zero => intro _; rfl
  | succ n ih =>
    intro h
    show dpt (upr f k v) a n + ef (upr f k v (a + n)) = dpt f a n + ef (f (a + n))
    rw [ih (by omega), upr_ne (by omega)]
theorem Bc_up {f : Nat → Int} {k : Nat} {v : Int} : ∀ n, n ≤ k → Bc (upr f k v) n = Bc f n := by
  intro n
  induction n with
  | zero => intro _; rfl
  | succ n ih =>
    intro h
    show Bc (upr f k v) n + bn (upr f k v n) = Bc f n + bn (f n)
    rw [ih (by omega), upr_ne (by omega)]
theorem bn_in (c : Int) : 0 ≤ bn c ∧ bn c ≤ 1 := by unfold bn; split <;> omega
theorem Bc_nn (f : Nat → Int) : ∀ n, 0 ≤ Bc f n := by
  intro n
  induction n with
  | zero => exact Int.le_refl 0
  | succ n ih =>
    have := bn_in (f n)
    show 0 ≤ Bc f n + bn (f n)
    omega
/-- a place in the codes, and what stands ahead of it -/
abbrev GA : Type := Nat × (Nat → Int)
/-- the codes from a on are good for a stack, and as deep as what waits asks, and s more; those ahead of a are as they were -/
def RP (M : Mem) (a : GA) (s : Int) : Prop := 0 ≤ M 48 43 ∧ 0 ≤ M 48 45 ∧ (a.1 ≤ (M 48 43).toNat ∧ ∀ j, j < a.1 → M 82 j = a.2 j) ∧ WF (M 82) a.1 ((M 48 43).toNat - a.1) ∧ dpt (M 82) a.1 ((M 48 43).toNat - a.1) = Bc (M 83) (M 48 45).toNat + s
theorem RP.code {M M' : Mem} {a : GA} {s v : Int} (h : RP M a s) (e1 : M' 48 43 = M 48 43 + 1) (e2 : M' 82 = upr (M 82) (M 48 43).toNat v) (e3 : M' 83 = M 83) (e4 : M' 48 45 = M 48 45) (hv : okc v) (h1 : v < 100 → v ≠ 16 → 2 ≤ s) (h2 : v = 16 → 1 ≤ s) : RP M' a (s + ef v) := by
  obtain ⟨h3, h4, h5, h6, h7⟩ := h
  have h51 := h5.1
  have hn : (M' 48 43).toNat - a.1 = ((M 48 43).toNat - a.1) + 1 := by rw [e1]; omega
  have hb := Bc_nn (M 83) (M 48 45).toNat
  have hk : a.1 + ((M 48 43).toNat - a.1) = (M 48 43).toNat := by omega
  refine ⟨by rw [e1]; omega, by rw [e4]; exact h4, ⟨by rw [e1]; omega, fun j hj => by rw [e2, upr_ne (by omega)]; exact h5.2 j hj⟩, ?_, ?_⟩
  · rw [hn, e2]
    intro j hj
    rw [dpt_up j (by omega)]
    by_cases ej : j = (M 48 43).toNat - a.1
    · subst ej
      rw [hk, upr_eq, h7]
      exact ⟨hv, fun x y => by have := h1 x y; omega, fun x => by have := h2 x; omega⟩
    · rw [upr_ne (by omega)]
      exact h6 j (by omega)
  · rw [hn, e2, e3, e4]
    show dpt _ a.1 _ + ef (upr (M 82) (M 48 43).toNat v (a.1 + ((M 48 43).toNat - a.1))) = _
    rw [dpt_up _ (by omega), hk, upr_eq, h7]
    omega
theorem RP.waitPush {M M' : Mem} {a : GA} {s v : Int} (h : RP M a s) (e1 : M' 48 43 = M 48 43) (e2 : M' 82 = M 82) (e3 : M' 83 = upr (M 83) (M 48 45).toNat v) (e4 : M' 48 45 = M 48 45 + 1) : RP M' a (s - bn v) := by
  obtain ⟨h3, h4, h5, h6, h7⟩ := h
  have hn : (M' 48 45).toNat = (M 48 45).toNat + 1 := by rw [e4]; omega
  refine ⟨by rw [e1]; exact h3, by rw [e4]; omega, ⟨by rw [e1]; exact h5.1, fun j hj => by rw [e2]; exact h5.2 j hj⟩, by rw [e1, e2]; exact h6, ?_⟩
  rw [e1, e2, h7, hn, e3]
  show _ = Bc _ _ + bn _ + _
  rw [Bc_up _ (Nat.le_refl _), upr_eq]
  omega
theorem RP.waitPop {M M' : Mem} {a : GA} {s : Int} (h : RP M a s) (h1 : 1 ≤ M 48 45) (e1 : M' 48 43 = M 48 43) (e2 : M' 82 = M 82) (e3 : M' 83 = M 83) (e4 : M' 48 45 = M 48 45 - 1) : RP M' a (s + bn (M 83 (M 48 45 - 1).toNat)) := by
  obtain ⟨h3, h4, h5, h6, h7⟩ := h
  have hn : (M 48 45).toNat = (M' 48 45).toNat + 1 := by rw [e4]; omega
  have hq : (M 48 45 - 1).toNat = (M' 48 45).toNat := by rw [e4]
  refine ⟨by rw [e1]; exact h3, by rw [e4]; omega, ⟨by rw [e1]; exact h5.1, fun j hj => by rw [e2]; exact h5.2 j hj⟩, by rw [e1, e2]; exact h6, ?_⟩
  rw [e1, e2, h7, e3, hn, hq]
  show Bc _ _ + bn _ + s = _
  omega
theorem RP.drop {M M' : Mem} {a : GA} {s : Int} (h : RP M a s) (h1 : 1 ≤ M 48 45) (e1 : M' 48 43 = M 48 43 + 1) (e2 : M' 82 = upr (M 82) (M 48 43).toNat (M 83 (M 48 45 - 1).toNat)) (e3 : M' 83 = M 83) (e4 : M' 48 45 = M 48 45 - 1) (hs : 1 ≤ s) (hc : bn (M 83 (M 48 45 - 1).toNat) = 1 ∨ M 83 (M 48 45 - 1).toNat = 16) : RP M' a s := by
  have hp := RP.waitPop (M' := up M 48 45 (M 48 45 - 1)) h h1 (by simp only [upn]; rfl) (by simp only [upc]; rfl) (by simp only [upc]; rfl) (by simp only [upn]; rfl)
  have e5 : ef (M 83 (M 48 45 - 1).toNat) = - bn (M 83 (M 48 45 - 1).toNat) := by
    rcases hc with hc | hc
    · rw [hc]
      unfold bn at hc
      unfold ef
      split at hc
      · rw [if_neg (by omega), if_neg (by omega)]
      · omega
    · rw [hc]; rfl
  have ok : okc (M 83 (M 48 45 - 1).toNat) := by
    unfold okc
    rcases hc with hc | hc
    · unfold bn at hc
      split at hc <;> omega
    · omega
  have hq := RP.code (M' := M') (v := M 83 (M 48 45 - 1).toNat) hp (by rw [e1]; rfl) (by rw [e2]; rfl) (by rw [e3]; rfl) (by rw [e4]; rfl) ok (fun x y => by
    rcases hc with hc | hc
    · rw [hc]; omega
    · exact absurd hc y) (fun x => by have := bn_in (M 83 (M 48 45 - 1).toNat); omega)
  rw [e5] at hq
  have : s + bn (M 83 (M 48 45 - 1).toNat) + -bn (M 83 (M 48 45 - 1).toNat) = s := by omega
  rwa [this] at hq
theorem RP.same {M M' : Mem} {a : GA} {s : Int} (h : RP M a s) (e1 : M' 48 43 = M 48 43) (e2 : M' 82 = M 82) (e3 : M' 83 = M 83) (e4 : M' 48 45 = M 48 45) : RP M' a s := by
  unfold RP at *
  rw [e1, e2, e3, e4]
  exact h
set_option maxRecDepth 10000 in
theorem c_X9_puts (l : Launch) (δ : Dp) (ad : Nat → Nat) (M : Mem) (hA : okA δ ad) (v : Int) (q0 : 0 ≤ (M 48 43) ∧ (M 48 43) < 800) (i_v : -2147483648 ≤ v ∧ v ≤ 2147483647) : Mv l δ yX9_puts cX9_puts 2 none 0 0 ad rs [.ref (ad 48), iv v] M (fun M' => ((M' 48 43) = (M 48 43) + 1) ∧ (∀ c : Nat, c ≠ 48 → c ≠ 82 → M' c = M c) ∧ (∀ i : Nat, i ≠ 43 → M' 48 i = M 48 i) ∧ (M' 82 = upr (M 82) ((M 48 43)).toNat v) ∧ (∀ j : Nat, 800 ≤ j → M' 82 j = M 82 j)) := by
  refine Mg.of (rm := rmN 0 0) (by decide) (Nat.le_of_ble_eq_true rfl) fun κ _ hk _ => ?_
  generalize hQ : Qg κ δ 121 (rmN 0 0).cells (rmN 0 0).slots _ = Q
  show Zj κ δ ad rs Q 2 (121, 0, 0) 0 [some (.ref (ad 48)), some (iv v)] [] M
  refine Z_aload0 hk dX9_puts_0 ?_
  refine Z_getR hk fl_9_114 dX9_puts_1 ob_48.1 ob_48.2.1 ob_48.2.2.1 ob_48.2.2.2 ft_9_42 rs_48_42 ?_
  refine Z_iconst hk dX9_puts_4 ?_
  refine Z_aload0 hk dX9_puts_5 ?_
  refine Z_getI hk fl_9_314 dX9_puts_6 ob_48.1 ob_48.2.1 ob_48.2.2.1 ob_48.2.2.2 ft_9_43 (fun v6 e6 a6 b6 => ?_)
  refine Z_iadd hk dX9_puts_9 ?_
  refine Z_iload1 hk dX9_puts_10 ?_
  refine Z_iast hk hA dX9_puts_11 ar_82.1 ar_82.2.1 ar_82.2.2 (by omega) (by omega) (by omega) (by omega) ?_
  refine Z_nm (fun m11 em11 => ?_)
  refine Z_aload0 hk dX9_puts_12 ?_
  refine Z_dup1 hk rfl dX9_puts_13 ?_
  refine Z_getI hk fl_9_314 dX9_puts_14 ob_48.1 ob_48.2.1 ob_48.2.2.1 ob_48.2.2.2 ft_9_43 (fun v14 e14 a14 b14 => ?_)
  try simp only [em11, e6, and_true, true_and, or_true, true_or, implies_true, upn, reduceIte, Nat.reduceEqDiff, ne_eq, not_false_eq_true] at e14
  refine Z_iconst hk dX9_puts_17 ?_
  refine Z_iadd hk dX9_puts_18 ?_
  refine Z_putI hk hA fl_9_314 dX9_puts_19 ob_48.1 ob_48.2.1 ob_48.2.2.1 ob_48.2.2.2 ft_9_43 (by omega) (by omega) ?_
  refine Z_nm (fun m19 em19 => ?_)
  exact Z_vret hk hA hQ dX9_puts_22 ⟨rfl, rfl, rfl, (by exact ⟨(by (try simp only [em19, em11, and_true, true_and, or_true, true_or, implies_true, upn, reduceIte, Nat.reduceEqDiff, ne_eq, not_false_eq_true]) <;> (omega)), (by intro c k0 k1; simp only [em19, em11, upc, upn, k0, k1, reduceIte, Nat.reduceEqDiff, ne_eq, not_false_eq_true]), (by intro i k0; simp only [em19, em11, upc, upn, k0, reduceIte, Nat.reduceEqDiff, ne_eq, not_false_eq_true]), (by simp only [em19, em11, e6, e14, and_true, true_and, or_true, true_or, implies_true, upn, reduceIte, Nat.reduceEqDiff, ne_eq, not_false_eq_true, upc, Int.zero_add]), (by intro j kj; first | (simp only [em19, em11, upc, upn, kj, reduceIte, Nat.reduceEqDiff, ne_eq, not_false_eq_true]; done) | (simp only [em19, em11, upc, upn, kj, reduceIte, Nat.reduceEqDiff, ne_eq, not_false_eq_true]; split; (exfalso; omega); rfl))⟩)⟩
def OpW (M M' : Mem) : Prop := (M 48 46 = 6 → M' 48 45 = M 48 45) ∧ (M 48 46 ≠ 6 → M' 48 45 = M 48 45 + 1)
set_option maxRecDepth 10000 in
theorem c_X9_opens (l : Launch) (δ : Dp) (ad : Nat → Nat) (M : Mem) (hA : okA δ ad) (what : Int) (place : Int) (q0 : 0 ≤ (M 48 45) ∧ (M 48 45) < 800) (q1 : -2000 ≤ (M 48 46) ∧ (M 48 46) ≤ 6) (i_what : -2147483648 ≤ what ∧ what ≤ 2147483647) (i_place : -2147483648 ≤ place ∧ place ≤ 2147483647) : Mv l δ yX9_opens cX9_opens 3 none 1 22 ad rs [.ref (ad 48), iv what, iv place] M (fun M' => ((M 48 46) ≤ (M' 48 46) ∧ (M' 48 46) ≤ 6 ∧ (M 48 45) ≤ (M' 48 45) ∧ (M' 48 45) ≤ (M 48 45) + 1 ∧ ((M' 48 5) = 0 → (M 48 5) = 0)) ∧ (∀ c : Nat, c ≠ 48 → c ≠ 83 → M' c = M c) ∧ (∀ i : Nat, i ≠ 5 → i ≠ 6 → i ≠ 45 → i ≠ 46 → M' 48 i = M 48 i) ∧ ((M 48 46) = 6 → M' 83 = M 83) ∧ ((M 48 46) ≠ 6 → M' 83 = upr (M 83) ((M 48 45)).toNat what) ∧ (OpW M M')) := by
  refine Mg.of (rm := rmN 1 22) (by decide) (Nat.le_of_ble_eq_true rfl) fun κ _ hk _ => ?_
  generalize hQ : Qg κ δ 121 (rmN 1 22).cells (rmN 1 22).slots _ = Q
  show Zj κ δ ad rs Q 3 (121, 0, 0) 0 [some (.ref (ad 48)), some (iv what), some (iv place)] [] M
  refine Z_aload0 hk dX9_opens_0 ?_
  refine Z_getI hk fl_9_317 dX9_opens_1 ob_48.1 ob_48.2.1 ob_48.2.2.1 ob_48.2.2.2 ft_9_46 (fun v1 e1 a1 b1 => ?_)
  refine Z_bipush hk dX9_opens_4 (by decide) ?_
  refine Z_icmp_ne hk (tgt := 16) dX9_opens_6 (by decide) (by omega) (by omega) (by decide) (by decide) (fun h6 => ?_) (fun h6 => ?_)
  · refine Z_aload0 hk dX9_opens_16 ?_
    refine Z_dup1 hk rfl dX9_opens_17 ?_
    refine Z_getI hk fl_9_317 dX9_opens_18 ob_48.1 ob_48.2.1 ob_48.2.2.1 ob_48.2.2.2 ft_9_46 (fun v18 e18 a18 b18 => ?_)
    try simp only [e1, and_true, true_and, or_true, true_or, implies_true, upn, reduceIte, Nat.reduceEqDiff, ne_eq, not_false_eq_true] at e18
    refine Z_iconst hk dX9_opens_21 ?_
    refine Z_iadd hk dX9_opens_22 ?_
    refine Z_putI hk hA fl_9_317 dX9_opens_23 ob_48.1 ob_48.2.1 ob_48.2.2.1 ob_48.2.2.2 ft_9_46 (by omega) (by omega) ?_
    refine Z_nm (fun m23 em23 => ?_)
    refine Z_aload0 hk dX9_opens_26 ?_
    refine Z_getR hk fl_9_117 dX9_opens_27 ob_48.1 ob_48.2.1 ob_48.2.2.1 ob_48.2.2.2 ft_9_44 rs_48_44 ?_
    refine Z_aload0 hk dX9_opens_30 ?_
    refine Z_getI hk fl_9_320 dX9_opens_31 ob_48.1 ob_48.2.1 ob_48.2.2.1 ob_48.2.2.2 ft_9_45 (fun v31 e31 a31 b31 => ?_)
    try simp only [em23, e1, e18, and_true, true_and, or_true, true_or, implies_true, upn, reduceIte, Nat.reduceEqDiff, ne_eq, not_false_eq_true] at e31
    refine Z_iload1 hk dX9_opens_34 ?_
    refine Z_iast hk hA dX9_opens_35 ar_83.1 ar_83.2.1 ar_83.2.2 (by omega) (by omega) (by omega) (by omega) ?_
    refine Z_nm (fun m35 em35 => ?_)
    refine Z_aload0 hk dX9_opens_36 ?_
    refine Z_dup1 hk rfl dX9_opens_37 ?_
    refine Z_getI hk fl_9_320 dX9_opens_38 ob_48.1 ob_48.2.1 ob_48.2.2.1 ob_48.2.2.2 ft_9_45 (fun v38 e38 a38 b38 => ?_)
    try simp only [em35, em23, e1, e18, e31, and_true, true_and, or_true, true_or, implies_true, upn, reduceIte, Nat.reduceEqDiff, ne_eq, not_false_eq_true] at e38
    refine Z_iconst hk dX9_opens_41 ?_
    refine Z_iadd hk dX9_opens_42 ?_
    refine Z_putI hk hA fl_9_320 dX9_opens_43 ob_48.1 ob_48.2.1 ob_48.2.2.1 ob_48.2.2.2 ft_9_45 (by omega) (by omega) ?_
    refine Z_nm (fun m43 em43 => ?_)
    exact Z_vret hk hA hQ dX9_opens_46 ⟨rfl, rfl, rfl, (by exact ⟨(by (try simp only [em43, em35, em23, and_true, true_and, or_true, true_or, implies_true, upn, reduceIte, Nat.reduceEqDiff, ne_eq, not_false_eq_true]) <;> (omega)), (by intro c k0 k1; simp only [em43, em35, em23, upc, upn, k0, k1, reduceIte, Nat.reduceEqDiff, ne_eq, not_false_eq_true]), (by intro i k0 k1 k2 k3; simp only [em43, em35, em23, upc, upn, k0, k1, k2, k3, reduceIte, Nat.reduceEqDiff, ne_eq, not_false_eq_true]), (by intro k; first | omega | simp only [em43, em35, em23, e1, e18, e31, e38, and_true, true_and, or_true, true_or, implies_true, upn, reduceIte, Nat.reduceEqDiff, ne_eq, not_false_eq_true, upc]), (by intro k; first | omega | simp only [em43, em35, em23, e1, e18, e31, e38, and_true, true_and, or_true, true_or, implies_true, upn, reduceIte, Nat.reduceEqDiff, ne_eq, not_false_eq_true, upc]), (by (unfold OpW; (try simp only [em43, em35, em23, e1, e18, e31, e38, and_true, true_and, or_true, true_or, implies_true, upn, reduceIte, Nat.reduceEqDiff, ne_eq, not_false_eq_true, upc]) <;> omega))⟩)⟩
  · refine Z_aload0 hk dX9_opens_9 ?_
    refine Z_iconst hk dX9_opens_10 ?_
    refine Z_iload2 hk dX9_opens_11 ?_
    refine Z_Vv hk (c_X9_fail κ.2.1 δ ad _ hA 4 place (by (omega)) (by (omega))) ov_X9_fail ml_X9_275 dX9_opens_12 rfl ⟨by decide, by decide⟩ ob_48.1 (by decide) (by decide) rfl (Nat.le_of_ble_eq_true rfl) (fun m12 p12 => ?_)
    obtain ⟨p12, f12_0, f12_1⟩ := p12
    try simp only [f12_0, f12_1, e1, and_true, true_and, or_true, true_or, implies_true, upn, reduceIte, Nat.reduceEqDiff, ne_eq, not_false_eq_true] at p12
    exact Z_vret hk hA hQ dX9_opens_15 ⟨rfl, rfl, rfl, (by exact ⟨(by (try simp only [f12_0, f12_1, and_true, true_and, or_true, true_or, implies_true, upn, reduceIte, Nat.reduceEqDiff, ne_eq, not_false_eq_true]) <;> (omega)), (by intro c k0 k1; simp only [f12_0, f12_1, upc, upn, k0, k1, reduceIte, Nat.reduceEqDiff, ne_eq, not_false_eq_true]), (by intro i k0 k1 k2 k3; simp only [f12_0, f12_1, upc, upn, k0, k1, k2, k3, reduceIte, Nat.reduceEqDiff, ne_eq, not_false_eq_true]), (by intro k; first | omega | simp only [f12_0, f12_1, e1, and_true, true_and, or_true, true_or, implies_true, upn, reduceIte, Nat.reduceEqDiff, ne_eq, not_false_eq_true, upc]), (by intro k; first | omega | simp only [f12_0, f12_1, e1, and_true, true_and, or_true, true_or, implies_true, upn, reduceIte, Nat.reduceEqDiff, ne_eq, not_false_eq_true, upc]), (by (unfold OpW; (try simp only [f12_0, f12_1, e1, and_true, true_and, or_true, true_or, implies_true, upn, reduceIte, Nat.reduceEqDiff, ne_eq, not_false_eq_true, upc]) <;> omega))⟩)⟩
set_option maxRecDepth 10000 in
theorem c_X9_isOn (l : Launch) (δ : Dp) (ad : Nat → Nat) (M : Mem) (hA : okA δ ad) (what : Int) (q0 : 0 ≤ (M 48 45) ∧ (M 48 45) ≤ 800) (i_what : -2147483648 ≤ what ∧ what ≤ 2147483647) : Mi l δ yX9_isOn cX9_isOn 2 (some (.boolean)) 0 0 ad rs [.ref (ad 48), iv what] M (fun r M' => M = M' ∧ (0 ≤ r ∧ r ≤ 1 ∧ (r = 1 ↔ 0 < (M 48 45) ∧ M 83 ((M 48 45) - 1).toNat = what))) := by
  refine Mg.of (rm := rmN 0 0) (by decide) (Nat.le_of_ble_eq_true rfl) fun κ _ hk _ => ?_
  generalize hQ : Qg κ δ 121 (rmN 0 0).cells (rmN 0 0).slots _ = Q
  show Zj κ δ ad rs Q 2 (121, 0, 0) 0 [some (.ref (ad 48)), some (iv what)] [] M
  refine Z_aload0 hk dX9_isOn_0 ?_
  refine Z_getI hk fl_9_320 dX9_isOn_1 ob_48.1 ob_48.2.1 ob_48.2.2.1 ob_48.2.2.2 ft_9_45 (fun v1 e1 a1 b1 => ?_)
  refine Z_if_le hk (tgt := 26) dX9_isOn_4 (by decide) (by omega) (by omega) (fun h4 => ?_) (fun h4 => ?_)
  · refine Z_iconst hk dX9_isOn_26 ?_
    exact Z_zret hk hA hQ dX9_isOn_27 (by decide) (by decide) ⟨rfl, rfl, _, rfl, (by exact ⟨rfl, (by omega)⟩)⟩
  · refine Z_aload0 hk dX9_isOn_7 ?_
    refine Z_getR hk fl_9_117 dX9_isOn_8 ob_48.1 ob_48.2.1 ob_48.2.2.1 ob_48.2.2.2 ft_9_44 rs_48_44 ?_
    refine Z_aload0 hk dX9_isOn_11 ?_
    refine Z_getI hk fl_9_320 dX9_isOn_12 ob_48.1 ob_48.2.1 ob_48.2.2.1 ob_48.2.2.2 ft_9_45 (fun v12 e12 a12 b12 => ?_)
    try simp only [e1, and_true, true_and, or_true, true_or, implies_true, upn, reduceIte, Nat.reduceEqDiff, ne_eq, not_false_eq_true] at e12
    refine Z_iconst hk dX9_isOn_15 ?_
    refine Z_isub hk dX9_isOn_16 ?_
    refine Z_iald hk dX9_isOn_17 ar_83.1 ar_83.2.1 ar_83.2.2 (by omega) (by omega) (fun v17 e17 a17 b17 => ?_)
    try simp only [e1, e12, and_true, true_and, or_true, true_or, implies_true, upn, reduceIte, Nat.reduceEqDiff, ne_eq, not_false_eq_true] at e17
    refine Z_iload1 hk dX9_isOn_18 ?_
    refine Z_icmp_ne hk (tgt := 26) dX9_isOn_19 (by decide) (by omega) (by omega) (by omega) (by omega) (fun h19 => ?_) (fun h19 => ?_)
    · refine Z_iconst hk dX9_isOn_26 ?_
      exact Z_zret hk hA hQ dX9_isOn_27 (by decide) (by decide) ⟨rfl, rfl, _, rfl, (by exact ⟨rfl, (by omega)⟩)⟩
    · refine Z_iconst hk dX9_isOn_22 ?_
      refine Z_goto hk (tgt := 27) dX9_isOn_23 (by decide) ?_
      exact Z_zret hk hA hQ dX9_isOn_27 (by decide) (by decide) ⟨rfl, rfl, _, rfl, (by exact ⟨rfl, (by omega)⟩)⟩
set_option maxRecDepth 10000 in
theorem c_X9_drops (l : Launch) (δ : Dp) (ad : Nat → Nat) (M : Mem) (hA : okA δ ad) (q0 : 1 ≤ (M 48 45) ∧ (M 48 45) ≤ 800) (q1 : 0 ≤ (M 48 43) ∧ (M 48 43) < 800) : Mv l δ yX9_drops cX9_drops 1 none 1 21 ad rs [.ref (ad 48)] M (fun M' => ((M' 48 43) = (M 48 43) + 1 ∧ (M' 48 45) = (M 48 45) - 1) ∧ (∀ c : Nat, c ≠ 48 → c ≠ 82 → M' c = M c) ∧ (∀ i : Nat, i ≠ 43 → i ≠ 45 → M' 48 i = M 48 i) ∧ (M' 82 = upr (M 82) ((M 48 43)).toNat (M 83 ((M 48 45) - 1).toNat)) ∧ (∀ j : Nat, 800 ≤ j → M' 82 j = M 82 j)) := by
  refine Mg.of (rm := rmN 1 21) (by decide) (Nat.le_of_ble_eq_true rfl) fun κ _ hk _ => ?_
  generalize hQ : Qg κ δ 121 (rmN 1 21).cells (rmN 1 21).slots _ = Q
  show Zj κ δ ad rs Q 1 (121, 0, 0) 0 [some (.ref (ad 48))] [] M
  refine Z_aload0 hk dX9_drops_0 ?_
  refine Z_dup1 hk rfl dX9_drops_1 ?_
  refine Z_getI hk fl_9_320 dX9_drops_2 ob_48.1 ob_48.2.1 ob_48.2.2.1 ob_48.2.2.2 ft_9_45 (fun v2 e2 a2 b2 => ?_)
  refine Z_iconst hk dX9_drops_5 ?_
  refine Z_isub hk dX9_drops_6 ?_
  refine Z_putI hk hA fl_9_320 dX9_drops_7 ob_48.1 ob_48.2.1 ob_48.2.2.1 ob_48.2.2.2 ft_9_45 (by omega) (by omega) ?_
  refine Z_nm (fun m7 em7 => ?_)
  refine Z_aload0 hk dX9_drops_10 ?_
  refine Z_aload0 hk dX9_drops_11 ?_
  refine Z_getR hk fl_9_117 dX9_drops_12 ob_48.1 ob_48.2.1 ob_48.2.2.1 ob_48.2.2.2 ft_9_44 rs_48_44 ?_
  refine Z_aload0 hk dX9_drops_15 ?_
  refine Z_getI hk fl_9_320 dX9_drops_16 ob_48.1 ob_48.2.1 ob_48.2.2.1 ob_48.2.2.2 ft_9_45 (fun v16 e16 a16 b16 => ?_)
  try simp only [em7, e2, and_true, true_and, or_true, true_or, implies_true, upn, reduceIte, Nat.reduceEqDiff, ne_eq, not_false_eq_true] at e16
  refine Z_iald hk dX9_drops_19 ar_83.1 ar_83.2.1 ar_83.2.2 (by omega) (by omega) (fun v19 e19 a19 b19 => ?_)
  try simp only [em7, e2, e16, and_true, true_and, or_true, true_or, implies_true, upn, reduceIte, Nat.reduceEqDiff, ne_eq, not_false_eq_true] at e19
  refine Z_Vv hk (c_X9_puts κ.2.1 δ ad _ hA v19 (by (try simp only [em7, and_true, true_and, or_true, true_or, implies_true, upn, reduceIte, Nat.reduceEqDiff, ne_eq, not_false_eq_true]) <;> (omega)) (by (try simp only [em7, and_true, true_and, or_true, true_or, implies_true, upn, reduceIte, Nat.reduceEqDiff, ne_eq, not_false_eq_true]) <;> (omega))) ov_X9_puts ml_X9_323 dX9_drops_20 rfl ⟨by decide, by decide⟩ ob_48.1 (by decide) (by decide) rfl (Nat.le_of_ble_eq_true rfl) (fun m20 p20 => ?_)
  obtain ⟨p20, f20_0, f20_1, f20_2, f20_3⟩ := p20
  try simp only [f20_0, f20_1, f20_2, f20_3, em7, e2, e16, e19, and_true, true_and, or_true, true_or, implies_true, upn, reduceIte, Nat.reduceEqDiff, ne_eq, not_false_eq_true] at p20
  exact Z_vret hk hA hQ dX9_drops_23 ⟨rfl, rfl, rfl, (by exact ⟨(by (try simp only [f20_0, f20_1, f20_2, f20_3, em7, and_true, true_and, or_true, true_or, implies_true, upn, reduceIte, Nat.reduceEqDiff, ne_eq, not_false_eq_true]) <;> (omega)), (by intro c k0 k1; simp only [f20_0, f20_1, f20_2, f20_3, em7, upc, upn, k0, k1, reduceIte, Nat.reduceEqDiff, ne_eq, not_false_eq_true]), (by intro i k0 k1; simp only [f20_0, f20_1, f20_2, f20_3, em7, upc, upn, k0, k1, reduceIte, Nat.reduceEqDiff, ne_eq, not_false_eq_true]), (by simp only [f20_0, f20_1, f20_2, f20_3, em7, e2, e16, e19, and_true, true_and, or_true, true_or, implies_true, upn, reduceIte, Nat.reduceEqDiff, ne_eq, not_false_eq_true, upc]), (by intro j kj; first | (simp only [f20_0, f20_1, f20_2, f20_3, em7, upc, upn, kj, reduceIte, Nat.reduceEqDiff, ne_eq, not_false_eq_true]; done) | (simp only [f20_0, f20_1, f20_2, f20_3, em7, upc, upn, kj, reduceIte, Nat.reduceEqDiff, ne_eq, not_false_eq_true]; split; (exfalso; omega); rfl))⟩)⟩
set_option maxRecDepth 10000 in
theorem c_X9_isMark (l : Launch) (δ : Dp) (ad : Nat → Nat) (M : Mem) (hA : okA δ ad) (v : Int) (i_v : -2147483648 ≤ v ∧ v ≤ 2147483647) : Mi l δ yX9_isMark cX9_isMark 2 (some (.boolean)) 0 0 ad rs [.ref (ad 48), iv v] M (fun r M' => M = M' ∧ (0 ≤ r ∧ r ≤ 1 ∧ (r = 1 ↔ 20 ≤ v ∧ v ≤ 24))) := by
  refine Mg.of (rm := rmN 0 0) (by decide) (Nat.le_of_ble_eq_true rfl) fun κ _ hk _ => ?_
  generalize hQ : Qg κ δ 121 (rmN 0 0).cells (rmN 0 0).slots _ = Q
  show Zj κ δ ad rs Q 2 (121, 0, 0) 0 [some (.ref (ad 48)), some (iv v)] [] M
  refine Z_iload1 hk dX9_isMark_0 ?_
  refine Z_bipush hk dX9_isMark_1 (by decide) ?_
  refine Z_icmp_lt hk (tgt := 16) dX9_isMark_3 (by decide) (by omega) (by omega) (by decide) (by decide) (fun h3 => ?_) (fun h3 => ?_)
  · refine Z_iconst hk dX9_isMark_16 ?_
    exact Z_zret hk hA hQ dX9_isMark_17 (by decide) (by decide) ⟨rfl, rfl, _, rfl, (by exact ⟨rfl, (by omega)⟩)⟩
  · refine Z_iload1 hk dX9_isMark_6 ?_
    refine Z_bipush hk dX9_isMark_7 (by decide) ?_
    refine Z_icmp_gt hk (tgt := 16) dX9_isMark_9 (by decide) (by omega) (by omega) (by decide) (by decide) (fun h9 => ?_) (fun h9 => ?_)
    · refine Z_iconst hk dX9_isMark_16 ?_
      exact Z_zret hk hA hQ dX9_isMark_17 (by decide) (by decide) ⟨rfl, rfl, _, rfl, (by exact ⟨rfl, (by omega)⟩)⟩
    · refine Z_iconst hk dX9_isMark_12 ?_
      refine Z_goto hk (tgt := 17) dX9_isMark_13 (by decide) ?_
      exact Z_zret hk hA hQ dX9_isMark_17 (by decide) (by decide) ⟨rfl, rfl, _, rfl, (by exact ⟨rfl, (by omega)⟩)⟩
