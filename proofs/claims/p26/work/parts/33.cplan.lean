theorem Mg.ofF {δ : Dp} {ad : Nat → Nat} {rt : Rt} {mL : Nat} {M : Mem} {cc : ByteArray} {ret : Option FieldType} {rm : Room} {l : Launch} {y : MethodName} {nc nc' : Nat} {As : List Value} {post : Pg} (hy : plainFor y = true) (hm : (lg_sl As).length ≤ mL)
    (body : ∀ κ : Kp, κ.2.1 = l → okK κ δ cc y.cls mL ret rm → κ.2.2.2.2.2.2.2.2.1.name = y.name → Zj κ δ ad rt (Qg κ δ nc' rm.cells rm.slots post) mL (nc, 0, 0) 0 (ent As ++ List.replicate (mL - (ent As).length) none) [] M) : Mg l δ y cc mL ret rm nc nc' ad rt As M post := by
  refine va_MetF (cc := cc) (maxL := mL) (ret := ret) hy rfl ?_
  intro p e s m args below meth c s₁ B hml hv
  obtain ⟨rfl, hw, hK, hlw⟩ := hv
  have hts := atoms_spec (ws := .code y cc mL ret :: lw_g) B.pre
  have hl := lv_entry As hm
  rw [lg_entry_eq]
  exact body (p, l, e, rm, s, m, As.toArray, below, meth, c) rfl ⟨B.exec, B.bytes, hml, findClass_of_methodNamed B.named, fun w hw => hts w (List.mem_cons_of_mem _ hw), hK, B.returns, B.notSynchronized, rfl, hlw⟩ (name_of_methodNamed B.named B.method).1
    s.heap [] _ hw va_S.rf ⟨hl.1, hl.2.1, fun i v h => hl.2.2 (i, v) (by have := ent_mem As 0 i v _ h; rwa [Nat.zero_add] at this)⟩
set_option maxRecDepth 10000 in
theorem c_J9_max_7cf53 (l : Launch) (δ : Dp) (ad : Nat → Nat) (M : Mem) (hA : okA δ ad) (a : Int) (b : Int) (i_a : -2147483648 ≤ a ∧ a ≤ 2147483647) (i_b : -2147483648 ≤ b ∧ b ≤ 2147483647) : Mi l δ yJ9_max_7cf53 cJ9_max_7cf53 2 (some (.int)) 0 0 ad rs [iv a, iv b] M (fun r M' => M = M' ∧ ((a ≤ b ∧ r = b) ∨ (b ≤ a ∧ r = a))) := by
  refine Mg.ofF (rm := rmN 0 0) (by decide +kernel) (Nat.le_of_ble_eq_true rfl) fun κ _ hk _ => ?_
  generalize hQ : Qg κ δ 121 (rmN 0 0).cells (rmN 0 0).slots _ = Q
  show Zj κ δ ad rs Q 2 (121, 0, 0) 0 [some (iv a), some (iv b)] [] M
  refine Z_iload0 hk dJ9_max_7cf53_0 ?_
  refine Z_iload1 hk dJ9_max_7cf53_1 ?_
  refine Z_icmp_lt hk (tgt := 9) dJ9_max_7cf53_2 (by decide) (by omega) (by omega) (by omega) (by omega) (fun h2 => ?_) (fun h2 => ?_)
  · refine Z_iload1 hk dJ9_max_7cf53_9 ?_
    exact Z_iret hk hA hQ dJ9_max_7cf53_10 ⟨rfl, rfl, _, rfl, (by exact ⟨rfl, (by omega)⟩)⟩
  · refine Z_iload0 hk dJ9_max_7cf53_5 ?_
    refine Z_goto hk (tgt := 10) dJ9_max_7cf53_6 (by decide) ?_
    exact Z_iret hk hA hQ dJ9_max_7cf53_10 ⟨rfl, rfl, _, rfl, (by exact ⟨rfl, (by omega)⟩)⟩
set_option maxRecDepth 10000 in
theorem c_J9_min_7cf53 (l : Launch) (δ : Dp) (ad : Nat → Nat) (M : Mem) (hA : okA δ ad) (a : Int) (b : Int) (i_a : -2147483648 ≤ a ∧ a ≤ 2147483647) (i_b : -2147483648 ≤ b ∧ b ≤ 2147483647) : Mi l δ yJ9_min_7cf53 cJ9_min_7cf53 2 (some (.int)) 0 0 ad rs [iv a, iv b] M (fun r M' => M = M' ∧ ((a ≤ b ∧ r = a) ∨ (b ≤ a ∧ r = b))) := by
  refine Mg.ofF (rm := rmN 0 0) (by decide +kernel) (Nat.le_of_ble_eq_true rfl) fun κ _ hk _ => ?_
  generalize hQ : Qg κ δ 121 (rmN 0 0).cells (rmN 0 0).slots _ = Q
  show Zj κ δ ad rs Q 2 (121, 0, 0) 0 [some (iv a), some (iv b)] [] M
  refine Z_iload0 hk dJ9_min_7cf53_0 ?_
  refine Z_iload1 hk dJ9_min_7cf53_1 ?_
  refine Z_icmp_gt hk (tgt := 9) dJ9_min_7cf53_2 (by decide) (by omega) (by omega) (by omega) (by omega) (fun h2 => ?_) (fun h2 => ?_)
  · refine Z_iload1 hk dJ9_min_7cf53_9 ?_
    exact Z_iret hk hA hQ dJ9_min_7cf53_10 ⟨rfl, rfl, _, rfl, (by exact ⟨rfl, (by omega)⟩)⟩
  · refine Z_iload0 hk dJ9_min_7cf53_5 ?_
    refine Z_goto hk (tgt := 10) dJ9_min_7cf53_6 (by decide) ?_
    exact Z_iret hk hA hQ dJ9_min_7cf53_10 ⟨rfl, rfl, _, rfl, (by exact ⟨rfl, (by omega)⟩)⟩
set_option maxRecDepth 10000 in
theorem c_J9_max_f86c9 (l : Launch) (δ : Dp) (ad : Nat → Nat) (M : Mem) (hA : okA δ ad) (a : Int) (b : Int) (i_a : -9223372036854775808 ≤ a ∧ a ≤ 9223372036854775807) (i_b : -9223372036854775808 ≤ b ∧ b ≤ 9223372036854775807) : Mj l δ yJ9_max_f86c9 cJ9_max_f86c9 4 (some (.long)) 0 0 ad rs [jv a, jv b] M (fun r M' => M = M' ∧ ((a ≤ b ∧ r = b) ∨ (b ≤ a ∧ r = a))) := by
  refine Mg.ofF (rm := rmN 0 0) (by decide +kernel) (Nat.le_of_ble_eq_true rfl) fun κ _ hk _ => ?_
  generalize hQ : Qg κ δ 121 (rmN 0 0).cells (rmN 0 0).slots _ = Q
  show Zj κ δ ad rs Q 4 (121, 0, 0) 0 [some (jv a), none, some (jv b), none] [] M
  refine Z_lload0 hk dJ9_max_f86c9_0 ?_
  refine Z_lload2 hk dJ9_max_f86c9_1 ?_
  refine Z_lcmp hk dJ9_max_f86c9_2 (by omega) (by omega) (by omega) (by omega) (fun v2 e2 => ?_)
  refine Z_if_lt hk (tgt := 10) dJ9_max_f86c9_3 (by decide) (by omega) (by omega) (fun h3 => ?_) (fun h3 => ?_)
  · refine Z_lload2 hk dJ9_max_f86c9_10 ?_
    exact Z_lret hk hA hQ dJ9_max_f86c9_11 ⟨rfl, rfl, _, rfl, (by exact ⟨rfl, (by omega)⟩)⟩
  · refine Z_lload0 hk dJ9_max_f86c9_6 ?_
    refine Z_goto hk (tgt := 11) dJ9_max_f86c9_7 (by decide) ?_
    exact Z_lret hk hA hQ dJ9_max_f86c9_11 ⟨rfl, rfl, _, rfl, (by exact ⟨rfl, (by omega)⟩)⟩
set_option maxRecDepth 10000 in
theorem c_J9_min_f86c9 (l : Launch) (δ : Dp) (ad : Nat → Nat) (M : Mem) (hA : okA δ ad) (a : Int) (b : Int) (i_a : -9223372036854775808 ≤ a ∧ a ≤ 9223372036854775807) (i_b : -9223372036854775808 ≤ b ∧ b ≤ 9223372036854775807) : Mj l δ yJ9_min_f86c9 cJ9_min_f86c9 4 (some (.long)) 0 0 ad rs [jv a, jv b] M (fun r M' => M = M' ∧ ((a ≤ b ∧ r = a) ∨ (b ≤ a ∧ r = b))) := by
  refine Mg.ofF (rm := rmN 0 0) (by decide +kernel) (Nat.le_of_ble_eq_true rfl) fun κ _ hk _ => ?_
  generalize hQ : Qg κ δ 121 (rmN 0 0).cells (rmN 0 0).slots _ = Q
  show Zj κ δ ad rs Q 4 (121, 0, 0) 0 [some (jv a), none, some (jv b), none] [] M
  refine Z_lload0 hk dJ9_min_f86c9_0 ?_
  refine Z_lload2 hk dJ9_min_f86c9_1 ?_
  refine Z_lcmp hk dJ9_min_f86c9_2 (by omega) (by omega) (by omega) (by omega) (fun v2 e2 => ?_)
  refine Z_if_gt hk (tgt := 10) dJ9_min_f86c9_3 (by decide) (by omega) (by omega) (fun h3 => ?_) (fun h3 => ?_)
  · refine Z_lload2 hk dJ9_min_f86c9_10 ?_
    exact Z_lret hk hA hQ dJ9_min_f86c9_11 ⟨rfl, rfl, _, rfl, (by exact ⟨rfl, (by omega)⟩)⟩
  · refine Z_lload0 hk dJ9_min_f86c9_6 ?_
    refine Z_goto hk (tgt := 11) dJ9_min_f86c9_7 (by decide) ?_
    exact Z_lret hk hA hQ dJ9_min_f86c9_11 ⟨rfl, rfl, _, rfl, (by exact ⟨rfl, (by omega)⟩)⟩
set_option maxRecDepth 10000 in
theorem c_J9_floorDiv_7cf53 (l : Launch) (δ : Dp) (ad : Nat → Nat) (M : Mem) (hA : okA δ ad) (a : Int) (b : Int) (i_a : -2147483648 ≤ a ∧ a ≤ 2147483647) (i_b : -2147483648 ≤ b ∧ b ≤ 2147483647) (q0 : b ≠ 0) : Mi l δ yJ9_floorDiv_7cf53 cJ9_floorDiv_7cf53 3 (some (.int)) 0 0 ad rs [iv a, iv b] M (fun r M' => M = M' ∧ (-2147483648 ≤ r ∧ r ≤ 2147483647)) := by
  refine Mg.ofF (rm := rmN 0 0) (by decide +kernel) (Nat.le_of_ble_eq_true rfl) fun κ _ hk _ => ?_
  generalize hQ : Qg κ δ 121 (rmN 0 0).cells (rmN 0 0).slots _ = Q
  show Zj κ δ ad rs Q 3 (121, 0, 0) 0 [some (iv a), some (iv b), none] [] M
  refine Z_iload0 hk dJ9_floorDiv_7cf53_0 ?_
  refine Z_iload1 hk dJ9_floorDiv_7cf53_1 ?_
  refine Z_idiv hk dJ9_floorDiv_7cf53_2 (by omega) (by omega) (by omega) (by omega) (by omega) ?_
  refine Z_wI (fun w2 a2w b2w g2w => ?_)
  refine Z_istore2 hk rfl (by decide) dJ9_floorDiv_7cf53_3 ?_
  refine Z_iload0 hk dJ9_floorDiv_7cf53_4 ?_
  refine Z_iload1 hk dJ9_floorDiv_7cf53_5 ?_
  refine Z_ixor hk dJ9_floorDiv_7cf53_6 (fun v6 e6 a6 b6 => ?_)
  refine Z_if_ge hk (tgt := 21) dJ9_floorDiv_7cf53_7 (by decide) (by omega) (by omega) (fun h7 => ?_) (fun h7 => ?_)
  · refine Z_iload2 hk dJ9_floorDiv_7cf53_21 ?_
    exact Z_iret hk hA hQ dJ9_floorDiv_7cf53_22 ⟨rfl, rfl, _, rfl, (by exact ⟨rfl, (by omega)⟩)⟩
  · refine Z_iload2 hk dJ9_floorDiv_7cf53_10 ?_
    refine Z_iload1 hk dJ9_floorDiv_7cf53_11 ?_
    refine Z_imul hk dJ9_floorDiv_7cf53_12 ?_
    refine Z_wI (fun w12 a12w b12w g12w => ?_)
    refine Z_iload0 hk dJ9_floorDiv_7cf53_13 ?_
    refine Z_icmp_eq hk (tgt := 21) dJ9_floorDiv_7cf53_14 (by decide) (by omega) (by omega) (by omega) (by omega) (fun h14 => ?_) (fun h14 => ?_)
    · refine Z_iload2 hk dJ9_floorDiv_7cf53_21 ?_
      exact Z_iret hk hA hQ dJ9_floorDiv_7cf53_22 ⟨rfl, rfl, _, rfl, (by exact ⟨rfl, (by omega)⟩)⟩
    · refine Z_iload2 hk dJ9_floorDiv_7cf53_17 ?_
      refine Z_iconst hk dJ9_floorDiv_7cf53_18 ?_
      refine Z_isub hk dJ9_floorDiv_7cf53_19 ?_
      refine Z_wI (fun w19 a19w b19w g19w => ?_)
      exact Z_iret hk hA hQ dJ9_floorDiv_7cf53_20 ⟨rfl, rfl, _, rfl, (by exact ⟨rfl, (by omega)⟩)⟩
set_option maxRecDepth 10000 in
theorem c_J7_fill_53178 (l : Launch) (δ : Dp) (ad : Nat → Nat) (M : Mem) (hA : okA δ ad) (w n_w : Nat) (h_w : lay w = (100, n_w) ∧ w < 121 ∧ n_w < 2147483648) (v : Int) (i_v : -2147483648 ≤ v ∧ v ≤ 2147483647) : Mv l δ yJ7_fill_53178 cJ7_fill_53178 4 none 0 0 ad rs [.ref (ad w), iv v] M (fun M' => (∀ j : Nat, (j : Int) < n_w → M' w j = v) ∧ (∀ c : Nat, c ≠ w → M' c = M c)) := by
  refine Mg.of (rm := rmN 0 0) (by decide) (Nat.le_of_ble_eq_true rfl) fun κ _ hk _ => ?_
  generalize hQ : Qg κ δ 121 (rmN 0 0).cells (rmN 0 0).slots _ = Q
  show Zj κ δ ad rs Q 4 (121, 0, 0) 0 [some (.ref (ad w)), some (iv v), none, none] [] M
  refine Z_iconst hk dJ7_fill_53178_0 ?_
  refine Z_istore2 hk rfl (by decide) dJ7_fill_53178_1 ?_
  refine Z_aload0 hk dJ7_fill_53178_2 ?_
  refine Z_alen hk (i := 0) dJ7_fill_53178_3 h_w.1 (by decide) h_w.2.1 ?_
  have J5 : ∀ (n : Nat) (x2_5 : Int) (x3_5 : Int) (m5 : Mem), (((0 ≤ x2_5 ∧ x2_5 ≤ n_w ∧ x3_5 = n_w) ∧ ∀ j : Nat, (j : Int) < x2_5 → m5 w j = v) ∧ (∀ c : Nat, c ≠ w → m5 c = M c)) → ((n_w : Int) - x2_5) < (n : Int) → Zj κ δ ad rs Q 4 (121, 0, 0) 5 [some (.ref (ad w)), some (iv v), some (iv x2_5), some (iv x3_5)] [] m5 := by
    intro n
    induction n with
    | zero => intro x2_5 x3_5 m5 h5 hm5; exfalso; obtain ⟨h5, -⟩ := h5; omega
    | succ n ih5 =>
      intro x2_5 x3_5 m5 h5 hm5
      obtain ⟨h5, f5_0⟩ := h5
      try simp only [f5_0, and_true, true_and, or_true, true_or, implies_true, upn, reduceIte, Nat.reduceEqDiff, ne_eq, not_false_eq_true, upc] at h5 hm5
      refine Z_iload2 hk dJ7_fill_53178_5 ?_
      refine Z_iload3 hk dJ7_fill_53178_6 ?_
      refine Z_icmp_ge hk (tgt := 20) dJ7_fill_53178_7 (by decide) (by omega) (by omega) (by omega) (by omega) (fun h7 => ?_) (fun h7 => ?_)
      · exact Z_vret hk hA hQ dJ7_fill_53178_20 ⟨rfl, rfl, rfl, (by exact ⟨(by (try simp only [f5_0, and_true, true_and, or_true, true_or, implies_true, upn, reduceIte, Nat.reduceEqDiff, ne_eq, not_false_eq_true, upc]) <;> (exact fun j hj => h5.2 j (by omega))), (by intro c k0; simp only [f5_0, upc, upn, k0, reduceIte, Nat.reduceEqDiff, ne_eq, not_false_eq_true])⟩)⟩
      · refine Z_aload0 hk dJ7_fill_53178_10 ?_
        refine Z_iload2 hk dJ7_fill_53178_11 ?_
        refine Z_iload1 hk dJ7_fill_53178_12 ?_
        refine Z_iast hk hA dJ7_fill_53178_13 h_w.1 h_w.2.1 h_w.2.2 (by omega) (by omega) (by omega) (by omega) ?_
        refine Z_nm (fun m13 em13 => ?_)
        refine Z_iinc2 hk rfl (by decide) dJ7_fill_53178_14 ?_
        refine Z_goto hk (tgt := 5) dJ7_fill_53178_17 (by decide) ?_
        exact ih5 _ _ _ (by exact ⟨(by (exact ⟨by omega, fun j hj => by simp only [em13, f5_0, and_true, true_and, or_true, true_or, implies_true, upn, reduceIte, Nat.reduceEqDiff, ne_eq, not_false_eq_true, upc, upc]; split; rfl; exact h5.2 j (by omega)⟩)), (by intro c k0; simp only [em13, f5_0, upc, upn, k0, reduceIte, Nat.reduceEqDiff, ne_eq, not_false_eq_true])⟩) (by (try simp only [em13, f5_0, and_true, true_and, or_true, true_or, implies_true, upn, reduceIte, Nat.reduceEqDiff, ne_eq, not_false_eq_true, upc]) <;> (omega))
  refine Z_istore3 hk rfl (by decide) dJ7_fill_53178_4 ?_
  exact J5 ((((n_w : Int) - 0) : Int).toNat + 1) _ _ _ (by exact ⟨(by (exact ⟨by omega, fun j hj => by omega⟩)), (by intro c k0; rfl)⟩) (by omega)
set_option maxRecDepth 10000 in
theorem c_J7_fill_d0a16 (l : Launch) (δ : Dp) (ad : Nat → Nat) (M : Mem) (hA : okA δ ad) (w n_w : Nat) (h_w : lay w = (101, n_w) ∧ w < 121 ∧ n_w < 2147483648) (v : Int) (i_v : -9223372036854775808 ≤ v ∧ v ≤ 9223372036854775807) : Mv l δ yJ7_fill_d0a16 cJ7_fill_d0a16 5 none 0 0 ad rs [.ref (ad w), jv v] M (fun M' => (∀ j : Nat, (j : Int) < n_w → M' w j = v) ∧ (∀ c : Nat, c ≠ w → M' c = M c)) := by
  refine Mg.of (rm := rmN 0 0) (by decide) (Nat.le_of_ble_eq_true rfl) fun κ _ hk _ => ?_
  generalize hQ : Qg κ δ 121 (rmN 0 0).cells (rmN 0 0).slots _ = Q
  show Zj κ δ ad rs Q 5 (121, 0, 0) 0 [some (.ref (ad w)), some (jv v), none, none, none] [] M
  refine Z_iconst hk dJ7_fill_d0a16_0 ?_
  refine Z_istore3 hk rfl (by decide) dJ7_fill_d0a16_1 ?_
  refine Z_aload0 hk dJ7_fill_d0a16_2 ?_
  refine Z_alen hk (i := 0) dJ7_fill_d0a16_3 h_w.1 (by decide) h_w.2.1 ?_
  have J6 : ∀ (n : Nat) (x3_6 : Int) (x4_6 : Int) (m6 : Mem), (((0 ≤ x3_6 ∧ x3_6 ≤ n_w ∧ x4_6 = n_w) ∧ ∀ j : Nat, (j : Int) < x3_6 → m6 w j = v) ∧ (∀ c : Nat, c ≠ w → m6 c = M c)) → ((n_w : Int) - x3_6) < (n : Int) → Zj κ δ ad rs Q 5 (121, 0, 0) 6 [some (.ref (ad w)), some (jv v), none, some (iv x3_6), some (iv x4_6)] [] m6 := by
    intro n
    induction n with
    | zero => intro x3_6 x4_6 m6 h6 hm6; exfalso; obtain ⟨h6, -⟩ := h6; omega
    | succ n ih6 =>
      intro x3_6 x4_6 m6 h6 hm6
      obtain ⟨h6, f6_0⟩ := h6
      try simp only [f6_0, and_true, true_and, or_true, true_or, implies_true, upn, reduceIte, Nat.reduceEqDiff, ne_eq, not_false_eq_true, upc] at h6 hm6
      refine Z_iload3 hk dJ7_fill_d0a16_6 ?_
      refine Z_iload4 hk dJ7_fill_d0a16_7 ?_
      refine Z_icmp_ge hk (tgt := 22) dJ7_fill_d0a16_9 (by decide) (by omega) (by omega) (by omega) (by omega) (fun h9 => ?_) (fun h9 => ?_)
      · exact Z_vret hk hA hQ dJ7_fill_d0a16_22 ⟨rfl, rfl, rfl, (by exact ⟨(by (try simp only [f6_0, and_true, true_and, or_true, true_or, implies_true, upn, reduceIte, Nat.reduceEqDiff, ne_eq, not_false_eq_true, upc]) <;> (exact fun j hj => h6.2 j (by omega))), (by intro c k0; simp only [f6_0, upc, upn, k0, reduceIte, Nat.reduceEqDiff, ne_eq, not_false_eq_true])⟩)⟩
      · refine Z_aload0 hk dJ7_fill_d0a16_12 ?_
        refine Z_iload3 hk dJ7_fill_d0a16_13 ?_
        refine Z_lload1 hk dJ7_fill_d0a16_14 ?_
        refine Z_last hk hA dJ7_fill_d0a16_15 h_w.1 h_w.2.1 h_w.2.2 (by omega) (by omega) (by omega) (by omega) ?_
        refine Z_nm (fun m15 em15 => ?_)
        refine Z_iinc3 hk rfl (by decide) dJ7_fill_d0a16_16 ?_
        refine Z_goto hk (tgt := 6) dJ7_fill_d0a16_19 (by decide) ?_
        exact ih6 _ _ _ (by exact ⟨(by (exact ⟨by omega, fun j hj => by simp only [em15, f6_0, and_true, true_and, or_true, true_or, implies_true, upn, reduceIte, Nat.reduceEqDiff, ne_eq, not_false_eq_true, upc, upc]; split; rfl; exact h6.2 j (by omega)⟩)), (by intro c k0; simp only [em15, f6_0, upc, upn, k0, reduceIte, Nat.reduceEqDiff, ne_eq, not_false_eq_true])⟩) (by (try simp only [em15, f6_0, and_true, true_and, or_true, true_or, implies_true, upn, reduceIte, Nat.reduceEqDiff, ne_eq, not_false_eq_true, upc]) <;> (omega))
  refine Z_istore4 hk rfl (by decide) dJ7_fill_d0a16_4 ?_
  exact J6 ((((n_w : Int) - 0) : Int).toNat + 1) _ _ _ (by exact ⟨(by (exact ⟨by omega, fun j hj => by omega⟩)), (by intro c k0; rfl)⟩) (by omega)
/-- what an act of the class may hold: kind, first .. fourth -/
def RD (w a b c d : Int) : Prop := (w = 1 → 0 ≤ b ∧ b ≤ 29 ∧ -1 ≤ c ∧ c ≤ 89) ∧ (w = 2 → 0 ≤ a ∧ a ≤ 29 ∧ 0 ≤ b ∧ b ≤ 9 ∧ 0 ≤ c ∧ c ≤ 5 ∧ 0 ≤ d ∧ d ≤ 100) ∧ (w = 3 → 0 ≤ b ∧ b ≤ 89 ∧ 0 ≤ c ∧ c ≤ 89)
def AD (n : Int) (K A B C D : Nat → Int) : Prop := ∀ k : Nat, 1 ≤ k → (k : Int) ≤ n → RD (K k) (A k) (B k) (C k) (D k)
theorem AD.add {n w a b c d : Int} {K A B C D : Nat → Int} (h : AD n K A B C D) (hn : 0 ≤ n) (r : RD w a b c d) : AD (n + 1) (upr K (n + 1).toNat w) (upr A (n + 1).toNat a) (upr B (n + 1).toNat b) (upr C (n + 1).toNat c) (upr D (n + 1).toNat d) := by
  intro j h1 h2
  by_cases e : j = (n + 1).toNat
  · subst e
    rw [upr_eq, upr_eq, upr_eq, upr_eq, upr_eq]
    exact r
  · rw [upr_ne e, upr_ne e, upr_ne e, upr_ne e, upr_ne e]
    exact h j h1 (by omega)
theorem AD.nil {n : Int} {K A B C D : Nat → Int} (h : n ≤ 0) : AD n K A B C D := fun j h1 h2 => by omega
set_option maxRecDepth 10000 in
theorem c_X2_clear (l : Launch) (δ : Dp) (ad : Nat → Nat) (M : Mem) (hA : okA δ ad) : Mv l δ yX2_clear cX2_clear 1 none 0 0 ad rs [.ref (ad 1)] M (fun M' => ((M' 1 0) = 0) ∧ (∀ c : Nat, c ≠ 1 → M' c = M c) ∧ (∀ i : Nat, i ≠ 0 → M' 1 i = M 1 i)) := by
  refine Mg.of (rm := rmN 0 0) (by decide) (Nat.le_of_ble_eq_true rfl) fun κ _ hk _ => ?_
  generalize hQ : Qg κ δ 121 (rmN 0 0).cells (rmN 0 0).slots _ = Q
  show Zj κ δ ad rs Q 1 (121, 0, 0) 0 [some (.ref (ad 1))] [] M
  refine Z_aload0 hk dX2_clear_0 ?_
  refine Z_iconst hk dX2_clear_1 ?_
  refine Z_putI hk hA fl_2_30 dX2_clear_2 ob_1.1 ob_1.2.1 ob_1.2.2.1 ob_1.2.2.2 ft_2_0 (by decide) (by decide) ?_
  refine Z_nm (fun m2 em2 => ?_)
  exact Z_vret hk hA hQ dX2_clear_5 ⟨rfl, rfl, rfl, (by exact ⟨(by (try simp only [em2, and_true, true_and, or_true, true_or, implies_true, upn, reduceIte, Nat.reduceEqDiff, ne_eq, not_false_eq_true, upc]) <;> (omega)), (by intro c k0; simp only [em2, upc, upn, k0, reduceIte, Nat.reduceEqDiff, ne_eq, not_false_eq_true]), (by intro i k0; simp only [em2, upc, upn, k0, reduceIte, Nat.reduceEqDiff, ne_eq, not_false_eq_true])⟩)⟩
set_option maxRecDepth 10000 in
theorem c_X2_isFull (l : Launch) (δ : Dp) (ad : Nat → Nat) (M : Mem) (hA : okA δ ad) : Mi l δ yX2_isFull cX2_isFull 1 (some (.boolean)) 0 0 ad rs [.ref (ad 1)] M (fun r M' => M = M' ∧ (0 ≤ r ∧ r ≤ 1 ∧ (r = 1 ↔ 250 ≤ (M 1 0)))) := by
  refine Mg.of (rm := rmN 0 0) (by decide) (Nat.le_of_ble_eq_true rfl) fun κ _ hk _ => ?_
  generalize hQ : Qg κ δ 121 (rmN 0 0).cells (rmN 0 0).slots _ = Q
  show Zj κ δ ad rs Q 1 (121, 0, 0) 0 [some (.ref (ad 1))] [] M
  refine Z_aload0 hk dX2_isFull_0 ?_
  refine Z_getI hk fl_2_30 dX2_isFull_1 ob_1.1 ob_1.2.1 ob_1.2.2.1 ob_1.2.2.2 ft_2_0 (fun v1 e1 a1 b1 => ?_)
  refine Z_sipush hk dX2_isFull_4 (by decide) ?_
  refine Z_icmp_lt hk (tgt := 14) dX2_isFull_7 (by decide) (by omega) (by omega) (by decide) (by decide) (fun h7 => ?_) (fun h7 => ?_)
  · refine Z_iconst hk dX2_isFull_14 ?_
    exact Z_zret hk hA hQ dX2_isFull_15 (by decide) (by decide) ⟨rfl, rfl, _, rfl, (by exact ⟨rfl, (by omega)⟩)⟩
  · refine Z_iconst hk dX2_isFull_10 ?_
    refine Z_goto hk (tgt := 15) dX2_isFull_11 (by decide) ?_
    exact Z_zret hk hA hQ dX2_isFull_15 (by decide) (by decide) ⟨rfl, rfl, _, rfl, (by exact ⟨rfl, (by omega)⟩)⟩
set_option maxRecDepth 10000 in
theorem c_X2_note (l : Launch) (δ : Dp) (ad : Nat → Nat) (M : Mem) (hA : okA δ ad) (w : Int) (a : Int) (b : Int) (c : Int) (d : Int) (q0 : 0 ≤ M 1 0 ∧ M 1 0 ≤ 250) (q1 : AD (M 1 0) (M 2) (M 3) (M 4) (M 5) (M 6)) (q2 : RD w a b c d) (i_w : -2147483648 ≤ w ∧ w ≤ 2147483647) (i_a : -2147483648 ≤ a ∧ a ≤ 2147483647) (i_b : -2147483648 ≤ b ∧ b ≤ 2147483647) (i_c : -2147483648 ≤ c ∧ c ≤ 2147483647) (i_d : -2147483648 ≤ d ∧ d ≤ 2147483647) : Mi l δ yX2_note cX2_note 6 (some (.int)) 1 20 ad rs [.ref (ad 1), iv w, iv a, iv b, iv c, iv d] M (fun r M' => ((M 1 0) ≤ (M' 1 0) ∧ (M' 1 0) ≤ 250 ∧ -1 ≤ r ∧ r ≤ 250) ∧ (∀ c : Nat, c ≠ 1 → c ≠ 2 → c ≠ 3 → c ≠ 4 → c ≠ 5 → c ≠ 6 → c ≠ 7 → M' c = M c) ∧ (∀ i : Nat, i ≠ 0 → M' 1 i = M 1 i) ∧ (AD (M' 1 0) (M' 2) (M' 3) (M' 4) (M' 5) (M' 6))) := by
  refine Mg.of (rm := rmN 1 20) (by decide) (Nat.le_of_ble_eq_true rfl) fun κ _ hk _ => ?_
  generalize hQ : Qg κ δ 121 (rmN 1 20).cells (rmN 1 20).slots _ = Q
  show Zj κ δ ad rs Q 6 (121, 0, 0) 0 [some (.ref (ad 1)), some (iv w), some (iv a), some (iv b), some (iv c), some (iv d)] [] M
  refine Z_aload0 hk dX2_note_0 ?_
  refine Z_Vi hk (c_X2_isFull κ.2.1 δ ad _ hA  ) ov_X2_isFull ml_X2_34 dX2_note_1 rfl ⟨by decide, by decide⟩ ob_1.1 (by decide) (by decide) rfl (Nat.le_of_ble_eq_true rfl) (fun r1 m1 p1 => ?_)
  obtain ⟨rfl, p1⟩ := p1
  refine Z_if_eq hk (tgt := 9) dX2_note_4 (by decide) (by omega) (by omega) (fun h4 => ?_) (fun h4 => ?_)
  · refine Z_aload0 hk dX2_note_9 ?_
    refine Z_dup1 hk rfl dX2_note_10 ?_
    refine Z_getI hk fl_2_30 dX2_note_11 ob_1.1 ob_1.2.1 ob_1.2.2.1 ob_1.2.2.2 ft_2_0 (fun v11 e11 a11 b11 => ?_)
    refine Z_iconst hk dX2_note_14 ?_
    refine Z_iadd hk dX2_note_15 ?_
    refine Z_putI hk hA fl_2_30 dX2_note_16 ob_1.1 ob_1.2.1 ob_1.2.2.1 ob_1.2.2.2 ft_2_0 (by omega) (by omega) ?_
    refine Z_nm (fun m16 em16 => ?_)
    refine Z_aload0 hk dX2_note_19 ?_
    refine Z_getR hk fl_2_9 dX2_note_20 ob_1.1 ob_1.2.1 ob_1.2.2.1 ob_1.2.2.2 ft_2_1 rs_1_1 ?_
    refine Z_aload0 hk dX2_note_23 ?_
    refine Z_getI hk fl_2_30 dX2_note_24 ob_1.1 ob_1.2.1 ob_1.2.2.1 ob_1.2.2.2 ft_2_0 (fun v24 e24 a24 b24 => ?_)
    try simp only [em16, e11, and_true, true_and, or_true, true_or, implies_true, upn, reduceIte, Nat.reduceEqDiff, ne_eq, not_false_eq_true, upc] at e24
    refine Z_iload1 hk dX2_note_27 ?_
    refine Z_iast hk hA dX2_note_28 ar_2.1 ar_2.2.1 ar_2.2.2 (by omega) (by omega) (by omega) (by omega) ?_
    refine Z_nm (fun m28 em28 => ?_)
    refine Z_aload0 hk dX2_note_29 ?_
    refine Z_getR hk fl_2_15 dX2_note_30 ob_1.1 ob_1.2.1 ob_1.2.2.1 ob_1.2.2.2 ft_2_2 rs_1_2 ?_
    refine Z_aload0 hk dX2_note_33 ?_
    refine Z_getI hk fl_2_30 dX2_note_34 ob_1.1 ob_1.2.1 ob_1.2.2.1 ob_1.2.2.2 ft_2_0 (fun v34 e34 a34 b34 => ?_)
    try simp only [em28, em16, e11, e24, and_true, true_and, or_true, true_or, implies_true, upn, reduceIte, Nat.reduceEqDiff, ne_eq, not_false_eq_true, upc] at e34
    refine Z_iload2 hk dX2_note_37 ?_
    refine Z_iast hk hA dX2_note_38 ar_3.1 ar_3.2.1 ar_3.2.2 (by omega) (by omega) (by omega) (by omega) ?_
    refine Z_nm (fun m38 em38 => ?_)
    refine Z_aload0 hk dX2_note_39 ?_
    refine Z_getR hk fl_2_18 dX2_note_40 ob_1.1 ob_1.2.1 ob_1.2.2.1 ob_1.2.2.2 ft_2_3 rs_1_3 ?_
    refine Z_aload0 hk dX2_note_43 ?_
    refine Z_getI hk fl_2_30 dX2_note_44 ob_1.1 ob_1.2.1 ob_1.2.2.1 ob_1.2.2.2 ft_2_0 (fun v44 e44 a44 b44 => ?_)
    try simp only [em38, em28, em16, e11, e24, e34, and_true, true_and, or_true, true_or, implies_true, upn, reduceIte, Nat.reduceEqDiff, ne_eq, not_false_eq_true, upc] at e44
    refine Z_iload3 hk dX2_note_47 ?_
    refine Z_iast hk hA dX2_note_48 ar_4.1 ar_4.2.1 ar_4.2.2 (by omega) (by omega) (by omega) (by omega) ?_
    refine Z_nm (fun m48 em48 => ?_)
    refine Z_aload0 hk dX2_note_49 ?_
    refine Z_getR hk fl_2_21 dX2_note_50 ob_1.1 ob_1.2.1 ob_1.2.2.1 ob_1.2.2.2 ft_2_4 rs_1_4 ?_
    refine Z_aload0 hk dX2_note_53 ?_
    refine Z_getI hk fl_2_30 dX2_note_54 ob_1.1 ob_1.2.1 ob_1.2.2.1 ob_1.2.2.2 ft_2_0 (fun v54 e54 a54 b54 => ?_)
    try simp only [em48, em38, em28, em16, e11, e24, e34, e44, and_true, true_and, or_true, true_or, implies_true, upn, reduceIte, Nat.reduceEqDiff, ne_eq, not_false_eq_true, upc] at e54
    refine Z_iload4 hk dX2_note_57 ?_
    refine Z_iast hk hA dX2_note_59 ar_5.1 ar_5.2.1 ar_5.2.2 (by omega) (by omega) (by omega) (by omega) ?_
    refine Z_nm (fun m59 em59 => ?_)
    refine Z_aload0 hk dX2_note_60 ?_
    refine Z_getR hk fl_2_24 dX2_note_61 ob_1.1 ob_1.2.1 ob_1.2.2.1 ob_1.2.2.2 ft_2_5 rs_1_5 ?_
    refine Z_aload0 hk dX2_note_64 ?_
    refine Z_getI hk fl_2_30 dX2_note_65 ob_1.1 ob_1.2.1 ob_1.2.2.1 ob_1.2.2.2 ft_2_0 (fun v65 e65 a65 b65 => ?_)
    try simp only [em59, em48, em38, em28, em16, e11, e24, e34, e44, e54, and_true, true_and, or_true, true_or, implies_true, upn, reduceIte, Nat.reduceEqDiff, ne_eq, not_false_eq_true, upc] at e65
    refine Z_iload5 hk dX2_note_68 ?_
    refine Z_iast hk hA dX2_note_70 ar_6.1 ar_6.2.1 ar_6.2.2 (by omega) (by omega) (by omega) (by omega) ?_
    refine Z_nm (fun m70 em70 => ?_)
    refine Z_aload0 hk dX2_note_71 ?_
    refine Z_getR hk fl_2_27 dX2_note_72 ob_1.1 ob_1.2.1 ob_1.2.2.1 ob_1.2.2.2 ft_2_6 rs_1_6 ?_
    refine Z_aload0 hk dX2_note_75 ?_
    refine Z_getI hk fl_2_30 dX2_note_76 ob_1.1 ob_1.2.1 ob_1.2.2.1 ob_1.2.2.2 ft_2_0 (fun v76 e76 a76 b76 => ?_)
    try simp only [em70, em59, em48, em38, em28, em16, e11, e24, e34, e44, e54, e65, and_true, true_and, or_true, true_or, implies_true, upn, reduceIte, Nat.reduceEqDiff, ne_eq, not_false_eq_true, upc] at e76
    refine Z_iconst hk dX2_note_79 ?_
    refine Z_iast hk hA dX2_note_80 ar_7.1 ar_7.2.1 ar_7.2.2 (by omega) (by omega) (by decide) (by decide) ?_
    refine Z_nm (fun m80 em80 => ?_)
    refine Z_aload0 hk dX2_note_81 ?_
    refine Z_getI hk fl_2_30 dX2_note_82 ob_1.1 ob_1.2.1 ob_1.2.2.1 ob_1.2.2.2 ft_2_0 (fun v82 e82 a82 b82 => ?_)
    try simp only [em80, em70, em59, em48, em38, em28, em16, e11, e24, e34, e44, e54, e65, e76, and_true, true_and, or_true, true_or, implies_true, upn, reduceIte, Nat.reduceEqDiff, ne_eq, not_false_eq_true, upc] at e82
    exact Z_iret hk hA hQ dX2_note_85 ⟨rfl, rfl, _, rfl, (by exact ⟨(by (try simp only [em80, em70, em59, em48, em38, em28, em16, and_true, true_and, or_true, true_or, implies_true, upn, reduceIte, Nat.reduceEqDiff, ne_eq, not_false_eq_true, upc]) <;> (omega)), (by intro c k0 k1 k2 k3 k4 k5 k6; simp only [em80, em70, em59, em48, em38, em28, em16, upc, upn, k0, k1, k2, k3, k4, k5, k6, reduceIte, Nat.reduceEqDiff, ne_eq, not_false_eq_true]), (by intro i k0; simp only [em80, em70, em59, em48, em38, em28, em16, upc, upn, k0, reduceIte, Nat.reduceEqDiff, ne_eq, not_false_eq_true]), (by first | exact q1 | (simp only [em80, em70, em59, em48, em38, em28, em16, e11, e24, e34, e44, e54, e65, e76, e82, and_true, true_and, or_true, true_or, implies_true, upn, reduceIte, Nat.reduceEqDiff, ne_eq, not_false_eq_true, upc, upc]; exact q1.add (by omega) q2))⟩)⟩
  · refine Z_iconst hk dX2_note_7 ?_
    exact Z_iret hk hA hQ dX2_note_8 ⟨rfl, rfl, _, rfl, (by exact ⟨(by (omega)), (by intro c k0 k1 k2 k3 k4 k5 k6; rfl), (by intro i k0; rfl), (by first | exact q1 | (simp only [and_true, true_and, or_true, true_or, implies_true, upn, reduceIte, Nat.reduceEqDiff, ne_eq, not_false_eq_true, upc, upc]; exact q1.add (by omega) q2))⟩)⟩
set_option maxRecDepth 10000 in
theorem c_X2_canBeVoid (l : Launch) (δ : Dp) (ad : Nat → Nat) (M : Mem) (hA : okA δ ad) (a : Int) (q0 : 0 ≤ M 1 0 ∧ M 1 0 ≤ 250) (i_a : -2147483648 ≤ a ∧ a ≤ 2147483647) : Mi l δ yX2_canBeVoid cX2_canBeVoid 2 (some (.boolean)) 0 0 ad rs [.ref (ad 1), iv a] M (fun r M' => M = M' ∧ (0 ≤ r ∧ r ≤ 1)) := by
  refine Mg.of (rm := rmN 0 0) (by decide) (Nat.le_of_ble_eq_true rfl) fun κ _ hk _ => ?_
  generalize hQ : Qg κ δ 121 (rmN 0 0).cells (rmN 0 0).slots _ = Q
  show Zj κ δ ad rs Q 2 (121, 0, 0) 0 [some (.ref (ad 1)), some (iv a)] [] M
  refine Z_iload1 hk dX2_canBeVoid_0 ?_
  refine Z_iconst hk dX2_canBeVoid_1 ?_
  refine Z_icmp_lt hk (tgt := 36) dX2_canBeVoid_2 (by decide) (by omega) (by omega) (by decide) (by decide) (fun h2 => ?_) (fun h2 => ?_)
  · refine Z_iconst hk dX2_canBeVoid_36 ?_
    exact Z_zret hk hA hQ dX2_canBeVoid_37 (by decide) (by decide) ⟨rfl, rfl, _, rfl, (by exact ⟨rfl, (by omega)⟩)⟩
  · refine Z_iload1 hk dX2_canBeVoid_5 ?_
    refine Z_aload0 hk dX2_canBeVoid_6 ?_
    refine Z_getI hk fl_2_30 dX2_canBeVoid_7 ob_1.1 ob_1.2.1 ob_1.2.2.1 ob_1.2.2.2 ft_2_0 (fun v7 e7 a7 b7 => ?_)
    refine Z_icmp_gt hk (tgt := 36) dX2_canBeVoid_10 (by decide) (by omega) (by omega) (by omega) (by omega) (fun h10 => ?_) (fun h10 => ?_)
    · refine Z_iconst hk dX2_canBeVoid_36 ?_
      exact Z_zret hk hA hQ dX2_canBeVoid_37 (by decide) (by decide) ⟨rfl, rfl, _, rfl, (by exact ⟨rfl, (by omega)⟩)⟩
    · refine Z_aload0 hk dX2_canBeVoid_13 ?_
      refine Z_getR hk fl_2_9 dX2_canBeVoid_14 ob_1.1 ob_1.2.1 ob_1.2.2.1 ob_1.2.2.2 ft_2_1 rs_1_1 ?_
      refine Z_iload1 hk dX2_canBeVoid_17 ?_
      refine Z_iald hk dX2_canBeVoid_18 ar_2.1 ar_2.2.1 ar_2.2.2 (by omega) (by omega) (fun v18 e18 a18 b18 => ?_)
      try simp only [e7, and_true, true_and, or_true, true_or, implies_true, upn, reduceIte, Nat.reduceEqDiff, ne_eq, not_false_eq_true, upc] at e18
      refine Z_iconst hk dX2_canBeVoid_19 ?_
      refine Z_icmp_eq hk (tgt := 36) dX2_canBeVoid_20 (by decide) (by omega) (by omega) (by decide) (by decide) (fun h20 => ?_) (fun h20 => ?_)
      · refine Z_iconst hk dX2_canBeVoid_36 ?_
        exact Z_zret hk hA hQ dX2_canBeVoid_37 (by decide) (by decide) ⟨rfl, rfl, _, rfl, (by exact ⟨rfl, (by omega)⟩)⟩
      · refine Z_aload0 hk dX2_canBeVoid_23 ?_
        refine Z_getR hk fl_2_27 dX2_canBeVoid_24 ob_1.1 ob_1.2.1 ob_1.2.2.1 ob_1.2.2.2 ft_2_6 rs_1_6 ?_
        refine Z_iload1 hk dX2_canBeVoid_27 ?_
        refine Z_iald hk dX2_canBeVoid_28 ar_7.1 ar_7.2.1 ar_7.2.2 (by omega) (by omega) (fun v28 e28 a28 b28 => ?_)
        try simp only [e7, e18, and_true, true_and, or_true, true_or, implies_true, upn, reduceIte, Nat.reduceEqDiff, ne_eq, not_false_eq_true, upc] at e28
        refine Z_if_ne hk (tgt := 36) dX2_canBeVoid_29 (by decide) (by omega) (by omega) (fun h29 => ?_) (fun h29 => ?_)
        · refine Z_iconst hk dX2_canBeVoid_36 ?_
          exact Z_zret hk hA hQ dX2_canBeVoid_37 (by decide) (by decide) ⟨rfl, rfl, _, rfl, (by exact ⟨rfl, (by omega)⟩)⟩
        · refine Z_iconst hk dX2_canBeVoid_32 ?_
          refine Z_goto hk (tgt := 37) dX2_canBeVoid_33 (by decide) ?_
          exact Z_zret hk hA hQ dX2_canBeVoid_37 (by decide) (by decide) ⟨rfl, rfl, _, rfl, (by exact ⟨rfl, (by omega)⟩)⟩
set_option maxRecDepth 10000 in
theorem c_X2_noteVoid (l : Launch) (δ : Dp) (ad : Nat → Nat) (M : Mem) (hA : okA δ ad) (a : Int) (q0 : 0 ≤ M 1 0 ∧ M 1 0 ≤ 250) (q1 : AD (M 1 0) (M 2) (M 3) (M 4) (M 5) (M 6)) (i_a : -2147483648 ≤ a ∧ a ≤ 2147483647) : Mi l δ yX2_noteVoid cX2_noteVoid 3 (some (.int)) 2 45 ad rs [.ref (ad 1), iv a] M (fun r M' => ((M 1 0) ≤ (M' 1 0) ∧ (M' 1 0) ≤ 250) ∧ (∀ c : Nat, c ≠ 1 → c ≠ 2 → c ≠ 3 → c ≠ 4 → c ≠ 5 → c ≠ 6 → c ≠ 7 → M' c = M c) ∧ (∀ i : Nat, i ≠ 0 → M' 1 i = M 1 i) ∧ (AD (M' 1 0) (M' 2) (M' 3) (M' 4) (M' 5) (M' 6))) := by
  refine Mg.of (rm := rmN 2 45) (by decide) (Nat.le_of_ble_eq_true rfl) fun κ _ hk _ => ?_
  generalize hQ : Qg κ δ 121 (rmN 2 45).cells (rmN 2 45).slots _ = Q
  show Zj κ δ ad rs Q 3 (121, 0, 0) 0 [some (.ref (ad 1)), some (iv a), none] [] M
  refine Z_aload0 hk dX2_noteVoid_0 ?_
  refine Z_iconst hk dX2_noteVoid_1 ?_
  refine Z_iload1 hk dX2_noteVoid_2 ?_
  refine Z_iconst hk dX2_noteVoid_3 ?_
  refine Z_iconst hk dX2_noteVoid_4 ?_
  refine Z_iconst hk dX2_noteVoid_5 ?_
  refine Z_Vi hk (c_X2_note κ.2.1 δ ad _ hA 4 a 0 0 0 (by (omega)) (by (exact q1)) (by (exact ⟨fun h => by omega, fun h => by omega, fun h => by omega⟩)) (by (omega)) (by (omega)) (by (omega)) (by (omega)) (by (omega))) ov_X2_note ml_X2_38 dX2_noteVoid_6 rfl ⟨by decide, by decide⟩ ob_1.1 (by decide) (by decide) rfl (Nat.le_of_ble_eq_true rfl) (fun r6 m6 p6 => ?_)
  obtain ⟨p6, f6_0, f6_1, f6_2⟩ := p6
  try simp only [f6_0, f6_1, f6_2, and_true, true_and, or_true, true_or, implies_true, upn, reduceIte, Nat.reduceEqDiff, ne_eq, not_false_eq_true, upc] at p6
  refine Z_istore2 hk rfl (by decide) dX2_noteVoid_9 ?_
  refine Z_iload2 hk dX2_noteVoid_10 ?_
  refine Z_iconst hk dX2_noteVoid_11 ?_
  refine Z_icmp_eq hk (tgt := 34) dX2_noteVoid_12 (by decide) (by omega) (by omega) (by decide) (by decide) (fun h12 => ?_) (fun h12 => ?_)
  · refine Z_iload2 hk dX2_noteVoid_34 ?_
    exact Z_iret hk hA hQ dX2_noteVoid_35 ⟨rfl, rfl, _, rfl, (by exact ⟨(by (try simp only [f6_0, f6_1, f6_2, and_true, true_and, or_true, true_or, implies_true, upn, reduceIte, Nat.reduceEqDiff, ne_eq, not_false_eq_true, upc]) <;> (omega)), (by intro c k0 k1 k2 k3 k4 k5 k6; simp only [f6_0, f6_1, f6_2, upc, upn, k0, k1, k2, k3, k4, k5, k6, reduceIte, Nat.reduceEqDiff, ne_eq, not_false_eq_true]), (by intro i k0; simp only [f6_0, f6_1, f6_2, upc, upn, k0, reduceIte, Nat.reduceEqDiff, ne_eq, not_false_eq_true]), (by first | assumption | (simp only [f6_0, f6_1, f6_2, and_true, true_and, or_true, true_or, implies_true, upn, reduceIte, Nat.reduceEqDiff, ne_eq, not_false_eq_true, upc, upc]; assumption) | simp only [f6_0, f6_1, f6_2, and_true, true_and, or_true, true_or, implies_true, upn, reduceIte, Nat.reduceEqDiff, ne_eq, not_false_eq_true, upc, upc])⟩)⟩
  · refine Z_iload1 hk dX2_noteVoid_15 ?_
    refine Z_iconst hk dX2_noteVoid_16 ?_
    refine Z_icmp_lt hk (tgt := 34) dX2_noteVoid_17 (by decide) (by omega) (by omega) (by decide) (by decide) (fun h17 => ?_) (fun h17 => ?_)
    · refine Z_iload2 hk dX2_noteVoid_34 ?_
      exact Z_iret hk hA hQ dX2_noteVoid_35 ⟨rfl, rfl, _, rfl, (by exact ⟨(by (try simp only [f6_0, f6_1, f6_2, and_true, true_and, or_true, true_or, implies_true, upn, reduceIte, Nat.reduceEqDiff, ne_eq, not_false_eq_true, upc]) <;> (omega)), (by intro c k0 k1 k2 k3 k4 k5 k6; simp only [f6_0, f6_1, f6_2, upc, upn, k0, k1, k2, k3, k4, k5, k6, reduceIte, Nat.reduceEqDiff, ne_eq, not_false_eq_true]), (by intro i k0; simp only [f6_0, f6_1, f6_2, upc, upn, k0, reduceIte, Nat.reduceEqDiff, ne_eq, not_false_eq_true]), (by first | assumption | (simp only [f6_0, f6_1, f6_2, and_true, true_and, or_true, true_or, implies_true, upn, reduceIte, Nat.reduceEqDiff, ne_eq, not_false_eq_true, upc, upc]; assumption) | simp only [f6_0, f6_1, f6_2, and_true, true_and, or_true, true_or, implies_true, upn, reduceIte, Nat.reduceEqDiff, ne_eq, not_false_eq_true, upc, upc])⟩)⟩
    · refine Z_iload1 hk dX2_noteVoid_20 ?_
      refine Z_sipush hk dX2_noteVoid_21 (by decide) ?_
      refine Z_icmp_gt hk (tgt := 34) dX2_noteVoid_24 (by decide) (by omega) (by omega) (by decide) (by decide) (fun h24 => ?_) (fun h24 => ?_)
      · refine Z_iload2 hk dX2_noteVoid_34 ?_
        exact Z_iret hk hA hQ dX2_noteVoid_35 ⟨rfl, rfl, _, rfl, (by exact ⟨(by (try simp only [f6_0, f6_1, f6_2, and_true, true_and, or_true, true_or, implies_true, upn, reduceIte, Nat.reduceEqDiff, ne_eq, not_false_eq_true, upc]) <;> (omega)), (by intro c k0 k1 k2 k3 k4 k5 k6; simp only [f6_0, f6_1, f6_2, upc, upn, k0, k1, k2, k3, k4, k5, k6, reduceIte, Nat.reduceEqDiff, ne_eq, not_false_eq_true]), (by intro i k0; simp only [f6_0, f6_1, f6_2, upc, upn, k0, reduceIte, Nat.reduceEqDiff, ne_eq, not_false_eq_true]), (by first | assumption | (simp only [f6_0, f6_1, f6_2, and_true, true_and, or_true, true_or, implies_true, upn, reduceIte, Nat.reduceEqDiff, ne_eq, not_false_eq_true, upc, upc]; assumption) | simp only [f6_0, f6_1, f6_2, and_true, true_and, or_true, true_or, implies_true, upn, reduceIte, Nat.reduceEqDiff, ne_eq, not_false_eq_true, upc, upc])⟩)⟩
      · refine Z_aload0 hk dX2_noteVoid_27 ?_
        refine Z_getR hk fl_2_27 dX2_noteVoid_28 ob_1.1 ob_1.2.1 ob_1.2.2.1 ob_1.2.2.2 ft_2_6 rs_1_6 ?_
        refine Z_iload1 hk dX2_noteVoid_31 ?_
        refine Z_iload2 hk dX2_noteVoid_32 ?_
        refine Z_iast hk hA dX2_noteVoid_33 ar_7.1 ar_7.2.1 ar_7.2.2 (by omega) (by omega) (by omega) (by omega) ?_
        refine Z_nm (fun m33 em33 => ?_)
        refine Z_iload2 hk dX2_noteVoid_34 ?_
        exact Z_iret hk hA hQ dX2_noteVoid_35 ⟨rfl, rfl, _, rfl, (by exact ⟨(by (try simp only [em33, f6_0, f6_1, f6_2, and_true, true_and, or_true, true_or, implies_true, upn, reduceIte, Nat.reduceEqDiff, ne_eq, not_false_eq_true, upc]) <;> (omega)), (by intro c k0 k1 k2 k3 k4 k5 k6; simp only [em33, f6_0, f6_1, f6_2, upc, upn, k0, k1, k2, k3, k4, k5, k6, reduceIte, Nat.reduceEqDiff, ne_eq, not_false_eq_true]), (by intro i k0; simp only [em33, f6_0, f6_1, f6_2, upc, upn, k0, reduceIte, Nat.reduceEqDiff, ne_eq, not_false_eq_true]), (by first | assumption | (simp only [em33, f6_0, f6_1, f6_2, and_true, true_and, or_true, true_or, implies_true, upn, reduceIte, Nat.reduceEqDiff, ne_eq, not_false_eq_true, upc, upc]; assumption) | simp only [em33, f6_0, f6_1, f6_2, and_true, true_and, or_true, true_or, implies_true, upn, reduceIte, Nat.reduceEqDiff, ne_eq, not_false_eq_true, upc, upc])⟩)⟩
set_option maxRecDepth 10000 in
theorem c_X2_isKnown (l : Launch) (δ : Dp) (ad : Nat → Nat) (M : Mem) (hA : okA δ ad) (a : Int) (w : Int) (k : Int) (q0 : 0 ≤ a ∧ a ≤ 250) (i_w : -2147483648 ≤ w ∧ w ≤ 2147483647) (i_k : -2147483648 ≤ k ∧ k ≤ 2147483647) : Mi l δ yX2_isKnown cX2_isKnown 4 (some (.boolean)) 0 0 ad rs [.ref (ad 1), iv a, iv w, iv k] M (fun r M' => M = M' ∧ (0 ≤ r ∧ r ≤ 1 ∧ (r = 1 → M 2 a.toNat = w))) := by
  refine Mg.of (rm := rmN 0 0) (by decide) (Nat.le_of_ble_eq_true rfl) fun κ _ hk _ => ?_
  generalize hQ : Qg κ δ 121 (rmN 0 0).cells (rmN 0 0).slots _ = Q
  show Zj κ δ ad rs Q 4 (121, 0, 0) 0 [some (.ref (ad 1)), some (iv a), some (iv w), some (iv k)] [] M
  refine Z_aload0 hk dX2_isKnown_0 ?_
  refine Z_getR hk fl_2_9 dX2_isKnown_1 ob_1.1 ob_1.2.1 ob_1.2.2.1 ob_1.2.2.2 ft_2_1 rs_1_1 ?_
  refine Z_iload1 hk dX2_isKnown_4 ?_
  refine Z_iald hk dX2_isKnown_5 ar_2.1 ar_2.2.1 ar_2.2.2 (by omega) (by omega) (fun v5 e5 a5 b5 => ?_)
  refine Z_iload2 hk dX2_isKnown_6 ?_
  refine Z_icmp_ne hk (tgt := 33) dX2_isKnown_7 (by decide) (by omega) (by omega) (by omega) (by omega) (fun h7 => ?_) (fun h7 => ?_)
  · refine Z_iconst hk dX2_isKnown_33 ?_
    exact Z_zret hk hA hQ dX2_isKnown_34 (by decide) (by decide) ⟨rfl, rfl, _, rfl, (by exact ⟨rfl, (by omega)⟩)⟩
  · refine Z_aload0 hk dX2_isKnown_10 ?_
    refine Z_getR hk fl_2_27 dX2_isKnown_11 ob_1.1 ob_1.2.1 ob_1.2.2.1 ob_1.2.2.2 ft_2_6 rs_1_6 ?_
    refine Z_iload1 hk dX2_isKnown_14 ?_
    refine Z_iald hk dX2_isKnown_15 ar_7.1 ar_7.2.1 ar_7.2.2 (by omega) (by omega) (fun v15 e15 a15 b15 => ?_)
    try simp only [e5, and_true, true_and, or_true, true_or, implies_true, upn, reduceIte, Nat.reduceEqDiff, ne_eq, not_false_eq_true, upc] at e15
    refine Z_if_eq hk (tgt := 29) dX2_isKnown_16 (by decide) (by omega) (by omega) (fun h16 => ?_) (fun h16 => ?_)
    · refine Z_iconst hk dX2_isKnown_29 ?_
      refine Z_goto hk (tgt := 34) dX2_isKnown_30 (by decide) ?_
      exact Z_zret hk hA hQ dX2_isKnown_34 (by decide) (by decide) ⟨rfl, rfl, _, rfl, (by exact ⟨rfl, (by omega)⟩)⟩
    · refine Z_aload0 hk dX2_isKnown_19 ?_
      refine Z_getR hk fl_2_27 dX2_isKnown_20 ob_1.1 ob_1.2.1 ob_1.2.2.1 ob_1.2.2.2 ft_2_6 rs_1_6 ?_
      refine Z_iload1 hk dX2_isKnown_23 ?_
      refine Z_iald hk dX2_isKnown_24 ar_7.1 ar_7.2.1 ar_7.2.2 (by omega) (by omega) (fun v24 e24 a24 b24 => ?_)
      try simp only [e5, e15, and_true, true_and, or_true, true_or, implies_true, upn, reduceIte, Nat.reduceEqDiff, ne_eq, not_false_eq_true, upc] at e24
      refine Z_iload3 hk dX2_isKnown_25 ?_
      refine Z_icmp_le hk (tgt := 33) dX2_isKnown_26 (by decide) (by omega) (by omega) (by omega) (by omega) (fun h26 => ?_) (fun h26 => ?_)
      · refine Z_iconst hk dX2_isKnown_33 ?_
        exact Z_zret hk hA hQ dX2_isKnown_34 (by decide) (by decide) ⟨rfl, rfl, _, rfl, (by exact ⟨rfl, (by omega)⟩)⟩
      · refine Z_iconst hk dX2_isKnown_29 ?_
        refine Z_goto hk (tgt := 34) dX2_isKnown_30 (by decide) ?_
        exact Z_zret hk hA hQ dX2_isKnown_34 (by decide) (by decide) ⟨rfl, rfl, _, rfl, (by exact ⟨rfl, (by omega)⟩)⟩
/-- a step: what its part is of is within its bounds -/
def SV (v : Int) : Prop := 0 ≤ v ∧ v ≤ 2000000 ∧ (v / 10000 = 27 → v % 10000 ≤ 5) ∧ (v / 10000 = 28 → v % 10000 ≤ 9) ∧ (21 ≤ v / 10000 → v / 10000 ≤ 26 → v % 10000 ≤ 3) ∧ (v / 10000 = 31 → v % 10000 ≤ 3)
def SS (f : Nat → Int) : Prop := ∀ j : Nat, j < 700 → SV (f j)
def SE (f : Nat → Int) : Prop := ∀ j : Nat, j < 8 → 0 ≤ f j ∧ f j ≤ 700
theorem SS.put {f : Nat → Int} {i : Nat} {v : Int} (h : SS f) (hv : SV v) : SS (upr f i v) := by
  intro j hj
  by_cases e : j = i
  · subst e; rw [upr_eq]; exact hv
  · rw [upr_ne e]; exact h j hj
theorem SE.put {f : Nat → Int} {i : Nat} {v : Int} (h : SE f) (hv : 0 ≤ v ∧ v ≤ 700) : SE (upr f i v) := by
  intro j hj
  by_cases e : j = i
  · subst e; rw [upr_eq]; exact hv
  · rw [upr_ne e]; exact h j hj
theorem LK.put {f : Nat → Int} {i : Nat} {v : Int} (h : LK f) (hv : 0 ≤ v ∧ v ≤ 5) : LK (upr f i v) := by
  intro j hj
  by_cases e : j = i
  · subst e; rw [upr_eq]; exact hv
  · rw [upr_ne e]; exact h j hj
set_option maxRecDepth 10000 in
theorem c_X3_clear_p21 (l : Launch) (δ : Dp) (ad : Nat → Nat) (M : Mem) (hA : okA δ ad) : Mv l δ yX3_clear cX3_clear 1 none 0 0 ad rs [.ref (ad 21)] M (fun M' => (0 ≤ M' 21 0 ∧ M' 21 0 ≤ 6 ∧ 0 ≤ M' 21 1 ∧ M' 21 1 ≤ 4 ∧ 0 ≤ M' 21 2 ∧ M' 21 2 ≤ 8 ∧ -1 ≤ M' 21 5 ∧ M' 21 5 ≤ 5 ∧ 0 ≤ M' 21 6 ∧ M' 21 6 ≤ 700) ∧ (∀ c : Nat, c ≠ 21 → M' c = M c) ∧ (∀ i : Nat, i ≠ 0 → i ≠ 1 → i ≠ 2 → i ≠ 3 → i ≠ 4 → i ≠ 5 → i ≠ 6 → M' 21 i = M 21 i)) := by
  refine Mg.of (rm := rmN 0 0) (by decide) (Nat.le_of_ble_eq_true rfl) fun κ _ hk _ => ?_
  generalize hQ : Qg κ δ 121 (rmN 0 0).cells (rmN 0 0).slots _ = Q
  show Zj κ δ ad rs Q 1 (121, 0, 0) 0 [some (.ref (ad 21))] [] M
  refine Z_aload0 hk dX3_clear_0 ?_
  refine Z_iconst hk dX3_clear_1 ?_
  refine Z_putI hk hA fl_3_48 dX3_clear_2 ob_21.1 ob_21.2.1 ob_21.2.2.1 ob_21.2.2.2 ft_3_0 (by decide) (by decide) ?_
  refine Z_nm (fun m2 em2 => ?_)
  refine Z_aload0 hk dX3_clear_5 ?_
  refine Z_iconst hk dX3_clear_6 ?_
  refine Z_putI hk hA fl_3_51 dX3_clear_7 ob_21.1 ob_21.2.1 ob_21.2.2.1 ob_21.2.2.2 ft_3_1 (by decide) (by decide) ?_
  refine Z_nm (fun m7 em7 => ?_)
  refine Z_aload0 hk dX3_clear_10 ?_
  refine Z_iconst hk dX3_clear_11 ?_
  refine Z_putI hk hA fl_3_54 dX3_clear_12 ob_21.1 ob_21.2.1 ob_21.2.2.1 ob_21.2.2.2 ft_3_2 (by decide) (by decide) ?_
  refine Z_nm (fun m12 em12 => ?_)
  refine Z_aload0 hk dX3_clear_15 ?_
  refine Z_bipush hk dX3_clear_16 (by decide) ?_
  refine Z_putI hk hA fl_3_9 dX3_clear_18 ob_21.1 ob_21.2.1 ob_21.2.2.1 ob_21.2.2.2 ft_3_3 (by decide) (by decide) ?_
  refine Z_nm (fun m18 em18 => ?_)
  refine Z_aload0 hk dX3_clear_21 ?_
  refine Z_iconst hk dX3_clear_22 ?_
  refine Z_putZ hk hA fl_3_57 dX3_clear_23 ob_21.1 ob_21.2.1 ob_21.2.2.1 ob_21.2.2.2 ft_3_4 (by decide) (by decide) ?_
  refine Z_nm (fun m23 em23 => ?_)
  refine Z_aload0 hk dX3_clear_26 ?_
  refine Z_iconst hk dX3_clear_27 ?_
  refine Z_putI hk hA fl_3_15 dX3_clear_28 ob_21.1 ob_21.2.1 ob_21.2.2.1 ob_21.2.2.2 ft_3_5 (by decide) (by decide) ?_
  refine Z_nm (fun m28 em28 => ?_)
  refine Z_aload0 hk dX3_clear_31 ?_
  refine Z_iconst hk dX3_clear_32 ?_
  refine Z_putI hk hA fl_3_61 dX3_clear_33 ob_21.1 ob_21.2.1 ob_21.2.2.1 ob_21.2.2.2 ft_3_6 (by decide) (by decide) ?_
  refine Z_nm (fun m33 em33 => ?_)
  exact Z_vret hk hA hQ dX3_clear_36 ⟨rfl, rfl, rfl, (by exact ⟨(by (try simp only [em33, em28, em23, em18, em12, em7, em2, and_true, true_and, or_true, true_or, implies_true, upn, reduceIte, Nat.reduceEqDiff, ne_eq, not_false_eq_true, upc]) <;> (omega)), (by intro c k0; simp only [em33, em28, em23, em18, em12, em7, em2, upc, upn, k0, reduceIte, Nat.reduceEqDiff, ne_eq, not_false_eq_true]), (by intro i k0 k1 k2 k3 k4 k5 k6; simp only [em33, em28, em23, em18, em12, em7, em2, upc, upn, k0, k1, k2, k3, k4, k5, k6, reduceIte, Nat.reduceEqDiff, ne_eq, not_false_eq_true])⟩)⟩
set_option maxRecDepth 10000 in
theorem c_X3_productNamed_p21 (l : Launch) (δ : Dp) (ad : Nat → Nat) (M : Mem) (hA : okA δ ad) (v : Int) (q0 : 0 ≤ M 21 0 ∧ M 21 0 ≤ 6 ∧ 0 ≤ M 21 1 ∧ M 21 1 ≤ 4 ∧ 0 ≤ M 21 2 ∧ M 21 2 ≤ 8 ∧ -1 ≤ M 21 5 ∧ M 21 5 ≤ 5 ∧ 0 ≤ M 21 6 ∧ M 21 6 ≤ 700) (i_v : -9223372036854775808 ≤ v ∧ v ≤ 9223372036854775807) : Mi l δ yX3_productNamed cX3_productNamed 4 (some (.int)) 0 0 ad rs [.ref (ad 21), jv v] M (fun r M' => M = M' ∧ (-1 ≤ r ∧ r ≤ 5)) := by
  refine Mg.of (rm := rmN 0 0) (by decide) (Nat.le_of_ble_eq_true rfl) fun κ _ hk _ => ?_
  generalize hQ : Qg κ δ 121 (rmN 0 0).cells (rmN 0 0).slots _ = Q
  show Zj κ δ ad rs Q 4 (121, 0, 0) 0 [some (.ref (ad 21)), some (jv v), none, none] [] M
  refine Z_iconst hk dX3_productNamed_0 ?_
  have J2 : ∀ (n : Nat) (x3_2 : Int), (0 ≤ x3_2 ∧ x3_2 ≤ (M 21 0)) → ((M 21 0) - x3_2) < (n : Int) → Zj κ δ ad rs Q 4 (121, 0, 0) 2 [some (.ref (ad 21)), some (jv v), none, some (iv x3_2)] [] M := by
    intro n
    induction n with
    | zero => intro x3_2 h2 hm2; exfalso; omega
    | succ n ih2 =>
      intro x3_2 h2 hm2
      refine Z_iload3 hk dX3_productNamed_2 ?_
      refine Z_aload0 hk dX3_productNamed_3 ?_
      refine Z_getI hk fl_3_48 dX3_productNamed_4 ob_21.1 ob_21.2.1 ob_21.2.2.1 ob_21.2.2.2 ft_3_0 (fun v4 e4 a4 b4 => ?_)
      refine Z_icmp_ge hk (tgt := 29) dX3_productNamed_7 (by decide) (by omega) (by omega) (by omega) (by omega) (fun h7 => ?_) (fun h7 => ?_)
      · refine Z_iconst hk dX3_productNamed_29 ?_
        exact Z_iret hk hA hQ dX3_productNamed_30 ⟨rfl, rfl, _, rfl, (by exact ⟨rfl, (by omega)⟩)⟩
      · refine Z_aload0 hk dX3_productNamed_10 ?_
        refine Z_getR hk fl_3_18 dX3_productNamed_11 ob_21.1 ob_21.2.1 ob_21.2.2.1 ob_21.2.2.2 ft_3_7 rs_21_7 ?_
        refine Z_iload3 hk dX3_productNamed_14 ?_
        refine Z_lald hk dX3_productNamed_15 ar_22.1 ar_22.2.1 ar_22.2.2 (by omega) (by omega) (fun v15 e15 a15 b15 => ?_)
        try simp only [e4, and_true, true_and, or_true, true_or, implies_true, upn, reduceIte, Nat.reduceEqDiff, ne_eq, not_false_eq_true, upc] at e15
        refine Z_lload1 hk dX3_productNamed_16 ?_
        refine Z_lcmp hk dX3_productNamed_17 (by omega) (by omega) (by omega) (by omega) (fun v17 e17 => ?_)
        refine Z_if_ne hk (tgt := 23) dX3_productNamed_18 (by decide) (by omega) (by omega) (fun h18 => ?_) (fun h18 => ?_)
        · refine Z_iinc3 hk rfl (by decide) dX3_productNamed_23 ?_
          refine Z_goto hk (tgt := 2) dX3_productNamed_26 (by decide) ?_
          exact ih2 _ (by omega) (by (omega))
        · refine Z_iload3 hk dX3_productNamed_21 ?_
          exact Z_iret hk hA hQ dX3_productNamed_22 ⟨rfl, rfl, _, rfl, (by exact ⟨rfl, (by omega)⟩)⟩
  refine Z_istore3 hk rfl (by decide) dX3_productNamed_1 ?_
  exact J2 ((((M 21 0) - 0) : Int).toNat + 1) _ (by omega) (by omega)
set_option maxRecDepth 10000 in
theorem c_X3_hasName_p21 (l : Launch) (δ : Dp) (ad : Nat → Nat) (M : Mem) (hA : okA δ ad) (v : Int) (q0 : 0 ≤ M 21 0 ∧ M 21 0 ≤ 6 ∧ 0 ≤ M 21 1 ∧ M 21 1 ≤ 4 ∧ 0 ≤ M 21 2 ∧ M 21 2 ≤ 8 ∧ -1 ≤ M 21 5 ∧ M 21 5 ≤ 5 ∧ 0 ≤ M 21 6 ∧ M 21 6 ≤ 700) (i_v : -9223372036854775808 ≤ v ∧ v ≤ 9223372036854775807) : Mi l δ yX3_hasName cX3_hasName 4 (some (.boolean)) 1 23 ad rs [.ref (ad 21), jv v] M (fun r M' => M = M' ∧ (0 ≤ r ∧ r ≤ 1)) := by
  refine Mg.of (rm := rmN 1 23) (by decide) (Nat.le_of_ble_eq_true rfl) fun κ _ hk _ => ?_
  generalize hQ : Qg κ δ 121 (rmN 1 23).cells (rmN 1 23).slots _ = Q
  show Zj κ δ ad rs Q 4 (121, 0, 0) 0 [some (.ref (ad 21)), some (jv v), none, none] [] M
  refine Z_iconst hk dX3_hasName_0 ?_
  have J2 : ∀ (n : Nat) (x3_2 : Int), (0 ≤ x3_2 ∧ x3_2 ≤ (M 21 2)) → ((M 21 2) - x3_2) < (n : Int) → Zj κ δ ad rs Q 4 (121, 0, 0) 2 [some (.ref (ad 21)), some (jv v), none, some (iv x3_2)] [] M := by
    intro n
    induction n with
    | zero => intro x3_2 h2 hm2; exfalso; omega
    | succ n ih2 =>
      intro x3_2 h2 hm2
      refine Z_iload3 hk dX3_hasName_2 ?_
      refine Z_aload0 hk dX3_hasName_3 ?_
      refine Z_getI hk fl_3_54 dX3_hasName_4 ob_21.1 ob_21.2.1 ob_21.2.2.1 ob_21.2.2.2 ft_3_2 (fun v4 e4 a4 b4 => ?_)
      refine Z_icmp_ge hk (tgt := 32) dX3_hasName_7 (by decide) (by omega) (by omega) (by omega) (by omega) (fun h7 => ?_) (fun h7 => ?_)
      · refine Z_aload0 hk dX3_hasName_32 ?_
        refine Z_lload1 hk dX3_hasName_33 ?_
        refine Z_Vi hk (c_X3_productNamed_p21 κ.2.1 δ ad _ hA v (by (omega)) (by (omega))) ov_X3_productNamed ml_X3_68 dX3_hasName_34 rfl ⟨by decide, by decide⟩ ob_21.1 (by decide) (by decide) rfl (Nat.le_of_ble_eq_true rfl) (fun r34 m34 p34 => ?_)
        obtain ⟨rfl, p34⟩ := p34
        refine Z_iconst hk dX3_hasName_37 ?_
        refine Z_icmp_eq hk (tgt := 45) dX3_hasName_38 (by decide) (by omega) (by omega) (by decide) (by decide) (fun h38 => ?_) (fun h38 => ?_)
        · refine Z_iconst hk dX3_hasName_45 ?_
          exact Z_zret hk hA hQ dX3_hasName_46 (by decide) (by decide) ⟨rfl, rfl, _, rfl, (by exact ⟨rfl, (by omega)⟩)⟩
        · refine Z_iconst hk dX3_hasName_41 ?_
          refine Z_goto hk (tgt := 46) dX3_hasName_42 (by decide) ?_
          exact Z_zret hk hA hQ dX3_hasName_46 (by decide) (by decide) ⟨rfl, rfl, _, rfl, (by exact ⟨rfl, (by omega)⟩)⟩
      · refine Z_aload0 hk dX3_hasName_10 ?_
        refine Z_getR hk fl_3_18 dX3_hasName_11 ob_21.1 ob_21.2.1 ob_21.2.2.1 ob_21.2.2.2 ft_3_7 rs_21_7 ?_
        refine Z_bipush hk dX3_hasName_14 (by decide) ?_
        refine Z_iload3 hk dX3_hasName_16 ?_
        refine Z_iadd hk dX3_hasName_17 ?_
        refine Z_lald hk dX3_hasName_18 ar_22.1 ar_22.2.1 ar_22.2.2 (by omega) (by omega) (fun v18 e18 a18 b18 => ?_)
        try simp only [e4, and_true, true_and, or_true, true_or, implies_true, upn, reduceIte, Nat.reduceEqDiff, ne_eq, not_false_eq_true, upc] at e18
        refine Z_lload1 hk dX3_hasName_19 ?_
        refine Z_lcmp hk dX3_hasName_20 (by omega) (by omega) (by omega) (by omega) (fun v20 e20 => ?_)
        refine Z_if_ne hk (tgt := 26) dX3_hasName_21 (by decide) (by omega) (by omega) (fun h21 => ?_) (fun h21 => ?_)
        · refine Z_iinc3 hk rfl (by decide) dX3_hasName_26 ?_
          refine Z_goto hk (tgt := 2) dX3_hasName_29 (by decide) ?_
          exact ih2 _ (by omega) (by (omega))
        · refine Z_iconst hk dX3_hasName_24 ?_
          exact Z_zret hk hA hQ dX3_hasName_25 (by decide) (by decide) ⟨rfl, rfl, _, rfl, (by exact ⟨rfl, (by omega)⟩)⟩
  refine Z_istore3 hk rfl (by decide) dX3_hasName_1 ?_
  exact J2 ((((M 21 2) - 0) : Int).toNat + 1) _ (by omega) (by omega)
set_option maxRecDepth 10000 in
theorem c_X3_addProduct_p21 (l : Launch) (δ : Dp) (ad : Nat → Nat) (M : Mem) (hA : okA δ ad) (v : Int) (q0 : 0 ≤ M 21 0 ∧ M 21 0 ≤ 6 ∧ 0 ≤ M 21 1 ∧ M 21 1 ≤ 4 ∧ 0 ≤ M 21 2 ∧ M 21 2 ≤ 8 ∧ -1 ≤ M 21 5 ∧ M 21 5 ≤ 5 ∧ 0 ≤ M 21 6 ∧ M 21 6 ≤ 700) (i_v : -9223372036854775808 ≤ v ∧ v ≤ 9223372036854775807) : Mv l δ yX3_addProduct cX3_addProduct 3 none 0 0 ad rs [.ref (ad 21), jv v] M (fun M' => (0 ≤ (M' 21 0) ∧ (M' 21 0) ≤ 6) ∧ (∀ c : Nat, c ≠ 21 → c ≠ 22 → M' c = M c) ∧ (∀ i : Nat, i ≠ 0 → M' 21 i = M 21 i)) := by
  refine Mg.of (rm := rmN 0 0) (by decide) (Nat.le_of_ble_eq_true rfl) fun κ _ hk _ => ?_
  generalize hQ : Qg κ δ 121 (rmN 0 0).cells (rmN 0 0).slots _ = Q
  show Zj κ δ ad rs Q 3 (121, 0, 0) 0 [some (.ref (ad 21)), some (jv v), none] [] M
  refine Z_aload0 hk dX3_addProduct_0 ?_
  refine Z_getI hk fl_3_48 dX3_addProduct_1 ob_21.1 ob_21.2.1 ob_21.2.2.1 ob_21.2.2.2 ft_3_0 (fun v1 e1 a1 b1 => ?_)
  refine Z_bipush hk dX3_addProduct_4 (by decide) ?_
  refine Z_icmp_ge hk (tgt := 29) dX3_addProduct_6 (by decide) (by omega) (by omega) (by decide) (by decide) (fun h6 => ?_) (fun h6 => ?_)
  · exact Z_vret hk hA hQ dX3_addProduct_29 ⟨rfl, rfl, rfl, (by exact ⟨(by (omega)), (by intro c k0 k1; rfl), (by intro i k0; rfl)⟩)⟩
  · refine Z_aload0 hk dX3_addProduct_9 ?_
    refine Z_getR hk fl_3_18 dX3_addProduct_10 ob_21.1 ob_21.2.1 ob_21.2.2.1 ob_21.2.2.2 ft_3_7 rs_21_7 ?_
    refine Z_aload0 hk dX3_addProduct_13 ?_
    refine Z_getI hk fl_3_48 dX3_addProduct_14 ob_21.1 ob_21.2.1 ob_21.2.2.1 ob_21.2.2.2 ft_3_0 (fun v14 e14 a14 b14 => ?_)
    try simp only [e1, and_true, true_and, or_true, true_or, implies_true, upn, reduceIte, Nat.reduceEqDiff, ne_eq, not_false_eq_true, upc] at e14
    refine Z_lload1 hk dX3_addProduct_17 ?_
    refine Z_last hk hA dX3_addProduct_18 ar_22.1 ar_22.2.1 ar_22.2.2 (by omega) (by omega) (by omega) (by omega) ?_
    refine Z_nm (fun m18 em18 => ?_)
    refine Z_aload0 hk dX3_addProduct_19 ?_
    refine Z_dup1 hk rfl dX3_addProduct_20 ?_
    refine Z_getI hk fl_3_48 dX3_addProduct_21 ob_21.1 ob_21.2.1 ob_21.2.2.1 ob_21.2.2.2 ft_3_0 (fun v21 e21 a21 b21 => ?_)
    try simp only [em18, e1, e14, and_true, true_and, or_true, true_or, implies_true, upn, reduceIte, Nat.reduceEqDiff, ne_eq, not_false_eq_true, upc] at e21
    refine Z_iconst hk dX3_addProduct_24 ?_
    refine Z_iadd hk dX3_addProduct_25 ?_
    refine Z_putI hk hA fl_3_48 dX3_addProduct_26 ob_21.1 ob_21.2.1 ob_21.2.2.1 ob_21.2.2.2 ft_3_0 (by omega) (by omega) ?_
    refine Z_nm (fun m26 em26 => ?_)
    exact Z_vret hk hA hQ dX3_addProduct_29 ⟨rfl, rfl, rfl, (by exact ⟨(by (try simp only [em26, em18, and_true, true_and, or_true, true_or, implies_true, upn, reduceIte, Nat.reduceEqDiff, ne_eq, not_false_eq_true, upc]) <;> (omega)), (by intro c k0 k1; simp only [em26, em18, upc, upn, k0, k1, reduceIte, Nat.reduceEqDiff, ne_eq, not_false_eq_true]), (by intro i k0; simp only [em26, em18, upc, upn, k0, reduceIte, Nat.reduceEqDiff, ne_eq, not_false_eq_true])⟩)⟩
set_option maxRecDepth 10000 in
theorem c_X3_addTrial_p21 (l : Launch) (δ : Dp) (ad : Nat → Nat) (M : Mem) (hA : okA δ ad) (z : Int) (q0 : 0 ≤ M 21 0 ∧ M 21 0 ≤ 6 ∧ 0 ≤ M 21 1 ∧ M 21 1 ≤ 4 ∧ 0 ≤ M 21 2 ∧ M 21 2 ≤ 8 ∧ -1 ≤ M 21 5 ∧ M 21 5 ≤ 5 ∧ 0 ≤ M 21 6 ∧ M 21 6 ≤ 700) (q1 : LK (M 24)) (qz : 0 ≤ z ∧ z ≤ 1) : Mv l δ yX3_addTrial cX3_addTrial 2 none 0 0 ad rs [.ref (ad 21), iv z] M (fun M' => (0 ≤ (M' 21 1) ∧ (M' 21 1) ≤ 4) ∧ (∀ c : Nat, c ≠ 21 → c ≠ 23 → c ≠ 24 → M' c = M c) ∧ (∀ i : Nat, i ≠ 1 → M' 21 i = M 21 i) ∧ (LK (M' 24))) := by
  refine Mg.of (rm := rmN 0 0) (by decide) (Nat.le_of_ble_eq_true rfl) fun κ _ hk _ => ?_
  generalize hQ : Qg κ δ 121 (rmN 0 0).cells (rmN 0 0).slots _ = Q
  show Zj κ δ ad rs Q 2 (121, 0, 0) 0 [some (.ref (ad 21)), some (iv z)] [] M
  refine Z_aload0 hk dX3_addTrial_0 ?_
  refine Z_getI hk fl_3_51 dX3_addTrial_1 ob_21.1 ob_21.2.1 ob_21.2.2.1 ob_21.2.2.2 ft_3_1 (fun v1 e1 a1 b1 => ?_)
  refine Z_iconst hk dX3_addTrial_4 ?_
  refine Z_icmp_ge hk (tgt := 38) dX3_addTrial_5 (by decide) (by omega) (by omega) (by decide) (by decide) (fun h5 => ?_) (fun h5 => ?_)
  · exact Z_vret hk hA hQ dX3_addTrial_38 ⟨rfl, rfl, rfl, (by exact ⟨(by (omega)), (by intro c k0 k1 k2; rfl), (by intro i k0; rfl), (by first | exact q1 | (simp only [e1, and_true, true_and, or_true, true_or, implies_true, upn, reduceIte, Nat.reduceEqDiff, ne_eq, not_false_eq_true, upc, upc]; exact q1.put (by omega)))⟩)⟩
  · refine Z_aload0 hk dX3_addTrial_8 ?_
    refine Z_getR hk fl_3_22 dX3_addTrial_9 ob_21.1 ob_21.2.1 ob_21.2.2.1 ob_21.2.2.2 ft_3_8 rs_21_8 ?_
    refine Z_aload0 hk dX3_addTrial_12 ?_
    refine Z_getI hk fl_3_51 dX3_addTrial_13 ob_21.1 ob_21.2.1 ob_21.2.2.1 ob_21.2.2.2 ft_3_1 (fun v13 e13 a13 b13 => ?_)
    try simp only [e1, and_true, true_and, or_true, true_or, implies_true, upn, reduceIte, Nat.reduceEqDiff, ne_eq, not_false_eq_true, upc] at e13
    refine Z_iload1 hk dX3_addTrial_16 ?_
    refine Z_zast hk hA dX3_addTrial_17 ar_23.1 ar_23.2.1 ar_23.2.2 (by omega) (by omega) (by omega) (by omega) ?_
    refine Z_nm (fun m17 em17 => ?_)
    refine Z_aload0 hk dX3_addTrial_18 ?_
    refine Z_getR hk fl_3_26 dX3_addTrial_19 ob_21.1 ob_21.2.1 ob_21.2.2.1 ob_21.2.2.2 ft_3_9 rs_21_9 ?_
    refine Z_aload0 hk dX3_addTrial_22 ?_
    refine Z_getI hk fl_3_51 dX3_addTrial_23 ob_21.1 ob_21.2.1 ob_21.2.2.1 ob_21.2.2.2 ft_3_1 (fun v23 e23 a23 b23 => ?_)
    try simp only [em17, e1, e13, and_true, true_and, or_true, true_or, implies_true, upn, reduceIte, Nat.reduceEqDiff, ne_eq, not_false_eq_true, upc] at e23
    refine Z_iconst hk dX3_addTrial_26 ?_
    refine Z_iast hk hA dX3_addTrial_27 ar_24.1 ar_24.2.1 ar_24.2.2 (by omega) (by omega) (by decide) (by decide) ?_
    refine Z_nm (fun m27 em27 => ?_)
    refine Z_aload0 hk dX3_addTrial_28 ?_
    refine Z_dup1 hk rfl dX3_addTrial_29 ?_
    refine Z_getI hk fl_3_51 dX3_addTrial_30 ob_21.1 ob_21.2.1 ob_21.2.2.1 ob_21.2.2.2 ft_3_1 (fun v30 e30 a30 b30 => ?_)
    try simp only [em27, em17, e1, e13, e23, and_true, true_and, or_true, true_or, implies_true, upn, reduceIte, Nat.reduceEqDiff, ne_eq, not_false_eq_true, upc] at e30
    refine Z_iconst hk dX3_addTrial_33 ?_
    refine Z_iadd hk dX3_addTrial_34 ?_
    refine Z_putI hk hA fl_3_51 dX3_addTrial_35 ob_21.1 ob_21.2.1 ob_21.2.2.1 ob_21.2.2.2 ft_3_1 (by omega) (by omega) ?_
    refine Z_nm (fun m35 em35 => ?_)
    exact Z_vret hk hA hQ dX3_addTrial_38 ⟨rfl, rfl, rfl, (by exact ⟨(by (try simp only [em35, em27, em17, and_true, true_and, or_true, true_or, implies_true, upn, reduceIte, Nat.reduceEqDiff, ne_eq, not_false_eq_true, upc]) <;> (omega)), (by intro c k0 k1 k2; simp only [em35, em27, em17, upc, upn, k0, k1, k2, reduceIte, Nat.reduceEqDiff, ne_eq, not_false_eq_true]), (by intro i k0; simp only [em35, em27, em17, upc, upn, k0, reduceIte, Nat.reduceEqDiff, ne_eq, not_false_eq_true]), (by first | exact q1 | (simp only [em35, em27, em17, e1, e13, e23, e30, and_true, true_and, or_true, true_or, implies_true, upn, reduceIte, Nat.reduceEqDiff, ne_eq, not_false_eq_true, upc, upc]; exact q1.put (by omega)))⟩)⟩
set_option maxRecDepth 10000 in
theorem c_X3_addLook_p21 (l : Launch) (δ : Dp) (ad : Nat → Nat) (M : Mem) (hA : okA δ ad) (a : Int) (b : Int) (c : Int) (q0 : 0 ≤ M 21 0 ∧ M 21 0 ≤ 6 ∧ 0 ≤ M 21 1 ∧ M 21 1 ≤ 4 ∧ 0 ≤ M 21 2 ∧ M 21 2 ≤ 8 ∧ -1 ≤ M 21 5 ∧ M 21 5 ≤ 5 ∧ 0 ≤ M 21 6 ∧ M 21 6 ≤ 700) (q1 : LK (M 24)) (i_a : -2147483648 ≤ a ∧ a ≤ 2147483647) (i_b : -2147483648 ≤ b ∧ b ≤ 2147483647) (i_c : -2147483648 ≤ c ∧ c ≤ 2147483647) : Mv l δ yX3_addLook cX3_addLook 6 none 0 0 ad rs [.ref (ad 21), iv a, iv b, iv c] M (fun M' => (True) ∧ (∀ c : Nat, c ≠ 24 → c ≠ 25 → c ≠ 26 → c ≠ 27 → M' c = M c) ∧ (LK (M' 24))) := by
  refine Mg.of (rm := rmN 0 0) (by decide) (Nat.le_of_ble_eq_true rfl) fun κ _ hk _ => ?_
  generalize hQ : Qg κ δ 121 (rmN 0 0).cells (rmN 0 0).slots _ = Q
  show Zj κ δ ad rs Q 6 (121, 0, 0) 0 [some (.ref (ad 21)), some (iv a), some (iv b), some (iv c), none, none] [] M
  refine Z_aload0 hk dX3_addLook_0 ?_
  refine Z_getI hk fl_3_51 dX3_addLook_1 ob_21.1 ob_21.2.1 ob_21.2.2.1 ob_21.2.2.2 ft_3_1 (fun v1 e1 a1 b1 => ?_)
  refine Z_iconst hk dX3_addLook_4 ?_
  refine Z_isub hk dX3_addLook_5 ?_
  refine Z_istore4 hk rfl (by decide) dX3_addLook_6 ?_
  refine Z_iload4 hk dX3_addLook_8 ?_
  refine Z_if_lt hk (tgt := 73) dX3_addLook_10 (by decide) (by omega) (by omega) (fun h10 => ?_) (fun h10 => ?_)
  · exact Z_vret hk hA hQ dX3_addLook_73 ⟨rfl, rfl, rfl, (by exact ⟨(by (trivial)), (by intro c k0 k1 k2 k3; rfl), (by first | exact q1 | (simp only [e1, and_true, true_and, or_true, true_or, implies_true, upn, reduceIte, Nat.reduceEqDiff, ne_eq, not_false_eq_true, upc, upc]; exact q1.put (by omega)))⟩)⟩
  · have g13 := q1 (M 21 1 - 1).toNat (by omega)
    refine Z_aload0 hk dX3_addLook_13 ?_
    refine Z_getR hk fl_3_26 dX3_addLook_14 ob_21.1 ob_21.2.1 ob_21.2.2.1 ob_21.2.2.2 ft_3_9 rs_21_9 ?_
    refine Z_iload4 hk dX3_addLook_17 ?_
    refine Z_iald hk dX3_addLook_19 ar_24.1 ar_24.2.1 ar_24.2.2 (by omega) (by omega) (fun v19 e19 a19 b19 => ?_)
    try simp only [e1, and_true, true_and, or_true, true_or, implies_true, upn, reduceIte, Nat.reduceEqDiff, ne_eq, not_false_eq_true, upc] at e19
    refine Z_iconst hk dX3_addLook_20 ?_
    refine Z_icmp_ge hk (tgt := 73) dX3_addLook_21 (by decide) (by omega) (by omega) (by decide) (by decide) (fun h21 => ?_) (fun h21 => ?_)
    · exact Z_vret hk hA hQ dX3_addLook_73 ⟨rfl, rfl, rfl, (by exact ⟨(by (trivial)), (by intro c k0 k1 k2 k3; rfl), (by first | exact q1 | (simp only [e1, e19, and_true, true_and, or_true, true_or, implies_true, upn, reduceIte, Nat.reduceEqDiff, ne_eq, not_false_eq_true, upc, upc]; exact q1.put (by omega)))⟩)⟩
    · refine Z_iload4 hk dX3_addLook_24 ?_
      refine Z_iconst hk dX3_addLook_26 ?_
      refine Z_imul hk dX3_addLook_27 ?_
      refine Z_aload0 hk dX3_addLook_28 ?_
      refine Z_getR hk fl_3_26 dX3_addLook_29 ob_21.1 ob_21.2.1 ob_21.2.2.1 ob_21.2.2.2 ft_3_9 rs_21_9 ?_
      refine Z_iload4 hk dX3_addLook_32 ?_
      refine Z_iald hk dX3_addLook_34 ar_24.1 ar_24.2.1 ar_24.2.2 (by omega) (by omega) (fun v34 e34 a34 b34 => ?_)
      try simp only [e1, e19, and_true, true_and, or_true, true_or, implies_true, upn, reduceIte, Nat.reduceEqDiff, ne_eq, not_false_eq_true, upc] at e34
      refine Z_iadd hk dX3_addLook_35 ?_
      refine Z_istore5 hk rfl (by decide) dX3_addLook_36 ?_
      refine Z_aload0 hk dX3_addLook_38 ?_
      refine Z_getR hk fl_3_30 dX3_addLook_39 ob_21.1 ob_21.2.1 ob_21.2.2.1 ob_21.2.2.2 ft_3_10 rs_21_10 ?_
      refine Z_iload5 hk dX3_addLook_42 ?_
      refine Z_iload1 hk dX3_addLook_44 ?_
      refine Z_iast hk hA dX3_addLook_45 ar_25.1 ar_25.2.1 ar_25.2.2 (by omega) (by omega) (by omega) (by omega) ?_
      refine Z_nm (fun m45 em45 => ?_)
      refine Z_aload0 hk dX3_addLook_46 ?_
      refine Z_getR hk fl_3_33 dX3_addLook_47 ob_21.1 ob_21.2.1 ob_21.2.2.1 ob_21.2.2.2 ft_3_11 rs_21_11 ?_
      refine Z_iload5 hk dX3_addLook_50 ?_
      refine Z_iload2 hk dX3_addLook_52 ?_
      refine Z_iast hk hA dX3_addLook_53 ar_26.1 ar_26.2.1 ar_26.2.2 (by omega) (by omega) (by omega) (by omega) ?_
      refine Z_nm (fun m53 em53 => ?_)
      refine Z_aload0 hk dX3_addLook_54 ?_
      refine Z_getR hk fl_3_36 dX3_addLook_55 ob_21.1 ob_21.2.1 ob_21.2.2.1 ob_21.2.2.2 ft_3_12 rs_21_12 ?_
      refine Z_iload5 hk dX3_addLook_58 ?_
      refine Z_iload3 hk dX3_addLook_60 ?_
      refine Z_iast hk hA dX3_addLook_61 ar_27.1 ar_27.2.1 ar_27.2.2 (by omega) (by omega) (by omega) (by omega) ?_
      refine Z_nm (fun m61 em61 => ?_)
      refine Z_aload0 hk dX3_addLook_62 ?_
      refine Z_getR hk fl_3_26 dX3_addLook_63 ob_21.1 ob_21.2.1 ob_21.2.2.1 ob_21.2.2.2 ft_3_9 rs_21_9 ?_
      refine Z_iload4 hk dX3_addLook_66 ?_
      refine Z_dup2 hk rfl rfl dX3_addLook_68 ?_
      refine Z_iald hk dX3_addLook_69 ar_24.1 ar_24.2.1 ar_24.2.2 (by omega) (by omega) (fun v69 e69 a69 b69 => ?_)
      try simp only [em61, em53, em45, e1, e19, e34, and_true, true_and, or_true, true_or, implies_true, upn, reduceIte, Nat.reduceEqDiff, ne_eq, not_false_eq_true, upc] at e69
      refine Z_iconst hk dX3_addLook_70 ?_
      refine Z_iadd hk dX3_addLook_71 ?_
      refine Z_iast hk hA dX3_addLook_72 ar_24.1 ar_24.2.1 ar_24.2.2 (by omega) (by omega) (by omega) (by omega) ?_
      refine Z_nm (fun m72 em72 => ?_)
      exact Z_vret hk hA hQ dX3_addLook_73 ⟨rfl, rfl, rfl, (by exact ⟨(by (try simp only [em72, em61, em53, em45, and_true, true_and, or_true, true_or, implies_true, upn, reduceIte, Nat.reduceEqDiff, ne_eq, not_false_eq_true, upc]) <;> (trivial)), (by intro c k0 k1 k2 k3; simp only [em72, em61, em53, em45, upc, upn, k0, k1, k2, k3, reduceIte, Nat.reduceEqDiff, ne_eq, not_false_eq_true]), (by first | exact q1 | (simp only [em72, em61, em53, em45, e1, e19, e34, e69, and_true, true_and, or_true, true_or, implies_true, upn, reduceIte, Nat.reduceEqDiff, ne_eq, not_false_eq_true, upc, upc]; exact q1.put (by omega)))⟩)⟩
set_option maxRecDepth 10000 in
theorem c_X3_answersAtLatestLook_p21 (l : Launch) (δ : Dp) (ad : Nat → Nat) (M : Mem) (hA : okA δ ad) (q0 : 0 ≤ M 21 0 ∧ M 21 0 ≤ 6 ∧ 0 ≤ M 21 1 ∧ M 21 1 ≤ 4 ∧ 0 ≤ M 21 2 ∧ M 21 2 ≤ 8 ∧ -1 ≤ M 21 5 ∧ M 21 5 ≤ 5 ∧ 0 ≤ M 21 6 ∧ M 21 6 ≤ 700) (q1 : LK (M 24)) : Mi l δ yX3_answersAtLatestLook cX3_answersAtLatestLook 2 (some (.int)) 0 0 ad rs [.ref (ad 21)] M (fun r M' => M = M' ∧ (-2147483648 ≤ r ∧ r ≤ 2147483647)) := by
  refine Mg.of (rm := rmN 0 0) (by decide) (Nat.le_of_ble_eq_true rfl) fun κ _ hk _ => ?_
  generalize hQ : Qg κ δ 121 (rmN 0 0).cells (rmN 0 0).slots _ = Q
  show Zj κ δ ad rs Q 2 (121, 0, 0) 0 [some (.ref (ad 21)), none] [] M
  refine Z_aload0 hk dX3_answersAtLatestLook_0 ?_
  refine Z_getI hk fl_3_51 dX3_answersAtLatestLook_1 ob_21.1 ob_21.2.1 ob_21.2.2.1 ob_21.2.2.2 ft_3_1 (fun v1 e1 a1 b1 => ?_)
  refine Z_iconst hk dX3_answersAtLatestLook_4 ?_
  refine Z_isub hk dX3_answersAtLatestLook_5 ?_
  refine Z_istore1 hk rfl (by decide) dX3_answersAtLatestLook_6 ?_
  refine Z_iload1 hk dX3_answersAtLatestLook_7 ?_
  refine Z_if_lt hk (tgt := 21) dX3_answersAtLatestLook_8 (by decide) (by omega) (by omega) (fun h8 => ?_) (fun h8 => ?_)
  · refine Z_iconst hk dX3_answersAtLatestLook_21 ?_
    refine Z_goto hk (tgt := 42) dX3_answersAtLatestLook_22 (by decide) ?_
    exact Z_iret hk hA hQ dX3_answersAtLatestLook_42 ⟨rfl, rfl, _, rfl, (by exact ⟨rfl, (by omega)⟩)⟩
  · have g11 := q1 (M 21 1 - 1).toNat (by omega)
    refine Z_aload0 hk dX3_answersAtLatestLook_11 ?_
    refine Z_getR hk fl_3_26 dX3_answersAtLatestLook_12 ob_21.1 ob_21.2.1 ob_21.2.2.1 ob_21.2.2.2 ft_3_9 rs_21_9 ?_
    refine Z_iload1 hk dX3_answersAtLatestLook_15 ?_
    refine Z_iald hk dX3_answersAtLatestLook_16 ar_24.1 ar_24.2.1 ar_24.2.2 (by omega) (by omega) (fun v16 e16 a16 b16 => ?_)
    try simp only [e1, and_true, true_and, or_true, true_or, implies_true, upn, reduceIte, Nat.reduceEqDiff, ne_eq, not_false_eq_true, upc] at e16
    refine Z_iconst hk dX3_answersAtLatestLook_17 ?_
    refine Z_icmp_ge hk (tgt := 25) dX3_answersAtLatestLook_18 (by decide) (by omega) (by omega) (by decide) (by decide) (fun h18 => ?_) (fun h18 => ?_)
    · refine Z_aload0 hk dX3_answersAtLatestLook_25 ?_
      refine Z_getR hk fl_3_30 dX3_answersAtLatestLook_26 ob_21.1 ob_21.2.1 ob_21.2.2.1 ob_21.2.2.2 ft_3_10 rs_21_10 ?_
      refine Z_iload1 hk dX3_answersAtLatestLook_29 ?_
      refine Z_iconst hk dX3_answersAtLatestLook_30 ?_
      refine Z_imul hk dX3_answersAtLatestLook_31 ?_
      refine Z_aload0 hk dX3_answersAtLatestLook_32 ?_
      refine Z_getR hk fl_3_26 dX3_answersAtLatestLook_33 ob_21.1 ob_21.2.1 ob_21.2.2.1 ob_21.2.2.2 ft_3_9 rs_21_9 ?_
      refine Z_iload1 hk dX3_answersAtLatestLook_36 ?_
      refine Z_iald hk dX3_answersAtLatestLook_37 ar_24.1 ar_24.2.1 ar_24.2.2 (by omega) (by omega) (fun v37 e37 a37 b37 => ?_)
      try simp only [e1, e16, and_true, true_and, or_true, true_or, implies_true, upn, reduceIte, Nat.reduceEqDiff, ne_eq, not_false_eq_true, upc] at e37
      refine Z_iadd hk dX3_answersAtLatestLook_38 ?_
      refine Z_iconst hk dX3_answersAtLatestLook_39 ?_
      refine Z_isub hk dX3_answersAtLatestLook_40 ?_
      refine Z_iald hk dX3_answersAtLatestLook_41 ar_25.1 ar_25.2.1 ar_25.2.2 (by omega) (by omega) (fun v41 e41 a41 b41 => ?_)
      try simp only [e1, e16, e37, and_true, true_and, or_true, true_or, implies_true, upn, reduceIte, Nat.reduceEqDiff, ne_eq, not_false_eq_true, upc] at e41
      exact Z_iret hk hA hQ dX3_answersAtLatestLook_42 ⟨rfl, rfl, _, rfl, (by exact ⟨rfl, (by omega)⟩)⟩
    · refine Z_iconst hk dX3_answersAtLatestLook_21 ?_
      refine Z_goto hk (tgt := 42) dX3_answersAtLatestLook_22 (by decide) ?_
      exact Z_iret hk hA hQ dX3_answersAtLatestLook_42 ⟨rfl, rfl, _, rfl, (by exact ⟨rfl, (by omega)⟩)⟩
set_option maxRecDepth 10000 in
theorem c_X3_addStep_p21 (l : Launch) (δ : Dp) (ad : Nat → Nat) (M : Mem) (hA : okA δ ad) (a : Int) (b : Int) (q0 : 0 ≤ M 21 0 ∧ M 21 0 ≤ 6 ∧ 0 ≤ M 21 1 ∧ M 21 1 ≤ 4 ∧ 0 ≤ M 21 2 ∧ M 21 2 ≤ 8 ∧ -1 ≤ M 21 5 ∧ M 21 5 ≤ 5 ∧ 0 ≤ M 21 6 ∧ M 21 6 ≤ 700) (q1 : SS (M 29)) (q2 : 0 ≤ a ∧ a ≤ 100 ∧ 0 ≤ b ∧ b ≤ 9999) (q3 : (a = 27 → b ≤ 5) ∧ (a = 28 → b ≤ 9) ∧ (21 ≤ a → a ≤ 26 → b ≤ 3) ∧ (a = 31 → b ≤ 3)) : Mv l δ yX3_addStep cX3_addStep 3 none 0 0 ad rs [.ref (ad 21), iv a, iv b] M (fun M' => (0 ≤ (M' 21 6) ∧ (M' 21 6) ≤ 700) ∧ (∀ c : Nat, c ≠ 21 → c ≠ 29 → M' c = M c) ∧ (∀ i : Nat, i ≠ 6 → M' 21 i = M 21 i) ∧ (SS (M' 29))) := by
  refine Mg.of (rm := rmN 0 0) (by decide) (Nat.le_of_ble_eq_true rfl) fun κ _ hk _ => ?_
  generalize hQ : Qg κ δ 121 (rmN 0 0).cells (rmN 0 0).slots _ = Q
  show Zj κ δ ad rs Q 3 (121, 0, 0) 0 [some (.ref (ad 21)), some (iv a), some (iv b)] [] M
  refine Z_aload0 hk dX3_addStep_0 ?_
  refine Z_getI hk fl_3_61 dX3_addStep_1 ob_21.1 ob_21.2.1 ob_21.2.2.1 ob_21.2.2.2 ft_3_6 (fun v1 e1 a1 b1 => ?_)
  refine Z_sipush hk dX3_addStep_4 (by decide) ?_
  refine Z_icmp_ge hk (tgt := 36) dX3_addStep_7 (by decide) (by omega) (by omega) (by decide) (by decide) (fun h7 => ?_) (fun h7 => ?_)
  · exact Z_vret hk hA hQ dX3_addStep_36 ⟨rfl, rfl, rfl, (by exact ⟨(by (omega)), (by intro c k0 k1; rfl), (by intro i k0; rfl), (by first | exact q1 | (simp only [e1, and_true, true_and, or_true, true_or, implies_true, upn, reduceIte, Nat.reduceEqDiff, ne_eq, not_false_eq_true, upc, upc]; exact q1.put (by unfold SV; omega)))⟩)⟩
  · refine Z_aload0 hk dX3_addStep_10 ?_
    refine Z_getR hk fl_3_42 dX3_addStep_11 ob_21.1 ob_21.2.1 ob_21.2.2.1 ob_21.2.2.2 ft_3_14 rs_21_14 ?_
    refine Z_aload0 hk dX3_addStep_14 ?_
    refine Z_getI hk fl_3_61 dX3_addStep_15 ob_21.1 ob_21.2.1 ob_21.2.2.1 ob_21.2.2.2 ft_3_6 (fun v15 e15 a15 b15 => ?_)
    try simp only [e1, and_true, true_and, or_true, true_or, implies_true, upn, reduceIte, Nat.reduceEqDiff, ne_eq, not_false_eq_true, upc] at e15
    refine Z_iload1 hk dX3_addStep_18 ?_
    refine Z_sipush hk dX3_addStep_19 (by decide) ?_
    refine Z_imul hk dX3_addStep_22 ?_
    refine Z_iload2 hk dX3_addStep_23 ?_
    refine Z_iadd hk dX3_addStep_24 ?_
    refine Z_iast hk hA dX3_addStep_25 ar_29.1 ar_29.2.1 ar_29.2.2 (by omega) (by omega) (by omega) (by omega) ?_
    refine Z_nm (fun m25 em25 => ?_)
    refine Z_aload0 hk dX3_addStep_26 ?_
    refine Z_dup1 hk rfl dX3_addStep_27 ?_
    refine Z_getI hk fl_3_61 dX3_addStep_28 ob_21.1 ob_21.2.1 ob_21.2.2.1 ob_21.2.2.2 ft_3_6 (fun v28 e28 a28 b28 => ?_)
    try simp only [em25, e1, e15, and_true, true_and, or_true, true_or, implies_true, upn, reduceIte, Nat.reduceEqDiff, ne_eq, not_false_eq_true, upc] at e28
    refine Z_iconst hk dX3_addStep_31 ?_
    refine Z_iadd hk dX3_addStep_32 ?_
    refine Z_putI hk hA fl_3_61 dX3_addStep_33 ob_21.1 ob_21.2.1 ob_21.2.2.1 ob_21.2.2.2 ft_3_6 (by omega) (by omega) ?_
    refine Z_nm (fun m33 em33 => ?_)
    exact Z_vret hk hA hQ dX3_addStep_36 ⟨rfl, rfl, rfl, (by exact ⟨(by (try simp only [em33, em25, and_true, true_and, or_true, true_or, implies_true, upn, reduceIte, Nat.reduceEqDiff, ne_eq, not_false_eq_true, upc]) <;> (omega)), (by intro c k0 k1; simp only [em33, em25, upc, upn, k0, k1, reduceIte, Nat.reduceEqDiff, ne_eq, not_false_eq_true]), (by intro i k0; simp only [em33, em25, upc, upn, k0, reduceIte, Nat.reduceEqDiff, ne_eq, not_false_eq_true]), (by first | exact q1 | (simp only [em33, em25, e1, e15, e28, and_true, true_and, or_true, true_or, implies_true, upn, reduceIte, Nat.reduceEqDiff, ne_eq, not_false_eq_true, upc, upc]; exact q1.put (by unfold SV; omega)))⟩)⟩
set_option maxRecDepth 10000 in
theorem c_X3_addClaim_p21 (l : Launch) (δ : Dp) (ad : Nat → Nat) (M : Mem) (hA : okA δ ad) (v : Int) (q0 : 0 ≤ M 21 0 ∧ M 21 0 ≤ 6 ∧ 0 ≤ M 21 1 ∧ M 21 1 ≤ 4 ∧ 0 ≤ M 21 2 ∧ M 21 2 ≤ 8 ∧ -1 ≤ M 21 5 ∧ M 21 5 ≤ 5 ∧ 0 ≤ M 21 6 ∧ M 21 6 ≤ 700) (q1 : SE (M 30)) (i_v : -9223372036854775808 ≤ v ∧ v ≤ 9223372036854775807) : Mv l δ yX3_addClaim cX3_addClaim 3 none 0 0 ad rs [.ref (ad 21), jv v] M (fun M' => (0 ≤ (M' 21 2) ∧ (M' 21 2) ≤ 8) ∧ (∀ c : Nat, c ≠ 21 → c ≠ 22 → c ≠ 30 → M' c = M c) ∧ (∀ i : Nat, i ≠ 2 → M' 21 i = M 21 i) ∧ (SE (M' 30))) := by
  refine Mg.of (rm := rmN 0 0) (by decide) (Nat.le_of_ble_eq_true rfl) fun κ _ hk _ => ?_
  generalize hQ : Qg κ δ 121 (rmN 0 0).cells (rmN 0 0).slots _ = Q
  show Zj κ δ ad rs Q 3 (121, 0, 0) 0 [some (.ref (ad 21)), some (jv v), none] [] M
  refine Z_aload0 hk dX3_addClaim_0 ?_
  refine Z_getI hk fl_3_54 dX3_addClaim_1 ob_21.1 ob_21.2.1 ob_21.2.2.1 ob_21.2.2.2 ft_3_2 (fun v1 e1 a1 b1 => ?_)
  refine Z_bipush hk dX3_addClaim_4 (by decide) ?_
  refine Z_icmp_ge hk (tgt := 45) dX3_addClaim_6 (by decide) (by omega) (by omega) (by decide) (by decide) (fun h6 => ?_) (fun h6 => ?_)
  · exact Z_vret hk hA hQ dX3_addClaim_45 ⟨rfl, rfl, rfl, (by exact ⟨(by (omega)), (by intro c k0 k1 k2; rfl), (by intro i k0; rfl), (by first | exact q1 | (simp only [e1, and_true, true_and, or_true, true_or, implies_true, upn, reduceIte, Nat.reduceEqDiff, ne_eq, not_false_eq_true, upc, upc]; exact q1.put (by omega)))⟩)⟩
  · refine Z_aload0 hk dX3_addClaim_9 ?_
    refine Z_getR hk fl_3_18 dX3_addClaim_10 ob_21.1 ob_21.2.1 ob_21.2.2.1 ob_21.2.2.2 ft_3_7 rs_21_7 ?_
    refine Z_bipush hk dX3_addClaim_13 (by decide) ?_
    refine Z_aload0 hk dX3_addClaim_15 ?_
    refine Z_getI hk fl_3_54 dX3_addClaim_16 ob_21.1 ob_21.2.1 ob_21.2.2.1 ob_21.2.2.2 ft_3_2 (fun v16 e16 a16 b16 => ?_)
    try simp only [e1, and_true, true_and, or_true, true_or, implies_true, upn, reduceIte, Nat.reduceEqDiff, ne_eq, not_false_eq_true, upc] at e16
    refine Z_iadd hk dX3_addClaim_19 ?_
    refine Z_lload1 hk dX3_addClaim_20 ?_
    refine Z_last hk hA dX3_addClaim_21 ar_22.1 ar_22.2.1 ar_22.2.2 (by omega) (by omega) (by omega) (by omega) ?_
    refine Z_nm (fun m21 em21 => ?_)
    refine Z_aload0 hk dX3_addClaim_22 ?_
    refine Z_getR hk fl_3_45 dX3_addClaim_23 ob_21.1 ob_21.2.1 ob_21.2.2.1 ob_21.2.2.2 ft_3_15 rs_21_15 ?_
    refine Z_aload0 hk dX3_addClaim_26 ?_
    refine Z_getI hk fl_3_54 dX3_addClaim_27 ob_21.1 ob_21.2.1 ob_21.2.2.1 ob_21.2.2.2 ft_3_2 (fun v27 e27 a27 b27 => ?_)
    try simp only [em21, e1, e16, and_true, true_and, or_true, true_or, implies_true, upn, reduceIte, Nat.reduceEqDiff, ne_eq, not_false_eq_true, upc] at e27
    refine Z_aload0 hk dX3_addClaim_30 ?_
    refine Z_getI hk fl_3_61 dX3_addClaim_31 ob_21.1 ob_21.2.1 ob_21.2.2.1 ob_21.2.2.2 ft_3_6 (fun v31 e31 a31 b31 => ?_)
    try simp only [em21, e1, e16, e27, and_true, true_and, or_true, true_or, implies_true, upn, reduceIte, Nat.reduceEqDiff, ne_eq, not_false_eq_true, upc] at e31
    refine Z_iast hk hA dX3_addClaim_34 ar_30.1 ar_30.2.1 ar_30.2.2 (by omega) (by omega) (by omega) (by omega) ?_
    refine Z_nm (fun m34 em34 => ?_)
    refine Z_aload0 hk dX3_addClaim_35 ?_
    refine Z_dup1 hk rfl dX3_addClaim_36 ?_
    refine Z_getI hk fl_3_54 dX3_addClaim_37 ob_21.1 ob_21.2.1 ob_21.2.2.1 ob_21.2.2.2 ft_3_2 (fun v37 e37 a37 b37 => ?_)
    try simp only [em34, em21, e1, e16, e27, e31, and_true, true_and, or_true, true_or, implies_true, upn, reduceIte, Nat.reduceEqDiff, ne_eq, not_false_eq_true, upc] at e37
    refine Z_iconst hk dX3_addClaim_40 ?_
    refine Z_iadd hk dX3_addClaim_41 ?_
    refine Z_putI hk hA fl_3_54 dX3_addClaim_42 ob_21.1 ob_21.2.1 ob_21.2.2.1 ob_21.2.2.2 ft_3_2 (by omega) (by omega) ?_
    refine Z_nm (fun m42 em42 => ?_)
    exact Z_vret hk hA hQ dX3_addClaim_45 ⟨rfl, rfl, rfl, (by exact ⟨(by (try simp only [em42, em34, em21, and_true, true_and, or_true, true_or, implies_true, upn, reduceIte, Nat.reduceEqDiff, ne_eq, not_false_eq_true, upc]) <;> (omega)), (by intro c k0 k1 k2; simp only [em42, em34, em21, upc, upn, k0, k1, k2, reduceIte, Nat.reduceEqDiff, ne_eq, not_false_eq_true]), (by intro i k0; simp only [em42, em34, em21, upc, upn, k0, reduceIte, Nat.reduceEqDiff, ne_eq, not_false_eq_true]), (by first | exact q1 | (simp only [em42, em34, em21, e1, e16, e27, e31, e37, and_true, true_and, or_true, true_or, implies_true, upn, reduceIte, Nat.reduceEqDiff, ne_eq, not_false_eq_true, upc, upc]; exact q1.put (by omega)))⟩)⟩
set_option maxRecDepth 10000 in
theorem c_X3_places_p38 (l : Launch) (δ : Dp) (ad : Nat → Nat) (M : Mem) (hA : okA δ ad) (t : Int) (q0 : 0 ≤ t ∧ t ≤ 3) : Mi l δ yX3_places cX3_places 2 (some (.int)) 0 0 ad rs [.ref (ad 38), iv t] M (fun r M' => M = M' ∧ ((r = 2 ∨ r = 3) ∧ (r = 3 ↔ M 40 t.toNat ≠ 0))) := by
  refine Mg.of (rm := rmN 0 0) (by decide) (Nat.le_of_ble_eq_true rfl) fun κ _ hk _ => ?_
  generalize hQ : Qg κ δ 121 (rmN 0 0).cells (rmN 0 0).slots _ = Q
  show Zj κ δ ad rs Q 2 (121, 0, 0) 0 [some (.ref (ad 38)), some (iv t)] [] M
  refine Z_aload0 hk dX3_places_0 ?_
  refine Z_getR hk fl_3_22 dX3_places_1 ob_38.1 ob_38.2.1 ob_38.2.2.1 ob_38.2.2.2 ft_3_8 rs_38_8 ?_
  refine Z_iload1 hk dX3_places_4 ?_
  refine Z_zald hk dX3_places_5 ar_40.1 ar_40.2.1 ar_40.2.2 (by omega) (by omega) (fun v5 e5 a5 b5 => ?_)
  refine Z_if_eq hk (tgt := 13) dX3_places_6 (by decide) (by omega) (by omega) (fun h6 => ?_) (fun h6 => ?_)
  · refine Z_iconst hk dX3_places_13 ?_
    exact Z_iret hk hA hQ dX3_places_14 ⟨rfl, rfl, _, rfl, (by exact ⟨rfl, (by omega)⟩)⟩
  · refine Z_iconst hk dX3_places_9 ?_
    refine Z_goto hk (tgt := 14) dX3_places_10 (by decide) ?_
    exact Z_iret hk hA hQ dX3_places_14 ⟨rfl, rfl, _, rfl, (by exact ⟨rfl, (by omega)⟩)⟩
set_option maxRecDepth 10000 in
theorem c_X3_cups_p38 (l : Launch) (δ : Dp) (ad : Nat → Nat) (M : Mem) (hA : okA δ ad) (t : Int) (q0 : 0 ≤ t ∧ t ≤ 3) : Mi l δ yX3_cups cX3_cups 2 (some (.int)) 1 21 ad rs [.ref (ad 38), iv t] M (fun r M' => M = M' ∧ ((r = 60 ∨ r = 90) ∧ (r = 90 ↔ M 40 t.toNat ≠ 0))) := by
  refine Mg.of (rm := rmN 1 21) (by decide) (Nat.le_of_ble_eq_true rfl) fun κ _ hk _ => ?_
  generalize hQ : Qg κ δ 121 (rmN 1 21).cells (rmN 1 21).slots _ = Q
  show Zj κ δ ad rs Q 2 (121, 0, 0) 0 [some (.ref (ad 38)), some (iv t)] [] M
  refine Z_bipush hk dX3_cups_0 (by decide) ?_
  refine Z_aload0 hk dX3_cups_2 ?_
  refine Z_iload1 hk dX3_cups_3 ?_
  refine Z_Vi hk (c_X3_places_p38 κ.2.1 δ ad _ hA t (by (omega))) ov_X3_places ml_X3_64 dX3_cups_4 rfl ⟨by decide, by decide⟩ ob_38.1 (by decide) (by decide) rfl (Nat.le_of_ble_eq_true rfl) (fun r4 m4 p4 => ?_)
  obtain ⟨rfl, p4⟩ := p4
  refine Z_imul hk dX3_cups_7 ?_
  exact Z_iret hk hA hQ dX3_cups_8 ⟨rfl, rfl, _, rfl, (by exact ⟨rfl, (by omega)⟩)⟩
set_option maxRecDepth 10000 in
theorem c_X3_allLooks_p38 (l : Launch) (δ : Dp) (ad : Nat → Nat) (M : Mem) (hA : okA δ ad) (q0 : 0 ≤ M 38 0 ∧ M 38 0 ≤ 6 ∧ 0 ≤ M 38 1 ∧ M 38 1 ≤ 4 ∧ 0 ≤ M 38 2 ∧ M 38 2 ≤ 8 ∧ -1 ≤ M 38 5 ∧ M 38 5 ≤ 5 ∧ 0 ≤ M 38 6 ∧ M 38 6 ≤ 700) : Mi l δ yX3_allLooks cX3_allLooks 3 (some (.int)) 0 0 ad rs [.ref (ad 38)] M (fun r M' => M = M' ∧ (-2147483648 ≤ r ∧ r ≤ 2147483647)) := by
  refine Mg.of (rm := rmN 0 0) (by decide) (Nat.le_of_ble_eq_true rfl) fun κ _ hk _ => ?_
  generalize hQ : Qg κ δ 121 (rmN 0 0).cells (rmN 0 0).slots _ = Q
  show Zj κ δ ad rs Q 3 (121, 0, 0) 0 [some (.ref (ad 38)), none, none] [] M
  refine Z_iconst hk dX3_allLooks_0 ?_
  refine Z_istore1 hk rfl (by decide) dX3_allLooks_1 ?_
  refine Z_iconst hk dX3_allLooks_2 ?_
  have J4 : ∀ (n : Nat) (x1_4 : Int) (x2_4 : Int), (0 ≤ x2_4 ∧ x2_4 ≤ (M 38 1) ∧ -2147483648 ≤ x1_4 ∧ x1_4 ≤ 2147483647) → ((M 38 1) - x2_4) < (n : Int) → Zj κ δ ad rs Q 3 (121, 0, 0) 4 [some (.ref (ad 38)), some (iv x1_4), some (iv x2_4)] [] M := by
    intro n
    induction n with
    | zero => intro x1_4 x2_4 h4 hm4; exfalso; omega
    | succ n ih4 =>
      intro x1_4 x2_4 h4 hm4
      refine Z_iload2 hk dX3_allLooks_4 ?_
      refine Z_aload0 hk dX3_allLooks_5 ?_
      refine Z_getI hk fl_3_51 dX3_allLooks_6 ob_38.1 ob_38.2.1 ob_38.2.2.1 ob_38.2.2.2 ft_3_1 (fun v6 e6 a6 b6 => ?_)
      refine Z_icmp_ge hk (tgt := 27) dX3_allLooks_9 (by decide) (by omega) (by omega) (by omega) (by omega) (fun h9 => ?_) (fun h9 => ?_)
      · refine Z_iload1 hk dX3_allLooks_27 ?_
        exact Z_iret hk hA hQ dX3_allLooks_28 ⟨rfl, rfl, _, rfl, (by exact ⟨rfl, (by omega)⟩)⟩
      · refine Z_iload1 hk dX3_allLooks_12 ?_
        refine Z_aload0 hk dX3_allLooks_13 ?_
        refine Z_getR hk fl_3_26 dX3_allLooks_14 ob_38.1 ob_38.2.1 ob_38.2.2.1 ob_38.2.2.2 ft_3_9 rs_38_9 ?_
        refine Z_iload2 hk dX3_allLooks_17 ?_
        refine Z_iald hk dX3_allLooks_18 ar_41.1 ar_41.2.1 ar_41.2.2 (by omega) (by omega) (fun v18 e18 a18 b18 => ?_)
        try simp only [e6, and_true, true_and, or_true, true_or, implies_true, upn, reduceIte, Nat.reduceEqDiff, ne_eq, not_false_eq_true, upc] at e18
        refine Z_iadd hk dX3_allLooks_19 ?_
        refine Z_wI (fun w19 a19w b19w g19w => ?_)
        refine Z_istore1 hk rfl (by decide) dX3_allLooks_20 ?_
        refine Z_iinc2 hk rfl (by decide) dX3_allLooks_21 ?_
        refine Z_goto hk (tgt := 4) dX3_allLooks_24 (by decide) ?_
        exact ih4 _ _ (by omega) (by (omega))
  refine Z_istore2 hk rfl (by decide) dX3_allLooks_3 ?_
  exact J4 ((((M 38 1) - 0) : Int).toNat + 1) _ _ (by omega) (by omega)
set_option maxRecDepth 10000 in
theorem c_X3_cupOf_p38 (l : Launch) (δ : Dp) (ad : Nat → Nat) (M : Mem) (hA : okA δ ad) (t : Int) (c : Int) (q0 : 0 ≤ t ∧ t ≤ 3) (i_c : -2147483648 ≤ c ∧ c ≤ 2147483647) : Mi l δ yX3_cupOf cX3_cupOf 4 (some (.int)) 2 42 ad rs [.ref (ad 38), iv t, iv c] M (fun r M' => M = M' ∧ (-1 ≤ r ∧ r ≤ 89)) := by
  refine Mg.of (rm := rmN 2 42) (by decide) (Nat.le_of_ble_eq_true rfl) fun κ _ hk _ => ?_
  generalize hQ : Qg κ δ 121 (rmN 2 42).cells (rmN 2 42).slots _ = Q
  show Zj κ δ ad rs Q 4 (121, 0, 0) 0 [some (.ref (ad 38)), some (iv t), some (iv c), none] [] M
  refine Z_iload2 hk dX3_cupOf_0 ?_
  refine Z_bipush hk dX3_cupOf_1 (by decide) ?_
  refine Z_icmp_ge hk (tgt := 8) dX3_cupOf_3 (by decide) (by omega) (by omega) (by decide) (by decide) (fun h3 => ?_) (fun h3 => ?_)
  · refine Z_iconst hk dX3_cupOf_8 ?_
    have J10 : ∀ (n : Nat) (x3_10 : Int), (0 ≤ x3_10 ∧ x3_10 ≤ 90) → (90 - x3_10) < (n : Int) → Zj κ δ ad rs Q 4 (121, 0, 0) 10 [some (.ref (ad 38)), some (iv t), some (iv c), some (iv x3_10)] [] M := by
      intro n
      induction n with
      | zero => intro x3_10 h10 hm10; exfalso; omega
      | succ n ih10 =>
        intro x3_10 h10 hm10
        refine Z_iload3 hk dX3_cupOf_10 ?_
        refine Z_aload0 hk dX3_cupOf_11 ?_
        refine Z_iload1 hk dX3_cupOf_12 ?_
        refine Z_Vi hk (c_X3_cups_p38 κ.2.1 δ ad _ hA t (by (omega))) ov_X3_cups ml_X3_78 dX3_cupOf_13 rfl ⟨by decide, by decide⟩ ob_38.1 (by decide) (by decide) rfl (Nat.le_of_ble_eq_true rfl) (fun r13 m13 p13 => ?_)
        obtain ⟨rfl, p13⟩ := p13
        refine Z_icmp_ge hk (tgt := 42) dX3_cupOf_16 (by decide) (by omega) (by omega) (by omega) (by omega) (fun h16 => ?_) (fun h16 => ?_)
        · refine Z_iconst hk dX3_cupOf_42 ?_
          exact Z_iret hk hA hQ dX3_cupOf_43 ⟨rfl, rfl, _, rfl, (by exact ⟨rfl, (by omega)⟩)⟩
        · refine Z_aload0 hk dX3_cupOf_19 ?_
          refine Z_getR hk fl_3_39 dX3_cupOf_20 ob_38.1 ob_38.2.1 ob_38.2.2.1 ob_38.2.2.2 ft_3_13 rs_38_13 ?_
          refine Z_iload1 hk dX3_cupOf_23 ?_
          refine Z_bipush hk dX3_cupOf_24 (by decide) ?_
          refine Z_imul hk dX3_cupOf_26 ?_
          refine Z_iload3 hk dX3_cupOf_27 ?_
          refine Z_iadd hk dX3_cupOf_28 ?_
          refine Z_iald hk dX3_cupOf_29 ar_45.1 ar_45.2.1 ar_45.2.2 (by omega) (by omega) (fun v29 e29 a29 b29 => ?_)
          refine Z_iload2 hk dX3_cupOf_30 ?_
          refine Z_icmp_ne hk (tgt := 36) dX3_cupOf_31 (by decide) (by omega) (by omega) (by omega) (by omega) (fun h31 => ?_) (fun h31 => ?_)
          · refine Z_iinc3 hk rfl (by decide) dX3_cupOf_36 ?_
            refine Z_goto hk (tgt := 10) dX3_cupOf_39 (by decide) ?_
            exact ih10 _ (by omega) (by (omega))
          · refine Z_iload3 hk dX3_cupOf_34 ?_
            exact Z_iret hk hA hQ dX3_cupOf_35 ⟨rfl, rfl, _, rfl, (by exact ⟨rfl, (by omega)⟩)⟩
    refine Z_istore3 hk rfl (by decide) dX3_cupOf_9 ?_
    exact J10 (((90 - 0) : Int).toNat + 1) _ (by omega) (by omega)
  · refine Z_iconst hk dX3_cupOf_6 ?_
    exact Z_iret hk hA hQ dX3_cupOf_7 ⟨rfl, rfl, _, rfl, (by exact ⟨rfl, (by omega)⟩)⟩
set_option maxRecDepth 10000 in
theorem c_X3_freeCode_p38 (l : Launch) (δ : Dp) (ad : Nat → Nat) (M : Mem) (hA : okA δ ad) (t : Int) (v : Int) (q0 : 0 ≤ t ∧ t ≤ 3) (q1 : 0 ≤ v ∧ v ≤ 899) : Mi l δ yX3_freeCode cX3_freeCode 5 (some (.int)) 3 65 ad rs [.ref (ad 38), iv t, iv v] M (fun r M' => M = M' ∧ (-2147483648 ≤ r ∧ r ≤ 2147483647)) := by
  refine Mg.of (rm := rmN 3 65) (by decide) (Nat.le_of_ble_eq_true rfl) fun κ _ hk _ => ?_
  generalize hQ : Qg κ δ 121 (rmN 3 65).cells (rmN 3 65).slots _ = Q
  show Zj κ δ ad rs Q 5 (121, 0, 0) 0 [some (.ref (ad 38)), some (iv t), some (iv v), none, none] [] M
  refine Z_bipush hk dX3_freeCode_0 (by decide) ?_
  refine Z_iload2 hk dX3_freeCode_2 ?_
  refine Z_iadd hk dX3_freeCode_3 ?_
  refine Z_istore3 hk rfl (by decide) dX3_freeCode_4 ?_
  refine Z_iconst hk dX3_freeCode_5 ?_
  have J8 : ∀ (n : Nat) (x3_8 : Int) (x4_8 : Int), (0 ≤ x4_8 ∧ x4_8 ≤ 900 ∧ 100 ≤ x3_8 ∧ x3_8 ≤ 999) → (900 - x4_8) < (n : Int) → Zj κ δ ad rs Q 5 (121, 0, 0) 8 [some (.ref (ad 38)), some (iv t), some (iv v), some (iv x3_8), some (iv x4_8)] [] M := by
    intro n
    induction n with
    | zero => intro x3_8 x4_8 h8 hm8; exfalso; omega
    | succ n ih8 =>
      intro x3_8 x4_8 h8 hm8
      refine Z_iload4 hk dX3_freeCode_8 ?_
      refine Z_sipush hk dX3_freeCode_10 (by decide) ?_
      refine Z_icmp_ge hk (tgt := 50) dX3_freeCode_13 (by decide) (by omega) (by omega) (by decide) (by decide) (fun h13 => ?_) (fun h13 => ?_)
      · refine Z_iload3 hk dX3_freeCode_50 ?_
        exact Z_iret hk hA hQ dX3_freeCode_51 ⟨rfl, rfl, _, rfl, (by exact ⟨rfl, (by omega)⟩)⟩
      · refine Z_aload0 hk dX3_freeCode_16 ?_
        refine Z_iload1 hk dX3_freeCode_17 ?_
        refine Z_iload3 hk dX3_freeCode_18 ?_
        refine Z_Vi hk (c_X3_cupOf_p38 κ.2.1 δ ad _ hA t x3_8 (by (omega)) (by (omega))) ov_X3_cupOf ml_X3_95 dX3_freeCode_19 rfl ⟨by decide, by decide⟩ ob_38.1 (by decide) (by decide) rfl (Nat.le_of_ble_eq_true rfl) (fun r19 m19 p19 => ?_)
        obtain ⟨rfl, p19⟩ := p19
        refine Z_iconst hk dX3_freeCode_22 ?_
        refine Z_icmp_eq hk (tgt := 50) dX3_freeCode_23 (by decide) (by omega) (by omega) (by decide) (by decide) (fun h23 => ?_) (fun h23 => ?_)
        · refine Z_iload3 hk dX3_freeCode_50 ?_
          exact Z_iret hk hA hQ dX3_freeCode_51 ⟨rfl, rfl, _, rfl, (by exact ⟨rfl, (by omega)⟩)⟩
        · refine Z_iload3 hk dX3_freeCode_26 ?_
          refine Z_iconst hk dX3_freeCode_27 ?_
          refine Z_iadd hk dX3_freeCode_28 ?_
          refine Z_sipush hk dX3_freeCode_29 (by decide) ?_
          have J43 : ∀ (y0_43 : Int), (100 ≤ y0_43 ∧ y0_43 ≤ 999) → Zj κ δ ad rs Q 5 (121, 0, 0) 43 [some (.ref (ad 38)), some (iv t), some (iv v), some (iv x3_8), some (iv x4_8)] [iv y0_43] M := by
            intro y0_43 h43
            refine Z_istore3 hk rfl (by decide) dX3_freeCode_43 ?_
            refine Z_iinc4 hk rfl (by decide) dX3_freeCode_44 ?_
            refine Z_goto hk (tgt := 8) dX3_freeCode_47 (by decide) ?_
            exact ih8 _ _ (by omega) (by (omega))
          refine Z_icmp_ge hk (tgt := 41) dX3_freeCode_32 (by decide) (by omega) (by omega) (by decide) (by decide) (fun h32 => ?_) (fun h32 => ?_)
          · refine Z_bipush hk dX3_freeCode_41 (by decide) ?_
            exact J43 _ (by omega)
          · refine Z_iload3 hk dX3_freeCode_35 ?_
            refine Z_iconst hk dX3_freeCode_36 ?_
            refine Z_iadd hk dX3_freeCode_37 ?_
            refine Z_goto hk (tgt := 43) dX3_freeCode_38 (by decide) ?_
            exact J43 _ (by omega)
  refine Z_istore4 hk rfl (by decide) dX3_freeCode_6 ?_
  exact J8 (((900 - 0) : Int).toNat + 1) _ _ (by omega) (by omega)
