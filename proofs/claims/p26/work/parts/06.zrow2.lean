section ZROWS2
variable {κ : Kp} {δ : Dp} {ad : Nat → Nat} {rt : Rt} {Q : State → Prop} {mL : Nat} {ρ : Nat × Nat × Nat} {pc : Nat} {L : List (Option Value)} {S : List Value} {M : Mem} {cc : ByteArray} {own : String} {ret : Option FieldType} {rm : Room}
theorem zI_of (v : Int32) : Int32.ofInt v.toInt = v := Int32.ofInt_toInt v
theorem zJ_of (v : Int64) : Int64.ofInt v.toInt = v := Int64.ofInt_toInt v
theorem zI_lo (v : Int32) : -2147483648 ≤ v.toInt := by have := Int32.le_toInt v; omega
theorem zI_hi (v : Int32) : v.toInt ≤ 2147483647 := by have := Int32.toInt_lt v; omega
theorem zJ_lo (v : Int64) : -9223372036854775808 ≤ v.toInt := by have := Int64.le_toInt v; omega
theorem zJ_hi (v : Int64) : v.toInt ≤ 9223372036854775807 := by have := Int64.toInt_lt v; omega
theorem zIJ {x : Int} (x1 : -2147483648 ≤ x) (x2 : x ≤ 2147483647) : (Int32.ofInt x).toInt64 = Int64.ofInt x := by
  apply Int64.toInt_inj.mp
  rw [Int32.toInt_toInt64, zI_toInt x1 x2, zJ_toInt (by omega) (by omega)]
theorem zJI (x : Int) : (Int64.ofInt x).toInt32 = Int32.ofInt x := by
  apply Int32.toInt_inj.mp
  simp [Int64.toInt_toInt32, Int32.toInt_ofInt, Int64.toInt_ofInt]
theorem Z_i2l (hk : okK κ δ cc own mL ret rm) {x : Int} (hd : decode cc pc = .ok (.i2l, 1)) (x1 : -2147483648 ≤ x) (x2 : x ≤ 2147483647) (k : Zj κ δ ad rt Q mL ρ (pc + 1) L (jv x :: S) M) : Zj κ δ ad rt Q mL ρ pc L (iv x :: S) M := fun H locs ls hw hs hl => lv_i2l hk.1 hk.2.1 hd (zIJ x1 x2) (k H locs ls hw hs hl)
theorem Z_l2i (hk : okK κ δ cc own mL ret rm) {x : Int} (hd : decode cc pc = .ok (.l2i, 1)) (k : Zj κ δ ad rt Q mL ρ (pc + 1) L (iv x :: S) M) : Zj κ δ ad rt Q mL ρ pc L (jv x :: S) M := fun H locs ls hw hs hl => lv_l2i hk.1 hk.2.1 hd (zJI x) (k H locs ls hw hs hl)
theorem Z_lconst0 (hk : okK κ δ cc own mL ret rm) (hd : decode cc pc = .ok (.lconst 0, 1)) (k : Zj κ δ ad rt Q mL ρ (pc + 1) L (jv 0 :: S) M) : Zj κ δ ad rt Q mL ρ pc L S M := fun H locs ls hw hs hl => lv_lconst hk.1 hk.2.1 hd rfl (k H locs ls hw hs hl)
theorem Z_lconst1 (hk : okK κ δ cc own mL ret rm) (hd : decode cc pc = .ok (.lconst 1, 1)) (k : Zj κ δ ad rt Q mL ρ (pc + 1) L (jv 1 :: S) M) : Zj κ δ ad rt Q mL ρ pc L S M := fun H locs ls hw hs hl => lv_lconst hk.1 hk.2.1 hd rfl (k H locs ls hw hs hl)
theorem Z_ldc (hk : okK κ δ cc own mL ret rm) {idx : Nat} {n : Int} (hc : Cond.constant own idx (Int32.ofInt n) ∈ lw_g) (hd : decode cc pc = .ok (.ldc idx, 2)) (k : Zj κ δ ad rt Q mL ρ (pc + 2) L (iv n :: S) M) : Zj κ δ ad rt Q mL ρ pc L S M := fun H locs ls hw hs hl => lv_ldc hk.1 hk.2.1 hk.2.2.2.1 (hk.2.2.2.2.1 _ hc) hd (k H locs ls hw hs hl)
theorem Z_ldc_w (hk : okK κ δ cc own mL ret rm) {idx : Nat} {n : Int} (hc : Cond.constant own idx (Int32.ofInt n) ∈ lw_g) (hd : decode cc pc = .ok (.ldc_w idx, 3)) (k : Zj κ δ ad rt Q mL ρ (pc + 3) L (iv n :: S) M) : Zj κ δ ad rt Q mL ρ pc L S M := fun H locs ls hw hs hl => lv_ldcw hk.1 hk.2.1 hk.2.2.2.1 (hk.2.2.2.2.1 _ hc) hd (k H locs ls hw hs hl)
theorem Z_ldc2_w (hk : okK κ δ cc own mL ret rm) {idx : Nat} {n : Int} (hc : Cond.constantLong own idx (Int64.ofInt n) ∈ lw_g) (hd : decode cc pc = .ok (.ldc2_w idx, 3)) (k : Zj κ δ ad rt Q mL ρ (pc + 3) L (jv n :: S) M) : Zj κ δ ad rt Q mL ρ pc L S M := fun H locs ls hw hs hl => lv_ldc2 hk.1 hk.2.1 hk.2.2.2.1 (hk.2.2.2.2.1 _ hc) hd (k H locs ls hw hs hl)
theorem zJ_lt {a b : Int} (a1 : -9223372036854775808 ≤ a) (a2 : a ≤ 9223372036854775807) (b1 : -9223372036854775808 ≤ b) (b2 : b ≤ 9223372036854775807) : Int64.ofInt a < Int64.ofInt b ↔ a < b := by
  rw [Int64.lt_iff_toInt_lt, zJ_toInt a1 a2, zJ_toInt b1 b2]
theorem zJ_eq {a b : Int} (a1 : -9223372036854775808 ≤ a) (a2 : a ≤ 9223372036854775807) (b1 : -9223372036854775808 ≤ b) (b2 : b ≤ 9223372036854775807) : Int64.ofInt a = Int64.ofInt b ↔ a = b := by
  rw [← Int64.toInt_inj, zJ_toInt a1 a2, zJ_toInt b1 b2]
theorem Z_lcmp (hk : okK κ δ cc own mL ret rm) {x y : Int} (hd : decode cc pc = .ok (.lcmp, 1)) (x1 : -9223372036854775808 ≤ x) (x2 : x ≤ 9223372036854775807) (y1 : -9223372036854775808 ≤ y) (y2 : y ≤ 9223372036854775807) (k : ∀ r : Int, (x < y ∧ r = -1) ∨ (x = y ∧ r = 0) ∨ (y < x ∧ r = 1) → Zj κ δ ad rt Q mL ρ (pc + 1) L (iv r :: S) M) : Zj κ δ ad rt Q mL ρ pc L (jv y :: jv x :: S) M := by
  intro H locs ls hw hs hl
  refine W.lcmp hk.1 hk.2.1 hd ?_
  have h1 := zJ_lt y1 y2 x1 x2
  have h2 := zJ_eq x1 x2 y1 y2
  have e : lg_cmp (Int64.ofInt x) (Int64.ofInt y) = if y < x then 1 else if x = y then 0 else -1 := by simp only [lg_cmp, gt_iff_lt, h1, h2]
  rw [e]
  rcases Int.lt_trichotomy x y with h | h | h
  · rw [if_neg (by omega), if_neg (by omega)]
    exact k (-1) (Or.inl ⟨h, rfl⟩) H locs ls hw hs hl
  · rw [if_neg (by omega), if_pos h]
    exact k 0 (Or.inr (Or.inl ⟨h, rfl⟩)) H locs ls hw hs hl
  · rw [if_pos h]
    exact k 1 (Or.inr (Or.inr ⟨h, rfl⟩)) H locs ls hw hs hl
theorem zI_div {x y : Int} (x1 : -2147483648 ≤ x) (x2 : x ≤ 2147483647) (y1 : -2147483648 ≤ y) (y2 : y ≤ 2147483647) : Int32.ofInt x / Int32.ofInt y = Int32.ofInt (x.tdiv y) := by
  apply Int32.toInt_inj.mp
  rw [Int32.toInt_div, zI_toInt x1 x2, zI_toInt y1 y2, Int32.toInt_ofInt]; try rfl
theorem zJ_div {x y : Int} (x1 : -9223372036854775808 ≤ x) (x2 : x ≤ 9223372036854775807) (y1 : -9223372036854775808 ≤ y) (y2 : y ≤ 9223372036854775807) : Int64.ofInt x / Int64.ofInt y = Int64.ofInt (x.tdiv y) := by
  apply Int64.toInt_inj.mp
  rw [Int64.toInt_div, zJ_toInt x1 x2, zJ_toInt y1 y2, Int64.toInt_ofInt]; try rfl
theorem t_rem (x y : Int) : x - x.tdiv y * y = x.tmod y := by
  have := Int.mul_tdiv_add_tmod x y
  rw [Int.mul_comm] at this
  omega
theorem Z_idiv (hk : okK κ δ cc own mL ret rm) {x y : Int} (hd : decode cc pc = .ok (.idiv, 1)) (x1 : -2147483648 ≤ x) (x2 : x ≤ 2147483647) (y1 : -2147483648 ≤ y) (y2 : y ≤ 2147483647) (h0 : y ≠ 0) (k : Zj κ δ ad rt Q mL ρ (pc + 1) L (iv (x.tdiv y) :: S) M) : Zj κ δ ad rt Q mL ρ pc L (iv y :: iv x :: S) M := by
  intro H locs ls hw hs hl
  refine lv_idiv hk.1 hk.2.1 hd (fun q => h0 ((zI_eq y1 y2 (by decide) (by decide)).mp q)) ?_
  rw [zI_div x1 x2 y1 y2]
  exact k H locs ls hw hs hl
theorem Z_irem (hk : okK κ δ cc own mL ret rm) {x y : Int} (hd : decode cc pc = .ok (.irem, 1)) (x1 : -2147483648 ≤ x) (x2 : x ≤ 2147483647) (y1 : -2147483648 ≤ y) (y2 : y ≤ 2147483647) (h0 : y ≠ 0) (k : Zj κ δ ad rt Q mL ρ (pc + 1) L (iv (x.tmod y) :: S) M) : Zj κ δ ad rt Q mL ρ pc L (iv y :: iv x :: S) M := by
  intro H locs ls hw hs hl
  refine lv_irem hk.1 hk.2.1 hd (fun q => h0 ((zI_eq y1 y2 (by decide) (by decide)).mp q)) ?_
  rw [zI_div x1 x2 y1 y2, zI_mul, zI_sub, t_rem]
  exact k H locs ls hw hs hl
theorem Z_ldiv (hk : okK κ δ cc own mL ret rm) {x y : Int} (hd : decode cc pc = .ok (.ldiv, 1)) (x1 : -9223372036854775808 ≤ x) (x2 : x ≤ 9223372036854775807) (y1 : -9223372036854775808 ≤ y) (y2 : y ≤ 9223372036854775807) (h0 : y ≠ 0) (k : Zj κ δ ad rt Q mL ρ (pc + 1) L (jv (x.tdiv y) :: S) M) : Zj κ δ ad rt Q mL ρ pc L (jv y :: jv x :: S) M := by
  intro H locs ls hw hs hl
  refine lv_ldiv hk.1 hk.2.1 hd (fun q => h0 ((zJ_eq y1 y2 (by decide) (by decide)).mp q)) ?_
  rw [zJ_div x1 x2 y1 y2]
  exact k H locs ls hw hs hl
theorem Z_lrem (hk : okK κ δ cc own mL ret rm) {x y : Int} (hd : decode cc pc = .ok (.lrem, 1)) (x1 : -9223372036854775808 ≤ x) (x2 : x ≤ 9223372036854775807) (y1 : -9223372036854775808 ≤ y) (y2 : y ≤ 9223372036854775807) (h0 : y ≠ 0) (k : Zj κ δ ad rt Q mL ρ (pc + 1) L (jv (x.tmod y) :: S) M) : Zj κ δ ad rt Q mL ρ pc L (jv y :: jv x :: S) M := by
  intro H locs ls hw hs hl
  refine lv_lrem hk.1 hk.2.1 hd (fun q => h0 ((zJ_eq y1 y2 (by decide) (by decide)).mp q)) ?_
  rw [zJ_div x1 x2 y1 y2, zJ_mul, zJ_sub, t_rem]
  exact k H locs ls hw hs hl
theorem Z_ishl (hk : okK κ δ cc own mL ret rm) {x y : Int} (hd : decode cc pc = .ok (.ishl, 1)) (k : ∀ r : Int, r = (Int32.ofInt x <<< (Int32.ofInt y &&& 31)).toInt → -2147483648 ≤ r → r ≤ 2147483647 → Zj κ δ ad rt Q mL ρ (pc + 1) L (iv r :: S) M) : Zj κ δ ad rt Q mL ρ pc L (iv y :: iv x :: S) M := by
  intro H locs ls hw hs hl
  refine lv_ishl hk.1 hk.2.1 hd ?_
  have h := k _ rfl (zI_lo _) (zI_hi _) H locs ls hw hs hl
  unfold iv at h
  rw [zI_of] at h
  exact h
theorem Z_ishr (hk : okK κ δ cc own mL ret rm) {x y : Int} (hd : decode cc pc = .ok (.ishr, 1)) (k : ∀ r : Int, r = (Int32.ofInt x >>> (Int32.ofInt y &&& 31)).toInt → -2147483648 ≤ r → r ≤ 2147483647 → Zj κ δ ad rt Q mL ρ (pc + 1) L (iv r :: S) M) : Zj κ δ ad rt Q mL ρ pc L (iv y :: iv x :: S) M := by
  intro H locs ls hw hs hl
  refine lv_ishr hk.1 hk.2.1 hd ?_
  have h := k _ rfl (zI_lo _) (zI_hi _) H locs ls hw hs hl
  unfold iv at h
  rw [zI_of] at h
  exact h
theorem Z_iand (hk : okK κ δ cc own mL ret rm) {x y : Int} (hd : decode cc pc = .ok (.iand, 1)) (k : ∀ r : Int, r = (Int32.ofInt x &&& Int32.ofInt y).toInt → -2147483648 ≤ r → r ≤ 2147483647 → Zj κ δ ad rt Q mL ρ (pc + 1) L (iv r :: S) M) : Zj κ δ ad rt Q mL ρ pc L (iv y :: iv x :: S) M := by
  intro H locs ls hw hs hl
  refine lv_iand hk.1 hk.2.1 hd ?_
  have h := k _ rfl (zI_lo _) (zI_hi _) H locs ls hw hs hl
  unfold iv at h
  rw [zI_of] at h
  exact h
theorem Z_ior (hk : okK κ δ cc own mL ret rm) {x y : Int} (hd : decode cc pc = .ok (.ior, 1)) (k : ∀ r : Int, r = (Int32.ofInt x ||| Int32.ofInt y).toInt → -2147483648 ≤ r → r ≤ 2147483647 → Zj κ δ ad rt Q mL ρ (pc + 1) L (iv r :: S) M) : Zj κ δ ad rt Q mL ρ pc L (iv y :: iv x :: S) M := by
  intro H locs ls hw hs hl
  refine lv_ior hk.1 hk.2.1 hd ?_
  have h := k _ rfl (zI_lo _) (zI_hi _) H locs ls hw hs hl
  unfold iv at h
  rw [zI_of] at h
  exact h
theorem Z_ixor (hk : okK κ δ cc own mL ret rm) {x y : Int} (hd : decode cc pc = .ok (.ixor, 1)) (k : ∀ r : Int, r = (Int32.ofInt x ^^^ Int32.ofInt y).toInt → -2147483648 ≤ r → r ≤ 2147483647 → Zj κ δ ad rt Q mL ρ (pc + 1) L (iv r :: S) M) : Zj κ δ ad rt Q mL ρ pc L (iv y :: iv x :: S) M := by
  intro H locs ls hw hs hl
  refine lv_ixor hk.1 hk.2.1 hd ?_
  have h := k _ rfl (zI_lo _) (zI_hi _) H locs ls hw hs hl
  unfold iv at h
  rw [zI_of] at h
  exact h
theorem Z_iushr (hk : okK κ δ cc own mL ret rm) {x y : Int} (hd : decode cc pc = .ok (.iushr, 1)) (k : ∀ r : Int, r = ((Int32.ofInt x).toUInt32 >>> ((Int32.ofInt y).toUInt32 &&& Int32.toUInt32 31)).toInt32.toInt → -2147483648 ≤ r → r ≤ 2147483647 → Zj κ δ ad rt Q mL ρ (pc + 1) L (iv r :: S) M) : Zj κ δ ad rt Q mL ρ pc L (iv y :: iv x :: S) M := by
  intro H locs ls hw hs hl
  refine lv_iushr hk.1 hk.2.1 hd rfl ?_
  have h := k _ rfl (zI_lo _) (zI_hi _) H locs ls hw hs hl
  unfold iv at h
  rw [zI_of] at h
  exact h
theorem Z_lshl (hk : okK κ δ cc own mL ret rm) {x y : Int} (hd : decode cc pc = .ok (.lshl, 1)) (k : ∀ r : Int, r = (Int64.ofInt x <<< ((Int32.ofInt y).toInt64 &&& 63)).toInt → -9223372036854775808 ≤ r → r ≤ 9223372036854775807 → Zj κ δ ad rt Q mL ρ (pc + 1) L (jv r :: S) M) : Zj κ δ ad rt Q mL ρ pc L (iv y :: jv x :: S) M := by
  intro H locs ls hw hs hl
  refine lv_lshl hk.1 hk.2.1 hd rfl ?_
  have h := k _ rfl (zJ_lo _) (zJ_hi _) H locs ls hw hs hl
  unfold jv at h
  rw [zJ_of] at h
  exact h
theorem Z_land (hk : okK κ δ cc own mL ret rm) {x y : Int} (hd : decode cc pc = .ok (.land, 1)) (k : ∀ r : Int, r = (Int64.ofInt x &&& Int64.ofInt y).toInt → -9223372036854775808 ≤ r → r ≤ 9223372036854775807 → Zj κ δ ad rt Q mL ρ (pc + 1) L (jv r :: S) M) : Zj κ δ ad rt Q mL ρ pc L (jv y :: jv x :: S) M := by
  intro H locs ls hw hs hl
  refine lv_land hk.1 hk.2.1 hd ?_
  have h := k _ rfl (zJ_lo _) (zJ_hi _) H locs ls hw hs hl
  unfold jv at h
  rw [zJ_of] at h
  exact h
theorem Z_lor (hk : okK κ δ cc own mL ret rm) {x y : Int} (hd : decode cc pc = .ok (.lor, 1)) (k : ∀ r : Int, r = (Int64.ofInt x ||| Int64.ofInt y).toInt → -9223372036854775808 ≤ r → r ≤ 9223372036854775807 → Zj κ δ ad rt Q mL ρ (pc + 1) L (jv r :: S) M) : Zj κ δ ad rt Q mL ρ pc L (jv y :: jv x :: S) M := by
  intro H locs ls hw hs hl
  refine lv_lor hk.1 hk.2.1 hd ?_
  have h := k _ rfl (zJ_lo _) (zJ_hi _) H locs ls hw hs hl
  unfold jv at h
  rw [zJ_of] at h
  exact h
theorem zI_nI {x : Int} (h0 : 0 ≤ x) (h1 : x ≤ 2147483647) : Int32.ofInt x = nI x.toNat := Int32.toInt_inj.mp (by rw [zI_toInt (by omega) h1, nI_toInt (by omega)]; omega)
theorem Z_i2c (hk : okK κ δ cc own mL ret rm) {x : Int} (hd : decode cc pc = .ok (.i2c, 1)) (x1 : 0 ≤ x) (x2 : x ≤ 65535) (k : Zj κ δ ad rt Q mL ρ (pc + 1) L (iv x :: S) M) : Zj κ δ ad rt Q mL ρ pc L (iv x :: S) M := by
  intro H locs ls hw hs hl
  refine lv_i2c hk.1 hk.2.1 hd ?_ (k H locs ls hw hs hl)
  rw [zI_nI x1 (by omega), pk_char, pk_tn (by omega), Nat.mod_eq_of_lt (by omega)]
theorem and_mask (x : Int32) {m : Int} (k : Nat) (hm : (Int32.ofInt m).toBitVec.toNat = 2 ^ k - 1) (hk : k ≤ 30) : 0 ≤ (x &&& Int32.ofInt m).toInt ∧ (x &&& Int32.ofInt m).toInt < 2 ^ k := by
  have h := vp_in_iff.mp (pk_andIn x k hm hk)
  refine ⟨h.1, ?_⟩
  have := h.2
  simpa using this
theorem Z_alen (hk : okK κ δ cc own mL ret rm) {c t N : Nat} {i : Int} (hd : decode cc pc = .ok (.arraylength, 1)) (hl : lay c = (t, N)) (ht : t = 100 ∨ t = 101 ∨ t = 102 ∨ t = 103) (hc : c < ρ.1) (kk : Zj κ δ ad rt Q mL ρ (pc + 1) L (iv N :: S) M) : Zj κ δ ad rt Q mL ρ pc L (.ref (ad c) :: S) M := by
  intro H locs ls hw hs hlo
  have hcell := hw.2 c hc
  rw [hl] at hcell
  dsimp only at hcell
  obtain ⟨h2, -⟩ := hcell.2 (by omega)
  have harr : κ.2.2.2.2.1.isArrayOf (arrV (δ.2.1 t) N (fun j => sv ad rt (elTy t) c j (M c j))) (elTy t) := by
    rcases ht with rfl | rfl | rfl | rfl
    · exact (hk.2.2.2.2.2.1.2 0 _ rfl).1 N _
    · exact (hk.2.2.2.2.2.1.2 1 _ rfl).1 N _
    · exact (hk.2.2.2.2.2.1.2 2 _ rfl).1 N _
    · exact (hk.2.2.2.2.2.1.2 3 _ rfl).1 N _
  refine W.alen (n := Int32.ofInt N) hk.1 hk.2.1 h2 harr ?_ rfl rfl hd (kk H locs ls hw hs hlo)
  rw [arrV_size]
  exact (Int32.ofInt_eq_ofNat (n := N)).symm
theorem Z_dup2 (hk : okK κ δ cc own mL ret rm) {a b : Value} (ha : a.category = 1) (hb : b.category = 1) (hd : decode cc pc = .ok (.dup2, 1)) (k : Zj κ δ ad rt Q mL ρ (pc + 1) L (a :: b :: a :: b :: S) M) : Zj κ δ ad rt Q mL ρ pc L (a :: b :: S) M := fun H locs ls hw hs hl => lv_dup2_11 hk.1 hk.2.1 hd ha hb (k H locs ls hw hs hl)
theorem Z_pop2 (hk : okK κ δ cc own mL ret rm) {a : Value} (ha : a.category = 2) (hd : decode cc pc = .ok (.pop2, 1)) (k : Zj κ δ ad rt Q mL ρ (pc + 1) L S M) : Zj κ δ ad rt Q mL ρ pc L (a :: S) M := fun H locs ls hw hs hl => lv_pop2_2 hk.1 hk.2.1 hd ha (k H locs ls hw hs hl)
theorem Z_tableOut (hk : okK κ δ cc own mL ret rm) {x dflt lo hi : Int} {offs : Array Int} {len tgt : Nat} (hd : decode cc pc = .ok (.tableswitch dflt lo hi offs, len)) (ht : (pc : Int) + dflt = (tgt : Int)) (x1 : -2147483648 ≤ x) (x2 : x ≤ 2147483647) (h : x < lo ∨ hi < x) (k : Zj κ δ ad rt Q mL ρ tgt L S M) : Zj κ δ ad rt Q mL ρ pc L (iv x :: S) M := fun H locs ls hw hs hl => lv_tableOut hk.1 hk.2.1 hd (by rw [zI_toInt x1 x2]; exact h) ht (k H locs ls hw hs hl)
theorem Z_tableIn (hk : okK κ δ cc own mL ret rm) {x v dflt lo hi off : Int} {offs : Array Int} {len tgt : Nat} (hd : decode cc pc = .ok (.tableswitch dflt lo hi offs, len)) (hx : x = v) (x1 : -2147483648 ≤ v) (x2 : v ≤ 2147483647) (h1 : lo ≤ v) (h2 : v ≤ hi) (ho : offs[(v - lo).toNat]? = some off) (ht : (pc : Int) + off = (tgt : Int)) (k : Zj κ δ ad rt Q mL ρ tgt L S M) : Zj κ δ ad rt Q mL ρ pc L (iv x :: S) M := by
  subst hx
  exact fun H locs ls hw hs hl => lv_tableIn hk.1 hk.2.1 hd (by rw [zI_toInt x1 x2]; omega) (by rw [zI_toInt x1 x2]; omega) (by rw [zI_toInt x1 x2]; exact ho) ht (k H locs ls hw hs hl)
theorem Z_lookup (hk : okK κ δ cc own mL ret rm) {x dflt off : Int} {ps : Array (Int × Int)} {len tgt : Nat} (hd : decode cc pc = .ok (.lookupswitch dflt ps, len)) (hp : (ps.toList.zip (ps.toList.drop 1)).all (fun (a, next) => a.1 < next.1) = true) (x1 : -2147483648 ≤ x) (x2 : x ≤ 2147483647) (ho : Op.lookupswitch.offset ps.toList dflt x = off) (ht : (pc : Int) + off = (tgt : Int)) (k : Zj κ δ ad rt Q mL ρ tgt L S M) : Zj κ δ ad rt Q mL ρ pc L (iv x :: S) M := fun H locs ls hw hs hl => lv_lookup hk.1 hk.2.1 hd hp (by rw [zI_toInt x1 x2]; exact ho) ht (k H locs ls hw hs hl)
end ZROWS2
