def owB : List Int32 := [112, 114, 111, 100, 117, 99, 116, 32, 116, 114, 105, 97, 110, 103, 108, 101, 32, 97, 103, 97, 105, 110, 115, 116, 32, 112, 97, 105, 114, 32, 108, 111, 111, 107, 32, 98, 101, 108, 111, 119, 32, 105, 110, 32, 116, 105, 101, 115, 32, 104, 97, 108, 102, 32, 100, 114, 111, 112, 32, 108, 111, 115, 101, 32, 115, 99, 97, 108, 101, 32, 111, 119, 110, 32, 114, 97, 119, 32, 114, 101, 102, 101, 114, 101, 110, 99, 101, 32, 99, 108, 97, 105, 109, 32, 119, 104, 101, 110, 32, 111, 114, 32, 97, 110, 100, 32, 110, 111, 116, 32, 111, 112, 101, 110, 32, 114, 105, 103, 104, 116, 32, 119, 114, 111, 110, 103, 32, 116, 105, 101, 100, 32, 99, 104, 97, 110, 99, 101, 32, 108, 101, 97, 115, 116, 32, 109, 111, 115, 116, 32, 109, 101, 97, 110, 32, 100, 114, 105, 102, 116, 32, 109, 105, 110, 32, 109, 97, 120, 32, 115, 116, 111, 112, 112, 101, 100, 32]
/-- the text of the words: its cell, its bytes' cell -/
def KS (δ : Dp) (q qv : Nat) : Prop := va_O "java/lang/String" q (fun q => δ.2.2.1 ≤ q) δ.2.2.2 δ.2.2.2.heap ∧ va_OF "java/lang/String" "coder" "B" (.int 0) q (fun q => δ.2.2.1 ≤ q) δ.2.2.2 δ.2.2.2.heap ∧ va_OF "java/lang/String" "value" "[B" (.ref qv) q (fun q => δ.2.2.1 ≤ q) δ.2.2.2 δ.2.2.2.heap ∧ va_T .byte qv 177 (fun j => .int (owB.getD j 0)) (fun q => δ.2.2.1 ≤ q) δ.2.2.2 δ.2.2.2.heap ∧ vk_R "TastingHouse$Reader" 193 "product triangle against pair look below in ties half drop lose scale own raw reference claim when or and not open right wrong tied chance least most mean drift min max stopped " q δ.2.2.2 ∧ va_Z "java/lang/String" "COMPACT_STRINGS" "Z" (.int 1) (fun q => δ.2.2.1 ≤ q) δ.2.2.2 δ.2.2.2.heap ∧ va_Zq "jdk/internal/util/Preconditions" "SIOOBE_FORMATTER" "Ljava/util/function/BiFunction;" (fun q => δ.2.2.1 ≤ q) δ.2.2.2 δ.2.2.2.heap
theorem ow_el : ∀ j, j < 177 → (flatC (Jvm.Cond.and given_1 narrow_1))[41 + j]? = some (Cond.eq (.elem (.field (.string "TastingHouse$Reader" 193) "java/lang/String" "value" "[B") (.int (Int32.ofNat j))) (.int (owB.getD j 0))) := by decide +kernel
theorem ns_str {δ : Dp} (hz : NS δ) : ∃ q qv : Nat, KS δ q qv := by
  obtain ⟨a, h1, h2, h3⟩ := hz
  have hs := flat_of_before _ h2
  have hA : ∀ q : Nat, q < δ.2.2.2.heap.size → ¬ δ.2.2.1 ≤ q := fun q hq => by rw [h3]; omega
  have at_ : ∀ (i : Nat) {c : Cond}, (flatC (Jvm.Cond.and given_1 narrow_1))[i]? = some c → c.before a δ.2.2.2 = true := fun i c h => hs c (List.mem_of_getElem? h)
  obtain ⟨q, c, cA, kA, q1, q2, q3, q4, q5, q6, -⟩ := Cond.exactly_spec (args := a) (first := δ.2.2.2) (o := none) (s := δ.2.2.2) (idx := []) (t := (.string "TastingHouse$Reader" 193)) (cls := "java/lang/String") (at_ 37 (by decide +kernel))
  obtain ⟨t, ht, hT⟩ := va_Tof (tm := .field (.string "TastingHouse$Reader" 193) "java/lang/String" "value" "[B") (ty := .byte) (N := 177) (f := fun j => .int (owB.getD j 0)) (A := fun q => δ.2.2.1 ≤ q) (by decide) (at_ 39 (by decide +kernel)) (va_eqt (at_ 40 (by decide +kernel))) (fun j hj => va_eqt (at_ (41 + j) (ow_el j hj))) hA
  have hr : (Cond.stringRef "TastingHouse$Reader" 193 "product triangle against pair look below in ties half drop lose scale own raw reference claim when or and not open right wrong tied chance least most mean drift min max stopped ").before a δ.2.2.2 = true := h1 _ (List.mem_of_getElem? (i := 381) (by decide +kernel))
  have hr2 : vk_R "TastingHouse$Reader" 193 "product triangle against pair look below in ties half drop lose scale own raw reference claim when or and not open right wrong tied chance least most mean drift min max stopped " q δ.2.2.2 := by
    refine ⟨?_, ?_⟩
    · first
        | exact va_tabs rfl rfl hr
        | (have h9 := hr; simp only [Cond.before, Cond.holds, Cond.value] at h9 ⊢; exact h9)
    · rw [← q1]
      exact Term.string_eval_of_vm (args := #[]) rfl
  exact ⟨q, t, ⟨cA, q3, q5, by rw [q6]; exact q2, hA q (Array.getElem?_eq_some_iff.mp q3).1⟩, vk_OFof q1 (va_eqt (at_ 38 (by decide +kernel))) hA, vk_OFof q1 ht hA, hT, hr2,
    va_Zof (h1 _ (List.mem_of_getElem? (i := 391) (by decide +kernel))) (h1 _ (List.mem_of_getElem? (i := 11) (by decide +kernel))) (va_eqi (at_ 4 (by decide +kernel))) hA,
    va_Zqof (h1 _ (List.mem_of_getElem? (i := 407) (by decide +kernel))) (h1 _ (List.mem_of_getElem? (i := 13) (by decide +kernel))) (at_ 5 (by decide +kernel)) hA⟩
section STRR
variable {κ : Kp} {δ : Dp} {ad : Nat → Nat} {rt : Rt} {Q : State → Prop} {mL : Nat} {ρ : Nat × Nat × Nat} {pc : Nat} {L : List (Option Value)} {S S0 : List Value} {M : Mem} {cc : ByteArray} {own : String} {ret : Option FieldType} {rm : Room} {fr lo : Nat}
theorem lowO (hk : okK κ δ cc own mL ret rm) {C : String} {t : Nat} (h : va_O C t (fun q => δ.2.2.1 ≤ q) δ.2.2.2 δ.2.2.2.heap) : va_O C t (fun q => δ.2.2.1 ≤ q) κ.2.2.2.2.1 κ.2.2.2.2.1.heap := (va_O.moved hk.2.2.2.2.2.2.2.2.2.1.alike h).kept (fun a _ hA => hk.2.2.2.2.2.2.2.2.2.2.2 a (Nat.not_le.mp hA))
theorem lowOF (hk : okK κ δ cc own mL ret rm) {o n d : String} {v : Value} {t : Nat} (h : va_OF o n d v t (fun q => δ.2.2.1 ≤ q) δ.2.2.2 δ.2.2.2.heap) : va_OF o n d v t (fun q => δ.2.2.1 ≤ q) κ.2.2.2.2.1 κ.2.2.2.2.1.heap := (va_OF.moved hk.2.2.2.2.2.2.2.2.2.1.alike h).kept (fun a _ hA => hk.2.2.2.2.2.2.2.2.2.2.2 a (Nat.not_le.mp hA))
theorem Z_fget (hk : okK κ δ cc own mL ret rm) {o n d : String} {v : Value} {t idx : Nat} (hE : va_OF o n d v t (fun q => δ.2.2.1 ≤ q) δ.2.2.2 δ.2.2.2.heap) (hl : Cond.fieldLink own idx o n d ∈ lw_g) (hd : decode cc pc = .ok (.getfield idx, 3)) (kk : Zj κ δ ad rt Q mL ρ (pc + 3) L (v :: S) M) : Zj κ δ ad rt Q mL ρ pc L (.ref t :: S) M := by
  intro H locs ls hw hs hlo
  exact vk_getf hk.1 hk.2.1 (lowOF hk hE) hs hk.2.2.2.1 (hk.2.2.2.2.1 _ hl) (fun _ h => h) hd (kk H locs ls hw hs hlo)
theorem Z_ldcS (hk : okK κ δ cc own mL ret rm) {tx : String} {idx q : Nat} (hR : vk_R own idx tx q δ.2.2.2) (hd : decode cc pc = .ok (.ldc idx, 2)) (kk : Zj κ δ ad rt Q mL ρ (pc + 2) L (.ref q :: S) M) : Zj κ δ ad rt Q mL ρ pc L S M := by
  intro H locs ls hw hs hlo
  exact va_ldcS hk.1 hk.2.1 hk.2.2.2.1 (vk_R.warm hk.2.2.2.2.2.2.2.2.2.1 hR) hd (kk H locs ls hw hs hlo)
theorem Z_nret {post : Pg} {r : Int} {ty : FieldType} (hk : okK κ δ cc own mL (some ty) rm) (hA : okA δ ad) (hQ : Qg κ δ ρ.1 ρ.2.1 ρ.2.2 post = Q) (hd : decode cc pc = .ok (.ireturn, 1)) (hn : narrow ty (iv r) = iv r) (hp : post (some (iv r)) ad rt M) : Zj κ δ ad rt Q mL ρ pc L [iv r] M := by
  intro H locs ls hw hs hl
  subst hQ
  exact W.zret (v := Int32.ofInt r) (ty := ty) hk.1 hk.2.1 hk.2.2.2.2.2.2.1 hn (fun t ht hW => ⟨⟨_, ad, rt, M, rfl, by rw [ht]; exact hw, hA, hp⟩, hs.F ht⟩) hs.2.2 hd hk.2.2.2.2.2.2.2.1
theorem Z_callF (hk : okK κ δ cc own mL ret rm) {y : MethodName} {bytes : ByteArray} {mL' n idx q nc' : Nat} {ret' : Option FieldType} {rm' : Room} {As : List Value} {post : Pg} (hO : va_O y.cls q (fun q => δ.2.2.1 ≤ q) δ.2.2.2 δ.2.2.2.heap) (hM : Mg κ.2.1 δ y bytes mL' ret' rm' ρ.1 nc' ad rt (.ref q :: As) M post) (h1 : Cond.code y bytes mL' ret' ∈ lw_g) (h2 : Cond.initialized y.cls ∈ lw_g) (h3 : Cond.instanceMethod y ∈ lw_g) (h4 : Cond.selects y.cls y y ∈ lw_g) (h5 : y.cls ≠ "java/lang/invoke/MethodHandle" ∧ y.cls ≠ "java/lang/invoke/VarHandle" ∧ (parseMethodDescriptor y.desc).map (fun d => d.parameters.length) = some n) (hlk : Cond.methodLink own idx y ∈ lw_g) (hd : decode cc pc = .ok (.invokevirtual idx, 3)) (hn : As.length = n) (hR : rm'.frames + 1 ≤ rm.frames ∧ 8 + (mL' + 11) + rm'.locals ≤ rm.locals) (hst : S0 = As.reverse ++ .ref q :: S) (hsum : (S.map fun v => v.category).sum ≤ 8) (hf : ρ.2.1 + rm'.cells ≤ rm.cells ∧ ρ.2.2 + rm'.slots ≤ rm.slots)
    (kk : ∀ (v : Option Value) (ad' : Nat → Nat) (rt' : Rt) (M' : Mem), okA δ ad' → post v ad' rt' M' → Zj κ δ ad' rt' Q mL (nc', ρ.2.1 + rm'.cells, ρ.2.2 + rm'.slots) (pc + 3) L (v.toList ++ S) M') : Zj κ δ ad rt Q mL ρ pc L S0 M := by
  refine Z_run (a := (Value.ref q :: As).toArray) (fun H locs ls hw hs hls => ?_) kk
  obtain ⟨cell, q1, q2, q3, -⟩ := (lowO hk hO).kept hs.2.1
  have ht := hk.2.2.2.2.1
  have hRm := hk.2.2.2.2.2.2.2.2.1
  exact va_runV (As := As) (rest := S) (C := y.cls) ⟨hk.1, hk.2.1, hk.2.2.1, hk.2.2.2.1, ht⟩ hM
    ⟨callB_of n ht (good_code h1) rfl rfl rfl (ht _ h2) (ht _ hlk) h5 (by rw [hRm]; exact hR), ht _ h3, ht _ h4⟩
    ⟨blindPcg, ⟨cell, q1, q2, q3⟩, fun U hU hW => ⟨rfl, by rw [hU]; exact hw, va_K.moved hW.alike hk.2.2.2.2.2.1, lowS_on hk hs hU hW⟩⟩
    rfl hn hls hst (lv_room hsum) hd (by rw [hRm]; exact hf)
theorem Z_Fi (hk : okK κ δ cc own mL ret (rmN fr lo)) {y : MethodName} {bytes : ByteArray} {mL' n idx q fr' lo' : Nat} {ret' : Option FieldType} {As : List Value} {post : Int → Mem → Prop} (hO : va_O y.cls q (fun q => δ.2.2.1 ≤ q) δ.2.2.2 δ.2.2.2.heap) (hM : Mi κ.2.1 δ y bytes mL' ret' fr' lo' ad rt (.ref q :: As) M post) (h1 : Cond.code y bytes mL' ret' ∈ lw_g ∧ Cond.initialized y.cls ∈ lw_g ∧ Cond.instanceMethod y ∈ lw_g ∧ Cond.selects y.cls y y ∈ lw_g) (h5 : y.cls ≠ "java/lang/invoke/MethodHandle" ∧ y.cls ≠ "java/lang/invoke/VarHandle" ∧ (parseMethodDescriptor y.desc).map (fun d => d.parameters.length) = some n) (hlk : Cond.methodLink own idx y ∈ lw_g) (hd : decode cc pc = .ok (.invokevirtual idx, 3)) (hn : As.length = n) (hR : fr' + 1 ≤ fr ∧ 8 + (mL' + 11) + lo' ≤ lo) (hst : S0 = As.reverse ++ .ref q :: S) (hsum : (S.map fun v => v.category).sum ≤ 8) (kk : ∀ (r : Int) (M' : Mem), post r M' → Zj κ δ ad rt Q mL (121, 0, 0) (pc + 3) L (iv r :: S) M') : Zj κ δ ad rt Q mL (121, 0, 0) pc L S0 M :=
  Z_callF hk (ρ := (121, 0, 0)) hO hM h1.1 h1.2.1 h1.2.2.1 h1.2.2.2 h5 hlk hd hn hR hst hsum ⟨Nat.le_refl 0, Nat.le_refl 0⟩ (fun v ad' rt' M' _ h => by obtain ⟨rfl, rfl, r, rfl, hp⟩ := h; exact kk r M' hp)
end STRR
theorem o4_len : Cond.code yJ0_length_8abf5 cJ0_length_8abf5 1 (some (.int)) ∈ lw_g ∧ Cond.initialized yJ0_length_8abf5.cls ∈ lw_g ∧ Cond.instanceMethod yJ0_length_8abf5 ∈ lw_g ∧ Cond.selects yJ0_length_8abf5.cls yJ0_length_8abf5 yJ0_length_8abf5 ∈ lw_g := ⟨mc2 145 rfl, mg 11 (by decide +kernel) rfl, mg 383 (by decide +kernel) rfl, mg 384 (by decide +kernel) rfl⟩
theorem o4_chr : Cond.code yJ0_charAt_5068e cJ0_charAt_5068e 2 (some (.char)) ∈ lw_g ∧ Cond.initialized yJ0_charAt_5068e.cls ∈ lw_g ∧ Cond.instanceMethod yJ0_charAt_5068e ∈ lw_g ∧ Cond.selects yJ0_charAt_5068e.cls yJ0_charAt_5068e yJ0_charAt_5068e ∈ lw_g := ⟨mc2 155 rfl, mg 11 (by decide +kernel) rfl, mg 393 (by decide +kernel) rfl, mg 394 (by decide +kernel) rfl⟩
theorem o4_cod : Cond.code yJ0_coder_7d493 cJ0_coder_7d493 1 (some (.byte)) ∈ lw_g ∧ Cond.initialized yJ0_coder_7d493.cls ∈ lw_g ∧ Cond.instanceMethod yJ0_coder_7d493 ∈ lw_g ∧ Cond.selects yJ0_coder_7d493.cls yJ0_coder_7d493 yJ0_coder_7d493 ∈ lw_g := ⟨mc2 149 rfl, mg 11 (by decide +kernel) rfl, mg 387 (by decide +kernel) rfl, mg 388 (by decide +kernel) rfl⟩
theorem o4_lat : Cond.code yJ0_isLatin1_aae02 cJ0_isLatin1_aae02 1 (some (.boolean)) ∈ lw_g ∧ Cond.initialized yJ0_isLatin1_aae02.cls ∈ lw_g ∧ Cond.instanceMethod yJ0_isLatin1_aae02 ∈ lw_g ∧ Cond.selects yJ0_isLatin1_aae02.cls yJ0_isLatin1_aae02 yJ0_isLatin1_aae02 ∈ lw_g := ⟨mc2 159 rfl, mg 11 (by decide +kernel) rfl, mg 397 (by decide +kernel) rfl, mg 398 (by decide +kernel) rfl⟩
theorem c_pci (l : Launch) (δ : Dp) (ad : Nat → Nat) (M : Mem) (hA : okA δ ad) (i k : Int) (h : 0 ≤ i ∧ i < k ∧ k ≤ 2147483647) (F : Value) (hF : F = .null ∨ ∃ t, F = .ref t) : Mi l δ yJ3_checkIndex_8e157 cJ3_checkIndex_8e157 3 (some (.int)) 0 0 ad rs [iv i, iv k, F] M (fun r M' => M = M' ∧ r = i) := by
  rcases hF with rfl | ⟨t, rfl⟩
  · refine Mg.of (rm := rmN 0 0) (by decide) (Nat.le_of_ble_eq_true rfl) fun κ _ hk _ => ?_
    generalize hQ : Qg κ δ 121 (rmN 0 0).cells (rmN 0 0).slots _ = Q
    show Zj κ δ ad rs Q 3 (121, 0, 0) 0 [some (iv i), some (iv k), some .null] [] M
    refine Z_iload0 hk dJ3_checkIndex_8e157_0 ?_
    refine Z_if_lt hk (tgt := 9) dJ3_checkIndex_8e157_1 (by decide) (by omega) (by omega) (fun h1 => ?_) (fun h1 => ?_)
    · exfalso; omega
    refine Z_iload0 hk dJ3_checkIndex_8e157_4 ?_
    refine Z_iload1 hk dJ3_checkIndex_8e157_5 ?_
    refine Z_icmp_lt hk (tgt := 16) dJ3_checkIndex_8e157_6 (by decide) (by omega) (by omega) (by omega) (by omega) (fun h2 => ?_) (fun h2 => ?_)
    · refine Z_iload0 hk dJ3_checkIndex_8e157_16 ?_
      exact Z_iret hk hA hQ dJ3_checkIndex_8e157_17 ⟨rfl, rfl, _, rfl, rfl, rfl⟩
    · exfalso; omega
  · refine Mg.of (rm := rmN 0 0) (by decide) (Nat.le_of_ble_eq_true rfl) fun κ _ hk _ => ?_
    generalize hQ : Qg κ δ 121 (rmN 0 0).cells (rmN 0 0).slots _ = Q
    show Zj κ δ ad rs Q 3 (121, 0, 0) 0 [some (iv i), some (iv k), some (.ref t)] [] M
    refine Z_iload0 hk dJ3_checkIndex_8e157_0 ?_
    refine Z_if_lt hk (tgt := 9) dJ3_checkIndex_8e157_1 (by decide) (by omega) (by omega) (fun h1 => ?_) (fun h1 => ?_)
    · exfalso; omega
    refine Z_iload0 hk dJ3_checkIndex_8e157_4 ?_
    refine Z_iload1 hk dJ3_checkIndex_8e157_5 ?_
    refine Z_icmp_lt hk (tgt := 16) dJ3_checkIndex_8e157_6 (by decide) (by omega) (by omega) (by omega) (by omega) (fun h2 => ?_) (fun h2 => ?_)
    · refine Z_iload0 hk dJ3_checkIndex_8e157_16 ?_
      exact Z_iret hk hA hQ dJ3_checkIndex_8e157_17 ⟨rfl, rfl, _, rfl, rfl, rfl⟩
    · exfalso; omega
theorem c_sci (l : Launch) (δ : Dp) (ad : Nat → Nat) (M : Mem) (hA : okA δ ad) (q qv : Nat) (hq : KS δ q qv) (i k : Int) (h : 0 ≤ i ∧ i < k ∧ k ≤ 2147483647) : Mv l δ yJ0_checkIndex_df160 cJ0_checkIndex_df160 2 none 1 30 ad rs [iv i, iv k] M (fun M' => M = M') := by
  refine Mg.of (rm := rmN 1 30) (by decide) (Nat.le_of_ble_eq_true rfl) fun κ _ hk _ => ?_
  generalize hQ : Qg κ δ 121 (rmN 1 30).cells (rmN 1 30).slots _ = Q
  show Zj κ δ ad rs Q 2 (121, 0, 0) 0 [some (iv i), some (iv k)] [] M
  obtain ⟨h1, h2, h3, h4, h5, h6, h7⟩ := hq
  refine Z_iload0 hk dJ0_checkIndex_df160_0 ?_
  refine Z_iload1 hk dJ0_checkIndex_df160_1 ?_
  obtain ⟨F, hF, hZ⟩ : ∃ F : Value, (F = .null ∨ ∃ t, F = .ref t) ∧ va_Z "jdk/internal/util/Preconditions" "SIOOBE_FORMATTER" "Ljava/util/function/BiFunction;" F (fun q => δ.2.2.1 ≤ q) δ.2.2.2 δ.2.2.2.heap := by
    rcases h7 with h7 | ⟨t, h7⟩
    · exact ⟨_, Or.inl rfl, h7⟩
    · exact ⟨_, Or.inr ⟨t, rfl⟩, h7⟩
  refine Z_gs hk hZ (mg 406 (by decide +kernel) rfl) dJ0_checkIndex_df160_2 ?_
  refine Z_Si hk (As := [iv i, iv k, F]) (S := []) (c_pci κ.2.1 δ ad M hA i k h F hF) os_J3_checkIndex_8e157 ml_J0_1059 dJ0_checkIndex_df160_5 rfl ⟨by decide, by decide⟩ rfl (Nat.le_of_ble_eq_true rfl) (fun r M1 p => ?_)
  obtain ⟨rfl, p⟩ := p
  refine Z_pop1 hk rfl dJ0_checkIndex_df160_8 ?_
  exact Z_vret hk hA hQ dJ0_checkIndex_df160_9 ⟨rfl, rfl, rfl, rfl⟩
theorem c_lca (l : Launch) (δ : Dp) (ad : Nat → Nat) (M : Mem) (hA : okA δ ad) (q qv : Nat) (hq : KS δ q qv) (i : Int) (h : 0 ≤ i ∧ i < 177) : Mi l δ yJ1_charAt_3b067 cJ1_charAt_3b067 2 (some (.char)) 2 60 ad rs [.ref qv, iv i] M (fun r M' => M = M' ∧ 0 ≤ r ∧ r ≤ 255) := by
  refine Mg.of (rm := rmN 2 60) (by decide) (Nat.le_of_ble_eq_true rfl) fun κ _ hk _ => ?_
  generalize hQ : Qg κ δ 121 (rmN 2 60).cells (rmN 2 60).slots _ = Q
  show Zj κ δ ad rs Q 2 (121, 0, 0) 0 [some (.ref qv), some (iv i)] [] M
  have hT := hq.2.2.2.1
  refine Z_iload1 hk dJ1_charAt_3b067_0 ?_
  refine Z_aload0 hk dJ1_charAt_3b067_1 ?_
  refine Z_flen hk hT (by decide) dJ1_charAt_3b067_2 ?_
  refine Z_Sv hk (As := [iv i, iv ((177 : Nat) : Int)]) (S := []) (c_sci κ.2.1 δ ad M hA q qv hq i ((177 : Nat) : Int) (by omega)) os_J0_checkIndex_df160 ml_J1_9 dJ1_charAt_3b067_3 rfl ⟨by decide, by decide⟩ rfl (Nat.le_of_ble_eq_true rfl) (fun M1 p => ?_)
  subst p
  refine Z_aload0 hk dJ1_charAt_3b067_6 ?_
  refine Z_iload1 hk dJ1_charAt_3b067_7 ?_
  refine Z_fbld hk hT (by omega) (by omega) (by decide) dJ1_charAt_3b067_8 (fun v e a b => ?_)
  refine Z_sipush hk dJ1_charAt_3b067_9 (by decide) ?_
  refine Z_iand hk dJ1_charAt_3b067_12 (fun v2 e2 a2 b2 => ?_)
  have g := and_mask (Int32.ofInt v) 8 (m := 255) (by decide +kernel) (by decide)
  rw [← e2] at g
  refine Z_i2c hk dJ1_charAt_3b067_13 (by omega) (by omega) ?_
  exact Z_nret hk hA hQ dJ1_charAt_3b067_14 (n_char (by omega) (by omega)) ⟨rfl, rfl, _, rfl, rfl, by omega⟩
theorem c_cod (l : Launch) (δ : Dp) (ad : Nat → Nat) (M : Mem) (hA : okA δ ad) (q qv : Nat) (hq : KS δ q qv) : Mi l δ yJ0_coder_7d493 cJ0_coder_7d493 1 (some (.byte)) 0 0 ad rs [.ref q] M (fun r M' => M = M' ∧ r = 0) := by
  refine Mg.of (rm := rmN 0 0) (by decide) (Nat.le_of_ble_eq_true rfl) fun κ _ hk _ => ?_
  generalize hQ : Qg κ δ 121 (rmN 0 0).cells (rmN 0 0).slots _ = Q
  show Zj κ δ ad rs Q 1 (121, 0, 0) 0 [some (.ref q)] [] M
  obtain ⟨h1, h2, h3, h4, h5, h6, h7⟩ := hq
  refine Z_gs hk h6 (mg 390 (by decide +kernel) rfl) dJ0_coder_7d493_0 ?_
  show Zj κ δ ad rs Q 1 (121, 0, 0) 3 [some (.ref q)] [iv 1] M
  refine Z_if_eq hk (tgt := 13) dJ0_coder_7d493_3 (by decide) (by decide) (by decide) (fun h => ?_) (fun h => ?_)
  · exfalso; omega
  refine Z_aload0 hk dJ0_coder_7d493_6 ?_
  refine Z_fget hk h2 (mg 1734 (by decide +kernel) rfl) dJ0_coder_7d493_7 ?_
  show Zj κ δ ad rs Q 1 (121, 0, 0) 10 [some (.ref q)] [iv 0] M
  refine Z_goto hk (tgt := 14) dJ0_coder_7d493_10 (by decide) ?_
  exact Z_nret hk hA hQ dJ0_coder_7d493_14 rfl ⟨rfl, rfl, _, rfl, rfl, rfl⟩
theorem c_lat (l : Launch) (δ : Dp) (ad : Nat → Nat) (M : Mem) (hA : okA δ ad) (q qv : Nat) (hq : KS δ q qv) : Mi l δ yJ0_isLatin1_aae02 cJ0_isLatin1_aae02 1 (some (.boolean)) 0 0 ad rs [.ref q] M (fun r M' => M = M' ∧ r = 1) := by
  refine Mg.of (rm := rmN 0 0) (by decide) (Nat.le_of_ble_eq_true rfl) fun κ _ hk _ => ?_
  generalize hQ : Qg κ δ 121 (rmN 0 0).cells (rmN 0 0).slots _ = Q
  show Zj κ δ ad rs Q 1 (121, 0, 0) 0 [some (.ref q)] [] M
  obtain ⟨h1, h2, h3, h4, h5, h6, h7⟩ := hq
  refine Z_gs hk h6 (mg 390 (by decide +kernel) rfl) dJ0_isLatin1_aae02_0 ?_
  show Zj κ δ ad rs Q 1 (121, 0, 0) 3 [some (.ref q)] [iv 1] M
  refine Z_if_eq hk (tgt := 17) dJ0_isLatin1_aae02_3 (by decide) (by decide) (by decide) (fun h => ?_) (fun h => ?_)
  · exfalso; omega
  refine Z_aload0 hk dJ0_isLatin1_aae02_6 ?_
  refine Z_fget hk h2 (mg 1734 (by decide +kernel) rfl) dJ0_isLatin1_aae02_7 ?_
  show Zj κ δ ad rs Q 1 (121, 0, 0) 10 [some (.ref q)] [iv 0] M
  refine Z_if_ne hk (tgt := 17) dJ0_isLatin1_aae02_10 (by decide) (by decide) (by decide) (fun h => ?_) (fun h => ?_)
  · exfalso; omega
  refine Z_iconst hk dJ0_isLatin1_aae02_13 ?_
  refine Z_goto hk (tgt := 18) dJ0_isLatin1_aae02_14 (by decide) ?_
  exact Z_zret hk hA hQ dJ0_isLatin1_aae02_18 (by decide) (by decide) ⟨rfl, rfl, _, rfl, rfl, rfl⟩
theorem sh0 : (Int32.ofInt ((177 : Nat) : Int) >>> (Int32.ofInt 0 &&& 31)).toInt = 177 := by decide +kernel
theorem c_len (l : Launch) (δ : Dp) (ad : Nat → Nat) (M : Mem) (hA : okA δ ad) (q qv : Nat) (hq : KS δ q qv) : Mi l δ yJ0_length_8abf5 cJ0_length_8abf5 1 (some (.int)) 1 20 ad rs [.ref q] M (fun r M' => M = M' ∧ r = 177) := by
  refine Mg.of (rm := rmN 1 20) (by decide) (Nat.le_of_ble_eq_true rfl) fun κ _ hk _ => ?_
  generalize hQ : Qg κ δ 121 (rmN 1 20).cells (rmN 1 20).slots _ = Q
  show Zj κ δ ad rs Q 1 (121, 0, 0) 0 [some (.ref q)] [] M
  obtain ⟨h1, h2, h3, h4, h5, h6, h7⟩ := id hq
  refine Z_aload0 hk dJ0_length_8abf5_0 ?_
  refine Z_fget hk h3 (mg 1733 (by decide +kernel) rfl) dJ0_length_8abf5_1 ?_
  refine Z_flen hk h4 (by decide) dJ0_length_8abf5_4 ?_
  refine Z_aload0 hk dJ0_length_8abf5_5 ?_
  refine Z_Fi hk h1 (As := []) (S := [iv ((177 : Nat) : Int)]) (c_cod κ.2.1 δ ad M hA q qv hq) o4_cod ⟨by decide, by decide, by decide +kernel⟩ ml_J0_335 dJ0_length_8abf5_6 rfl ⟨by decide, by decide⟩ rfl (Nat.le_of_ble_eq_true rfl) (fun r M1 p => ?_)
  obtain ⟨rfl, rfl⟩ := p
  refine Z_ishr hk dJ0_length_8abf5_9 (fun v e a b => ?_)
  rw [sh0] at e
  exact Z_iret hk hA hQ dJ0_length_8abf5_10 ⟨rfl, rfl, _, rfl, rfl, e⟩
theorem c_chr (l : Launch) (δ : Dp) (ad : Nat → Nat) (M : Mem) (hA : okA δ ad) (q qv : Nat) (hq : KS δ q qv) (i : Int) (h : 0 ≤ i ∧ i < 177) : Mi l δ yJ0_charAt_5068e cJ0_charAt_5068e 2 (some (.char)) 3 100 ad rs [.ref q, iv i] M (fun r M' => M = M' ∧ 0 ≤ r ∧ r ≤ 255) := by
  refine Mg.of (rm := rmN 3 100) (by decide) (Nat.le_of_ble_eq_true rfl) fun κ _ hk _ => ?_
  generalize hQ : Qg κ δ 121 (rmN 3 100).cells (rmN 3 100).slots _ = Q
  show Zj κ δ ad rs Q 2 (121, 0, 0) 0 [some (.ref q), some (iv i)] [] M
  obtain ⟨h1, h2, h3, h4, h5, h6, h7⟩ := id hq
  refine Z_aload0 hk dJ0_charAt_5068e_0 ?_
  refine Z_Fi hk h1 (As := []) (S := []) (c_lat κ.2.1 δ ad M hA q qv hq) o4_lat ⟨by decide, by decide, by decide +kernel⟩ ml_J0_492 dJ0_charAt_5068e_1 rfl ⟨by decide, by decide⟩ rfl (Nat.le_of_ble_eq_true rfl) (fun r M1 p => ?_)
  obtain ⟨rfl, rfl⟩ := p
  refine Z_if_eq hk (tgt := 16) dJ0_charAt_5068e_4 (by decide) (by decide) (by decide) (fun h => ?_) (fun _ => ?_)
  · exfalso; omega
  refine Z_aload0 hk dJ0_charAt_5068e_7 ?_
  refine Z_fget hk h3 (mg 1733 (by decide +kernel) rfl) dJ0_charAt_5068e_8 ?_
  refine Z_iload1 hk dJ0_charAt_5068e_11 ?_
  refine Z_Si hk (As := [.ref qv, iv i]) (S := []) (c_lca κ.2.1 δ ad M hA q qv hq i h) os_J1_charAt_3b067 ml_J0_495 dJ0_charAt_5068e_12 rfl ⟨by decide, by decide⟩ rfl (Nat.le_of_ble_eq_true rfl) (fun r M1 p => ?_)
  obtain ⟨rfl, p⟩ := p
  exact Z_nret hk hA hQ dJ0_charAt_5068e_15 (n_char (by omega) (by omega)) ⟨rfl, rfl, _, rfl, rfl, by omega⟩
