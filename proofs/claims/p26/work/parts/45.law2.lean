def okTp (ty : FieldType) : Bool := match ty with
  | .object _ => false
  | .array _ => false
  | _ => true
theorem arr_known {s : State} {args : Array Value} {ty : FieldType} (h : (Cond.arrayClass ty).before args s = true) (hp : okTp ty = true) : ∃ cA : ClassId, ArrOfT s cA ty ∧ va_RA s cA ty := by
  obtain ⟨cA, kA, comp, h1, h2, h3⟩ := Cond.arrayClass_spec h
  exact ⟨cA, fun n z => ⟨fun k h => (by cases h), kA, h2, comp, h3⟩, by cases ty <;> first | exact h1 | (simp [okTp] at hp)⟩
theorem inv_start {M : Mem} (hq : Wq (up (up (up (up (up (up (up (up (up (up (up (up (up (up (fun _ _ => 0) 21 3 9) 21 5 (-1)) 20 2 0) 20 3 0) 20 4 (-1)) 38 3 9) 38 5 (-1)) 0 8 0) 0 9 0) 0 10 (-1)) 48 8 (-1)) 48 74 1) 48 76 (-1)) 48 91 (-1)) 121 M) : Inv M := by
  obtain ⟨e, z⟩ := hq
  have sv0 : SV 0 := by unfold SV; omega
  have e0 := e 0 (by decide)
  have e1 := e 1 (by decide)
  have e20 := e 20 (by decide)
  have e32 := e 32 (by decide)
  have e38 := e 38 (by decide)
  have e48 := e 48 (by decide)
  refine ⟨⟨?_, ?_, ?_, ?_, ?_, ?_, ?_, ?_, ?_, ?_, ?_, ?_, ?_, ?_⟩, ⟨?_, ?_, ?_, ?_, ?_, ?_, ?_, ?_, ?_, ?_⟩⟩
  · rw [e20]; decide
  · rw [e38]; decide
  · rw [e1]; decide
  · rw [e0, e1]; decide
  · rw [e32]; decide
  · exact AD.nil (by rw [e1]; decide)
  · intro k hk; rw [e 41 (by decide)]; exact ⟨Int.le_refl 0, (by decide : (0 : Int) ≤ 5)⟩
  · intro k hk; rw [e 46 (by decide)]; exact sv0
  · intro k hk; rw [e 47 (by decide)]; exact ⟨Int.le_refl 0, (by decide : (0 : Int) ≤ 700)⟩
  · intro k hk; rw [e 24 (by decide)]; exact ⟨Int.le_refl 0, (by decide : (0 : Int) ≤ 5)⟩
  · intro k hk; rw [e 29 (by decide)]; exact sv0
  · intro k hk; rw [e 30 (by decide)]; exact ⟨Int.le_refl 0, (by decide : (0 : Int) ≤ 700)⟩
  · intro k hk; rw [e 34 (by decide), e32]; exact ⟨Int.le_refl 0, (by decide : (0 : Int) ≤ 0)⟩
  · intro k hk; rw [e 35 (by decide), e32]; exact ⟨Int.le_refl 0, (by decide : (0 : Int) ≤ 0)⟩
  · rw [e48]; decide
  · rw [e48]; decide
  · rw [e48]; decide
  · intro j; rw [z 89 (by decide) j, z 90 (by decide) j, z 91 (by decide) j]; decide
  · intro k hk; rw [z 97 (by decide) k]; decide
  · intro k hk; rw [z 99 (by decide) k]; decide
  · intro k hk; rw [z 100 (by decide) k]; decide
  · intro k hk
    rw [e48] at hk
    have hk : (k : Int) < 0 := hk
    omega
  · exact AC.nil (by rw [e48]; decide)
  · intro j hj; rw [z 118 (by decide) j]; decide
theorem rel_start {M : Mem} (hq : Wq (up (up (up (up (up (up (up (up (up (up (up (up (up (up (fun _ _ => 0) 21 3 9) 21 5 (-1)) 20 2 0) 20 3 0) 20 4 (-1)) 38 3 9) 38 5 (-1)) 0 8 0) 0 9 0) 0 10 (-1)) 48 8 (-1)) 48 74 1) 48 76 (-1)) 48 91 (-1)) 121 M) : REL M := by
  obtain ⟨e, z⟩ := hq
  have e32 := e 32 (by decide)
  have e48 := e 48 (by decide)
  have t0 : M 32 0 = 0 := by rw [e32]; decide
  have t1 : M 32 1 = 0 := by rw [e32]; decide
  have t2 : M 48 108 = 0 := by rw [e48]; decide
  have t3 : M 48 109 = 0 := by rw [e48]; decide
  unfold REL
  rw [t0, t1, t2, t3]
  exact ⟨rfl, rfl, Or.inl ⟨rfl, rfl⟩, (fun i p hi => absurd hi (Nat.not_lt_zero _)), fun a b ha => absurd ha (Nat.not_lt_zero _)⟩
set_option maxRecDepth 10000 in
set_option maxHeartbeats 4000000 in
theorem law_loop {κ : Kp} {δ : Dp} {Q : State → Prop} (hk : okK κ δ cL_law R_law 4 ret room_1) (hz : NS δ) {b Ln : Nat} {xs : Nat → Int32} (hX : va_X b Ln xs κ.2.2.2.2.1 κ.2.2.2.2.1.heap) (hbl : b < κ.2.2.2.2.1.heap.size) (hbA : b < δ.2.2.1) (hLn : Ln ≤ 3072) (hend : ∀ (ad : Nat → Nat) (M : Mem) (L : List (Option Value)), Zj κ δ ad rs Q 4 (121, 121, 16318) 1091 L [iv 1] M) : ∀ (n : Nat) (i : Int) (ad : Nat → Nat) (M : Mem), okA δ ad → Inv M → REL M → 0 ≤ i → i ≤ 3078 → 3100 - i < (n : Int) → Zj κ δ ad rs Q 4 (121, 121, 16318) 18 [some (.ref b), some (.ref (ad 0)), some (.ref (ad 48)), some (iv i)] [] M := by
  intro n
  induction n with
  | zero => intro i ad M hA h hr h0 h1 h2; exfalso; omega
  | succ n ih =>
    intro i ad M hA h hr h0 h1 h2
    refine Z_iload3 hk dL_law_18 ?_
    refine Z_aload0 hk dL_law_19 ?_
    refine Z_slen hk hX hbl hbA hLn dL_law_20 ?_
    refine Z_bipush hk dL_law_21 (by decide) ?_
    refine Z_isub hk dL_law_23 ?_
    refine Z_icmp_gt hk (tgt := 1090) dL_law_24 (by decide) (by omega) (by omega) (by omega) (by omega) (fun h24 => ?_) (fun h24 => ?_)
    · refine Z_iconst hk dL_law_1090 ?_
      exact hend ad M _
    have hi : 0 ≤ i ∧ i + 6 ≤ Ln := by omega
    have J : ∀ (ad : Nat → Nat) (M : Mem), okA δ ad → Inv M → REL M → Zj κ δ ad rs Q 4 (121, 121, 16318) 1084 [some (.ref b), some (.ref (ad 0)), some (.ref (ad 48)), some (iv i)] [] M := fun ad M hA h hr => by
      refine Z_iinc3 hk rfl (by decide) dL_law_1084 ?_
      refine Z_goto hk (tgt := 18) dL_law_1087 (by decide) ?_
      exact ih (i + 6) ad M hA h hr (by omega) (by omega) (by omega)
    refine Z_aload0 hk dL_law_27 ?_
    refine Z_iload3 hk dL_law_28 ?_
    refine Z_sld hk hX hbl hbA hLn (by omega) (by omega) dL_law_29 (fun v29 e29 u29 w29 => ?_)
    refine Z_bipush hk dL_law_30 (by decide) ?_
    refine Z_iand hk dL_law_32 (fun v32 e32 a32 b32 => ?_)
    rcases (show (v32 < 0 ∨ 25 < v32) ∨ v32 = 0 ∨ v32 = 1 ∨ v32 = 2 ∨ v32 = 3 ∨ v32 = 4 ∨ v32 = 5 ∨ v32 = 6 ∨ v32 = 7 ∨ v32 = 8 ∨ v32 = 9 ∨ v32 = 10 ∨ v32 = 11 ∨ v32 = 12 ∨ v32 = 13 ∨ v32 = 14 ∨ v32 = 15 ∨ v32 = 16 ∨ v32 = 17 ∨ v32 = 18 ∨ v32 = 19 ∨ v32 = 20 ∨ v32 = 21 ∨ v32 = 22 ∨ v32 = 23 ∨ v32 = 24 ∨ v32 = 25 from by omega) with h33 | h33 | h33 | h33 | h33 | h33 | h33 | h33 | h33 | h33 | h33 | h33 | h33 | h33 | h33 | h33 | h33 | h33 | h33 | h33 | h33 | h33 | h33 | h33 | h33 | h33 | h33
    · refine Z_tableOut hk dL_law_33 (tgt := 1084) (by decide) (by omega) (by omega) h33 ?_
      exact J ad M hA h hr
    · refine Z_tableIn hk dL_law_33 h33 (by decide) (by decide) (by decide) (by decide) (off := 119) rfl (tgt := 152) (by decide) ?_
      exact law_152 hk hz hA h hr hX hbl hbA hLn hi J
    · refine Z_tableIn hk dL_law_33 h33 (by decide) (by decide) (by decide) (by decide) (off := 182) rfl (tgt := 215) (by decide) ?_
      exact law_215 hk hz hA h hr hX hbl hbA hLn hi J
    · refine Z_tableIn hk dL_law_33 h33 (by decide) (by decide) (by decide) (by decide) (off := 205) rfl (tgt := 238) (by decide) ?_
      exact law_238 hk hz hA h hr hX hbl hbA hLn hi J
    · refine Z_tableIn hk dL_law_33 h33 (by decide) (by decide) (by decide) (by decide) (off := 228) rfl (tgt := 261) (by decide) ?_
      exact law_261 hk hz hA h hr hX hbl hbA hLn hi J
    · refine Z_tableIn hk dL_law_33 h33 (by decide) (by decide) (by decide) (by decide) (off := 251) rfl (tgt := 284) (by decide) ?_
      exact law_284 hk hz hA h hr hX hbl hbA hLn hi J
    · refine Z_tableIn hk dL_law_33 h33 (by decide) (by decide) (by decide) (by decide) (off := 294) rfl (tgt := 327) (by decide) ?_
      exact law_327 hk hz hA h hr hX hbl hbA hLn hi J
    · refine Z_tableIn hk dL_law_33 h33 (by decide) (by decide) (by decide) (by decide) (off := 337) rfl (tgt := 370) (by decide) ?_
      exact law_370 hk hz hA h hr hX hbl hbA hLn hi J
    · refine Z_tableIn hk dL_law_33 h33 (by decide) (by decide) (by decide) (by decide) (off := 390) rfl (tgt := 423) (by decide) ?_
      exact law_423 hk hz hA h hr hX hbl hbA hLn hi J
    · refine Z_tableIn hk dL_law_33 h33 (by decide) (by decide) (by decide) (by decide) (off := 433) rfl (tgt := 466) (by decide) ?_
      exact law_466 hk hz hA h hr hX hbl hbA hLn hi J
    · refine Z_tableIn hk dL_law_33 h33 (by decide) (by decide) (by decide) (by decide) (off := 456) rfl (tgt := 489) (by decide) ?_
      exact law_489 hk hz hA h hr hX hbl hbA hLn hi J
    · refine Z_tableIn hk dL_law_33 h33 (by decide) (by decide) (by decide) (by decide) (off := 479) rfl (tgt := 512) (by decide) ?_
      exact law_512 hk hz hA h hr hX hbl hbA hLn hi J
    · refine Z_tableIn hk dL_law_33 h33 (by decide) (by decide) (by decide) (by decide) (off := 492) rfl (tgt := 525) (by decide) ?_
      exact law_525 hk hz hA h hr hX hbl hbA hLn hi J
    · refine Z_tableIn hk dL_law_33 h33 (by decide) (by decide) (by decide) (by decide) (off := 515) rfl (tgt := 548) (by decide) ?_
      exact law_548 hk hz hA h hr hX hbl hbA hLn hi J
    · refine Z_tableIn hk dL_law_33 h33 (by decide) (by decide) (by decide) (by decide) (off := 548) rfl (tgt := 581) (by decide) ?_
      exact law_581 hk hz hA h hr hX hbl hbA hLn hi J
    · refine Z_tableIn hk dL_law_33 h33 (by decide) (by decide) (by decide) (by decide) (off := 581) rfl (tgt := 614) (by decide) ?_
      exact law_614 hk hz hA h hr hX hbl hbA hLn hi J
    · refine Z_tableIn hk dL_law_33 h33 (by decide) (by decide) (by decide) (by decide) (off := 630) rfl (tgt := 663) (by decide) ?_
      exact law_663 hk hz hA h hr hX hbl hbA hLn hi J
    · refine Z_tableIn hk dL_law_33 h33 (by decide) (by decide) (by decide) (by decide) (off := 689) rfl (tgt := 722) (by decide) ?_
      exact law_722 hk hz hA h hr hX hbl hbA hLn hi J
    · refine Z_tableIn hk dL_law_33 h33 (by decide) (by decide) (by decide) (by decide) (off := 758) rfl (tgt := 791) (by decide) ?_
      exact law_791 hk hz hA h hr hX hbl hbA hLn hi J
    · refine Z_tableIn hk dL_law_33 h33 (by decide) (by decide) (by decide) (by decide) (off := 827) rfl (tgt := 860) (by decide) ?_
      exact law_860 hk hz hA h hr hX hbl hbA hLn hi J
    · refine Z_tableIn hk dL_law_33 h33 (by decide) (by decide) (by decide) (by decide) (off := 850) rfl (tgt := 883) (by decide) ?_
      exact law_883 hk hz hA h hr hX hbl hbA hLn hi J
    · refine Z_tableIn hk dL_law_33 h33 (by decide) (by decide) (by decide) (by decide) (off := 873) rfl (tgt := 906) (by decide) ?_
      exact law_906 hk hz hA h hr hX hbl hbA hLn hi J
    · refine Z_tableIn hk dL_law_33 h33 (by decide) (by decide) (by decide) (by decide) (off := 916) rfl (tgt := 949) (by decide) ?_
      exact law_949 hk hz hA h hr hX hbl hbA hLn hi J
    · refine Z_tableIn hk dL_law_33 h33 (by decide) (by decide) (by decide) (by decide) (off := 939) rfl (tgt := 972) (by decide) ?_
      exact law_972 hk hz hA h hr hX hbl hbA hLn hi J
    · refine Z_tableIn hk dL_law_33 h33 (by decide) (by decide) (by decide) (by decide) (off := 972) rfl (tgt := 1005) (by decide) ?_
      exact law_1005 hk hz hA h hr hX hbl hbA hLn hi J
    · refine Z_tableIn hk dL_law_33 h33 (by decide) (by decide) (by decide) (by decide) (off := 1005) rfl (tgt := 1038) (by decide) ?_
      exact law_1038 hk hz hA h hr hX hbl hbA hLn hi J
    · refine Z_tableIn hk dL_law_33 h33 (by decide) (by decide) (by decide) (by decide) (off := 1028) rfl (tgt := 1061) (by decide) ?_
      exact law_1061 hk hz hA h hr hX hbl hbA hLn hi J
/-! THE CLAIM OUT OF ONE WALK OF THE LAW'S BODY. Your part is whole_start (and what it stands on); all else here is the same for every law, but numbers. -/
def lw_P (b : Addr) (xs : List Int32) (args : Array Value) (s : State) : Prop := args = #[.ref b] ∧ s.IntsAt b xs ∧ xs.length ≤ 3072 ∧ (Jvm.Cond.and given_1 narrow_1).before args s = true
def lw_Q (_ : Array Value) (s : State) (o : Outcome) (t : State) : Prop := o = .returned (some (.int 1)) ∧ Framed s o t [] 600000 7302250
def lw_Z (below : List Frame) (a : Array Value) (s : State) : State → Prop := fun t => ∃ o, t.status = .running ∧ Ended t below o ∧ lw_Q a s o t
/-- the law's own end, with 1 on the stack, nothing written that was there before, its room as the claim has it -/
theorem lw_ret {p : Program} {l : Launch} {e : Env} {s : State} {m : MethodId} {below : List Frame} {meth : Method} {c : Code} {b : Nat} (hx : p.tables.exec = Jvm.exec) (hb : c.code = code) (hr : meth.sig.returnType = ret) (hlocks : meth.locks = false) {pc : Nat} {H : Heap} {ls : Array Slot} (hdg : decode code pc = .ok (.ireturn, 1)) : W p l e room_1 s m #[Value.ref b] below meth c H [] 600000 7302250 (lw_Z below #[Value.ref b] s) (F0 m pc ls [.int 1]) := by
  intro T hT X
  obtain ⟨fs, hret, hrun, hended, hW, hframe⟩ := X.leave (v := some (.int 1)) (hlocks := hlocks) (fun h => by rw [hr] at h; cases h)
  have hmeth' : T.vm.method? m = some meth := X.method'
  refine ⟨T.setFrames fs, ?_, .returned (some (.int 1)), hrun, hended, rfl, ⟨_, rfl⟩, hW, hframe⟩
  jvm_step X.here [X.here.top, hx, hb, hdg, hmeth', hr, ret, narrow_b1]
  (try refine ⟨rfl, ?_⟩); (try refine ⟨rfl, ?_⟩)
  first | (intro acts; rw [hret _ acts rfl rfl rfl]) | rw [hret _ _ rfl rfl rfl]
  exact Steps.refl _
/-- what holds at the law's entry: the machine, the code, the tables' words (any of lw_tbl by 'hts w (by decide +kernel)'), the script of L ints xs at the cell b, what the Statement gives of the start (any of its parts by flat_of_before) -/
def lw_At (p : Program) (s : State) (m : MethodId) (meth : Method) (c : Code) (b L : Nat) (xs : Nat → Int32) : Prop :=
  p.tables.exec = Jvm.exec ∧ c.code = code ∧ meth.sig.returnType = ret ∧ c.maxLocals = 4 ∧ s.vm.findClass R_law = some m.cls ∧ (∀ w ∈ lw_tbl, w.before #[Value.ref b] s = true) ∧ va_X b L xs s s.heap ∧ b < s.heap.size ∧ meth.locks = false ∧ (Jvm.Cond.and given_1 narrow_1).before #[Value.ref b] s = true
set_option maxRecDepth 100000 in
set_option maxHeartbeats 4000000 in
theorem whole_start {p : Program} {e : Env} {s : State} {m : MethodId} {below : List Frame} {meth : Method} {c : Code} (l : Launch) {b L : Nat} {xs : Nat → Int32} (hL : L ≤ 3072) (C0 : lw_At p s m meth c b L xs) : W p l e room_1 s m #[Value.ref b] below meth c s.heap [] 0 0 (lw_Z below #[Value.ref b] s) (entryFrame m ([Value.ref b] : List Value).toArray 4) := by
  obtain ⟨hx, hb, hr, hml, hown, hts, hX, hbl, hlocks, hgv⟩ := id C0
  have htg : ∀ w ∈ lw_g, w.before #[Value.ref b] s = true := fun w hw => hts w (List.mem_filter.mp hw).1
  obtain ⟨c0, iS0, hKn0⟩ := u_known (C := RX0) (T := TX0) (N := 1) (n := 1) htg iwX0 (htg _ (mg (w := .instantiable RX0 1) 64 (by decide +kernel) rfl))
  obtain ⟨c1, iS1, hKn1⟩ := u_known (C := RX1) (T := TX1) (N := 4) (n := 4) htg iwX1 (htg _ (mg (w := .instantiable RX1 4) 145 (by decide +kernel) rfl))
  obtain ⟨c2, iS2, hKn2⟩ := u_known (C := RX2) (T := TX2) (N := 7) (n := 7) htg iwX2 (htg _ (mg (w := .instantiable RX2 7) 27 (by decide +kernel) rfl))
  obtain ⟨c3, iS3, hKn3⟩ := u_known (C := RX3) (T := TX3) (N := 16) (n := 16) htg iwX3 (htg _ (mg (w := .instantiable RX3 16) 166 (by decide +kernel) rfl))
  obtain ⟨c4, iS4, hKn4⟩ := u_known (C := RX4) (T := TX4) (N := 10) (n := 10) htg iwX4 (htg _ (mg (w := .instantiable RX4 10) 164 (by decide +kernel) rfl))
  obtain ⟨c5, iS5, hKn5⟩ := u_known (C := RX5) (T := TX5) (N := 6) (n := 6) htg iwX5 (htg _ (mg (w := .instantiable RX5 6) 118 (by decide +kernel) rfl))
  obtain ⟨c6, iS6, hKn6⟩ := u_known (C := RX6) (T := TX6) (N := 7) (n := 7) htg iwX6 (htg _ (mg (w := .instantiable RX6 7) 282 (by decide +kernel) rfl))
  obtain ⟨c7, iS7, hKn7⟩ := u_known (C := RX7) (T := TX7) (N := 11) (n := 11) htg iwX7 (htg _ (mg (w := .instantiable RX7 11) 75 (by decide +kernel) rfl))
  obtain ⟨c8, iS8, hKn8⟩ := u_known (C := RX8) (T := TX8) (N := 11) (n := 11) htg iwX8 (htg _ (mg (w := .instantiable RX8 11) 19 (by decide +kernel) rfl))
  obtain ⟨c9, iS9, hKn9⟩ := u_known (C := RX9) (T := TX9) (N := 113) (n := 113) htg iwX9 (htg _ (mg (w := .instantiable RX9 113) 974 (by decide +kernel) rfl))
  obtain ⟨q100, hq100, hr100⟩ := arr_known (ty := elTy 100) (htg _ lk_a100) (by decide)
  obtain ⟨q101, hq101, hr101⟩ := arr_known (ty := elTy 101) (htg _ lk_a101) (by decide)
  obtain ⟨q102, hq102, hr102⟩ := arr_known (ty := elTy 102) (htg _ lk_a102) (by decide)
  obtain ⟨q103, hq103, hr103⟩ := arr_known (ty := elTy 103) (htg _ lk_a103) (by decide)
  obtain ⟨D, hD⟩ : ∃ D : va_G, ∀ (k : Nat) (q : vw_C), vwCl[k]? = some q → u_Kn s q.1 q.2.1 q.2.2 (D.1 k) (D.2 k) := by
    refine ⟨(fun k => [c0, c1, c2, c3, c4, c5, c6, c7, c8, c9].getD k c0, fun k => [iS0, iS1, iS2, iS3, iS4, iS5, iS6, iS7, iS8, iS9].getD k iS0), ?_⟩
    intro k q hq
    match k, hq with
    | 0, hq => cases hq; exact hKn0
    | 1, hq => cases hq; exact hKn1
    | 2, hq => cases hq; exact hKn2
    | 3, hq => cases hq; exact hKn3
    | 4, hq => cases hq; exact hKn4
    | 5, hq => cases hq; exact hKn5
    | 6, hq => cases hq; exact hKn6
    | 7, hq => cases hq; exact hKn7
    | 8, hq => cases hq; exact hKn8
    | 9, hq => cases hq; exact hKn9
    | k + 10, hq => exact absurd hq (by simp [vwCl])
  obtain ⟨δ, hδ⟩ : ∃ δ : Dp, δ = (D, (fun k => if k = 100 then q100 else if k = 101 then q101 else if k = 102 then q102 else q103), s.heap.size, s) := ⟨_, rfl⟩
  have hKd : va_K δ.1 vwCl (tysL δ) s := by
    subst hδ
    refine ⟨hD, fun k q hq => ?_⟩
    match k, hq with
    | 0, hq => cases hq; exact ⟨hq100, hr100⟩
    | 1, hq => cases hq; exact ⟨hq101, hr101⟩
    | 2, hq => cases hq; exact ⟨hq102, hr102⟩
    | 3, hq => cases hq; exact ⟨hq103, hr103⟩
    | k + 4, hq => exact absurd hq (by simp [tysL])
  have hz : NS δ := by subst hδ; exact ⟨_, fun w hw => hts w (List.mem_append_right _ hw), hgv, rfl⟩
  have hlow : lowS δ s := by subst hδ; exact ⟨State.WarmedH.refl s, Nat.le_refl _, fun q _ => rfl⟩
  have hk : okK (p, l, e, room_1, s, m, #[Value.ref b], below, meth, c) δ cL_law R_law 4 ret room_1 := ⟨hx, hb, hml, hown, htg, hKd, hr, hlocks, rfl, hlow⟩
  have hsz : δ.2.2.1 = s.heap.size := by subst hδ; rfl
  have hbA : b < δ.2.2.1 := by rw [hsz]; exact hbl
  have hA := ad0_ok δ
  have hl := lv_entry ([.ref b]) (n := 4) (Nat.le_of_ble_eq_true rfl)
  rw [lg_entry_eq]
  suffices hZ : Zj (p, l, e, room_1, s, m, #[Value.ref b], below, meth, c) δ (ad0 δ) (rq 0) (lw_Z below #[Value.ref b] s) 4 (0, 0, 0) 0 [some (.ref b), none, none, none] [] (fun _ _ => 0) from
    hZ s.heap [] _ ⟨by rw [hsz]; rfl, fun c hc => absurd hc (Nat.not_lt_zero _)⟩ va_S.rf ⟨hl.1, hl.2.1, fun i v h => hl.2.2 (i, v) (by match i, h with | 0, h => (cases h; exact List.mem_cons_self) | 1, h => cases h | 2, h => cases h | 3, h => cases h | i + 4, h => cases h)⟩
  have hq : Wq (fun _ _ => 0) 0 (fun _ _ => 0) := ⟨fun _ _ => rfl, fun _ _ _ => rfl⟩
  obtain ⟨M, hM⟩ : ∃ M : Mem, M = fun _ _ => 0 := ⟨_, rfl⟩
  rw [← hM]
  replace hq : Wq (fun _ _ => 0) 0 M := by rw [hM]; exact hq
  refine Z_new hk (k := 8) (N := 11) (C := RX8) (by decide +kernel) (by decide) (by decide) (mg 18 (by decide +kernel) rfl) (mg 19 (by decide +kernel) rfl) (mg 1 (by decide +kernel) rfl) ⟨_, rfl⟩ rfl dL_law_0 (hq.2 0 (Or.inl (Nat.le_refl _))) (rq_none (by decide +kernel)) ⟨by decide, by decide⟩ ?_
  show Zj _ δ (ad0 δ) (rq 0) _ 4 (1, 1, 11) 3 [some (.ref b), none, none, none] [.ref (ad0 δ 0)] _
  replace hq := hq.more
  refine Z_dup1 hk rfl dL_law_3 ?_
  refine Z_callI hk (n := 0) (y := yX8_init) (bytes := cX8_init) (k_X8_init_0 l δ hz _ _ hq) (mc1 22 rfl) (mg 1 (by decide +kernel) rfl) (mg 21 (by decide +kernel) rfl) rfl ⟨by decide, by decide, by decide +kernel⟩ (ml_L_9) dL_law_4 rfl ⟨by decide, by decide⟩ rfl (Nat.le_of_ble_eq_true rfl) ⟨by decide, by decide⟩ (fun v ad' rt' M' _ h => ?_)
  clear hq
  obtain ⟨rfl, rfl, rfl, hq⟩ := h
  show Zj _ δ (ad0 δ) (rq 52) _ 4 (48, 48, 6890) 7 [some (.ref b), none, none, none] [.ref (ad0 δ 0)] _
  refine Z_astore1 hk rfl (by decide) dL_law_7 ?_
  refine Z_new hk (k := 9) (N := 113) (C := RX9) (by decide +kernel) (by decide) (by decide) (mg 973 (by decide +kernel) rfl) (mg 974 (by decide +kernel) rfl) (mg 10 (by decide +kernel) rfl) ⟨_, rfl⟩ rfl dL_law_8 (hq.2 48 (Or.inl (Nat.le_refl _))) (rq_none (by decide +kernel)) ⟨by decide, by decide⟩ ?_
  show Zj _ δ (ad0 δ) (rq 52) _ 4 (49, 49, 7003) 11 [some (.ref b), some (.ref (ad0 δ 0)), none, none] [.ref (ad0 δ 48)] _
  replace hq := hq.more
  refine Z_dup1 hk rfl dL_law_11 ?_
  refine Z_callI hk (n := 0) (y := yX9_init) (bytes := cX9_init) (k_X9_init_48 l δ hz _ _ hq) (mc5 17 rfl) (mg 10 (by decide +kernel) rfl) (mg 976 (by decide +kernel) rfl) rfl ⟨by decide, by decide, by decide +kernel⟩ (ml_L_12) dL_law_12 rfl ⟨by decide, by decide⟩ rfl (Nat.le_of_ble_eq_true rfl) ⟨by decide, by decide⟩ (fun v ad' rt' M' _ h => ?_)
  clear hq
  obtain ⟨rfl, rfl, rfl, hq⟩ := h
  show Zj _ δ (ad0 δ) (rq 124) _ 4 (121, 121, 16318) 15 [some (.ref b), some (.ref (ad0 δ 0)), none, none] [.ref (ad0 δ 48)] _
  refine Z_astore2 hk rfl (by decide) dL_law_15 ?_
  skip
  refine Z_iconst hk dL_law_16 ?_
  refine Z_istore3 hk rfl (by decide) dL_law_17 ?_
  rw [rq_all]
  refine law_loop hk hz hX hbl hbA hL (fun ad M L => ?_) 3101 0 (ad0 δ) _ hA ?_ ?_ (by decide) (by decide) (by decide)
  · intro H locs ls hw hs hl2
    exact va_forget (fun q hq => by have := hs.2.2 q hq; rw [← hsz]; exact this) (W.widen (k := 600000) (n := 7302250) (by decide) (by decide) (lw_ret hx hb hr hlocks dL_law_1091))
  · exact inv_start hq
  · exact rel_start hq
set_option maxHeartbeats 4000000 in
theorem lw_walk (l : Launch) (b : Addr) (xs : List Int32) : MetFree l x (headSpec (Jvm.Cond.code x code maxLocals ret :: tables_1) room_1) (lw_P b xs) (fun _ _ _ _ _ => True) lw_Q := by
  refine MetFree.of_bodyS (code := code) (maxLocals := maxLocals) (ret := ret) (by decide) ?_ ?_
  · intro args s m h hn
    obtain ⟨meth, c, h1, h2, h3, h4, h5, h6, -, -⟩ := Cond.code_spec hn (atoms_spec (ws := Jvm.Cond.code x code maxLocals ret :: tables_1) h _ List.mem_cons_self)
    exact ⟨meth, c, h1, h2, h3, h4, h5, h6⟩
  · intro p e s m args below meth c s₁ B hml0 hP _
    obtain ⟨rfl, hx, hbd, hgv⟩ := hP
    obtain ⟨scr, harrAt, hlist, hof, hsmall⟩ := hx
    obtain ⟨hcb, hkn, -, -⟩ := State.arrayAt?_spec harrAt
    have hown : s.vm.findClass R_law = some m.cls := findClass_of_methodNamed B.named
    have hts0 : ∀ c ∈ (Jvm.Cond.code x code maxLocals ret :: tables_1), c.before #[Value.ref b] s = true := atoms_spec (ws := Jvm.Cond.code x code maxLocals ret :: tables_1) B.pre
    have hts : ∀ w ∈ lw_tbl, w.before #[Value.ref b] s = true := k2_hts_sels lw_privs (fun w hw => hts0 w (List.mem_cons_of_mem _ hw)) lw_privs_ok
    have hml : c.maxLocals = 4 := B.maxLocals_eq (hts0 _ List.mem_cons_self)
    have X₀ : Stand p l e room_1 s m #[Value.ref b] below meth c s₁ [] 0 0 := Stand.of_body B
    have hh0 : s₁.heap = s.heap := by rw [B.state]; rfl
    have hsz : scr.slots.size = xs.length := by rw [← Array.length_toList, hlist, List.length_map]
    have hval : ∀ j : Nat, j < xs.length → scr.slots[j]? = some (.int (xs.getD j 0)) := fun j hj => by
      rw [← Array.getElem?_toList, hlist]
      simp [hj]
    have hbl : b < s.heap.size := (Array.getElem?_eq_some_iff.mp hcb).1
    have hX : va_X b xs.length (fun j => xs.getD j 0) s s.heap := ⟨scr, hcb, hof, hkn, hsz, hval⟩
    have K : W p l e room_1 s m #[Value.ref b] below meth c s₁.heap [] 0 0 (lw_Z below #[Value.ref b] s) (entryFrame m ([Value.ref b] : List Value).toArray 4) := by
      rw [hh0]
      exact whole_start l hbd ⟨B.exec, B.bytes, B.returns, hml, hown, hts, hX, hbl, B.notSynchronized, hgv⟩
    obtain ⟨t, a1, o, b1, b2, b3⟩ := K s₁ rfl X₀
    exact ⟨t, o, a1, b1, b2, b3⟩
theorem lw_pre_spec {args : Array Value} {s : State} (h : (Jvm.Cond.and given_1 narrow_1).before args s = true) (hr : rest_1_c.before args s = true) : ∃ (b : Addr) (xs : List Int32), lw_P b xs args s := by
  have hs := flat_of_before _ h
  have hq := flat_of_before _ hr
  have hc : (Cond.count 1).before args s = true := hs _ (by decide +kernel)
  have harr : (Cond.arrayOf (.arg 0) .int).before args s = true := hs _ (by decide +kernel)
  have hle : (Cond.le (.length (.arg 0)) (.int 3072)).before args s = true := hs _ (by decide +kernel)
  have hlen : (Cond.isInt (.length (.arg 0))).before args s = true := hq _ (by decide +kernel)
  have hall : (Cond.all (.arg 0) (.isInt (.elem (.arg 0) (.index 0)))).before args s = true := hq _ (by decide +kernel)
  obtain ⟨b, xs, hb, hx⟩ := State.ints_of_pre rfl harr hlen hall
  have hsm : xs.length < 2 ^ 31 := hx.choose_spec.2.2.2
  have hev : (Term.length (.arg 0)).eval args s none [] s = some (.int xs.length.toInt32) := hx.length_eval hb
  have hv := Cond.le_ints hev (show (Term.int 3072).eval args s none [] s = some (.int 3072) from rfl)
  have hd : xs.length.toInt32 ≤ 3072 := by
    simpa [Cond.before, Cond.holds, hv] using hle
  have hN : xs.length ≤ 3072 := (Int32.ofNat_le_ofNat hsm (by decide)).mp (show Int32.ofNat xs.length ≤ Int32.ofNat 3072 from hd)
  exact ⟨b, xs, Cond.one_arg hc (show args[0]? = some (.ref b) from hb), hx, hN, h⟩
theorem lw_comes (l : Launch) : Comes l x (Jvm.Cond.code x code maxLocals ret :: tables_1) room_1 (fun tb e args s => Calls_1 tb e args s ∧ rest_1 tb e args s ∧ Pre_1 tb e args s)
    (fun _ _ args s o t => lw_Q args s o t) := by
  intro p e ha hc hk s m args below hf hfit hheap happ hpre
  obtain ⟨b, xs, hP⟩ := lw_pre_spec hpre.2.2 hpre.2.1
  obtain ⟨k, o, h1, h2, h3, hQ⟩ := lw_walk l b xs p e ha hc hk s m args below hf ((Spec.applies_iff_loose hf).mp happ).1 hP trivial
  exact ⟨k, o, h1, h2, h3, hQ⟩
theorem lw_frame {s t : State} {o : Outcome} {args : Array Value} (h : Framed s o t [] 600000 7302250) :
    Framed s o t (fieldLocs frame_1_writes args s ++ arrayLocs frame_1_arrays args s ++ staticLocs frame_1_statics s) 600000 7302250 := h
theorem lw_limb (L : Cond) (hL : ∀ (args : Array Value) (s t : State), L.after args s (.returned (some (.int 1))) t = true) :
    ArmFor flags0 classFile x code maxLocals ret World_1 tables_1 room_1 Calls_1 rest_1 Pre_1
      (fun tb e a s o t => postC L tb e a s o t ∧ Framed s o t (fieldLocs frame_1_writes a s ++ arrayLocs frame_1_arrays a s ++ staticLocs frame_1_statics s) 600000 7302250) := by
  intro l _ _ _ p e ha hc hk s m args below hf hfit hheap happ hpre
  obtain ⟨k, o, h1, h2, h3, rfl, hF⟩ := lw_comes l p e ha hc hk s m args below hf hfit hheap happ hpre
  exact ⟨k, _, h1, h2, h3, hL args s _, lw_frame hF⟩
theorem i_vc : Claimed_1_1 ∧ Claimed_1_2 := ⟨lw_limb limb_1_1 (fun args s t => by simp [limb_1_1, Cond.after, Cond.holds, Cond.value]), lw_limb limb_1_2 (fun args s t => Cond.after_iff.mpr (by
  first | (rw [show limb_1_2 = Cond.eq .result (.int 1) from rfl, Cond.eq_ints (x := 1) (y := 1) rfl rfl]; simp; done) | (simp [limb_1_2, Cond.value, Term.eval]; done)))⟩

