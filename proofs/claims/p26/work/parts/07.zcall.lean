theorem tbl_good : ∀ w ∈ lw_g, (w.onTables && w.keeps) = true ∨ ∃ ty, w = .arrayClass ty := fun w hw => good_of_word (List.mem_filter.mp hw).2
abbrev Pg : Type := Option Value → (Nat → Nat) → Rt → Mem → Prop
def Qcg (δ : Dp) (nc' : Nat) (post : Pg) : Array Value → State → Outcome → State → Prop := fun _ st o t => (∃ (v : Option Value) (ad' : Nat → Nat) (rt' : Rt) (M' : Mem), o = .returned v ∧ wd δ ad' rt' nc' M' t.heap ∧ okA δ ad' ∧ post v ad' rt' M') ∧ va_F (fun q => δ.2.2.1 ≤ q) st t
def Pcg (δ : Dp) (nc : Nat) (ad : Nat → Nat) (rt : Rt) (As : List Value) (M : Mem) : Array Value → State → Prop := fun a U => a = As.toArray ∧ wd δ ad rt nc M U.heap ∧ va_K δ.1 vwCl (tysL δ) U ∧ lowS δ U
def Mg (l : Launch) (δ : Dp) (y : MethodName) (cc : ByteArray) (mL : Nat) (ret : Option FieldType) (rm : Room) (nc nc' : Nat) (ad : Nat → Nat) (rt : Rt) (As : List Value) (M : Mem) (post : Pg) : Prop :=
  Met l y (.code y cc mL ret :: lw_g) rm (Pcg δ nc ad rt As M) (Qcg δ nc' post) rm.cells rm.slots (fun q => δ.2.2.1 ≤ q)
def Qg (κ : Kp) (δ : Dp) (nc' mc ms : Nat) (post : Pg) : State → Prop := MQ κ.2.2.2.2.2.2.2.1 (Qcg δ nc' post) κ.2.2.2.2.2.2.1 κ.2.2.2.2.1 mc ms (fun q => δ.2.2.1 ≤ q)
def ent : List Value → List (Option Value)
  | [] => []
  | v :: vs => if v.category = 2 then some v :: none :: ent vs else some v :: ent vs
section ZCALL
variable {κ : Kp} {δ : Dp} {ad : Nat → Nat} {rt : Rt} {Q : State → Prop} {mL : Nat} {ρ : Nat × Nat × Nat} {pc : Nat} {L : List (Option Value)} {S S0 : List Value} {M : Mem} {cc : ByteArray} {own : String} {ret : Option FieldType} {rm : Room} {fr lo : Nat}
theorem ent_mem : ∀ (vs : List Value) (k i : Nat) (v : Value) (n : Nat), (ent vs ++ List.replicate n none)[i]? = some (some v) → (k + i, v) ∈ lv_args k vs := by
  intro vs
  induction vs with
  | nil =>
    intro k i v n h
    simp [ent, List.getElem?_replicate] at h
  | cons a vs ih =>
    intro k i v n h
    by_cases hc : a.category = 2
    · rw [ent, if_pos hc] at h
      match i, h with
      | 0, h =>
        have e : a = v := by simpa using h
        subst e
        simp [lv_args]
      | 1, h => simp at h
      | i + 2, h =>
        have := ih (k + 2) i v n (by simpa using h)
        rw [show k + 2 + i = k + (i + 2) by omega] at this
        simp [lv_args, hc]
        exact this
    · rw [ent, if_neg hc] at h
      match i, h with
      | 0, h =>
        have e : a = v := by simpa using h
        subst e
        simp [lv_args]
      | i + 1, h =>
        have := ih (k + 1) i v n (by simpa using h)
        rw [show k + 1 + i = k + (i + 1) by omega] at this
        have h1 : a.category = 1 := (lv_cat a).resolve_right hc
        simp [lv_args, h1]
        exact this
theorem Mg.of {l : Launch} {y : MethodName} {nc nc' : Nat} {As : List Value} {post : Pg} (hy : plainName y.cls = true) (hm : (lg_sl As).length ≤ mL)
    (body : ∀ κ : Kp, κ.2.1 = l → okK κ δ cc y.cls mL ret rm → κ.2.2.2.2.2.2.2.2.1.name = y.name → Zj κ δ ad rt (Qg κ δ nc' rm.cells rm.slots post) mL (nc, 0, 0) 0 (ent As ++ List.replicate (mL - (ent As).length) none) [] M) : Mg l δ y cc mL ret rm nc nc' ad rt As M post := by
  refine Met.ofW (cc := cc) (maxL := mL) (ret := ret) hy rfl ?_
  intro p e s m args below meth c s₁ B hml hv
  obtain ⟨rfl, hw, hK, hlw⟩ := hv
  have hts := atoms_spec (ws := .code y cc mL ret :: lw_g) B.pre
  have hl := lv_entry As hm
  rw [lg_entry_eq]
  exact body (p, l, e, rm, s, m, As.toArray, below, meth, c) rfl ⟨B.exec, B.bytes, hml, findClass_of_methodNamed B.named, fun w hw => hts w (List.mem_cons_of_mem _ hw), hK, B.returns, B.notSynchronized, rfl, hlw⟩ (name_of_methodNamed B.named B.method).1
    s.heap [] _ hw va_S.rf ⟨hl.1, hl.2.1, fun i v h => hl.2.2 (i, v) (by have := ent_mem As 0 i v _ h; rwa [Nat.zero_add] at this)⟩
theorem Z_iret {post : Pg} {r : Int} (hk : okK κ δ cc own mL (some .int) rm) (hA : okA δ ad) (hQ : Qg κ δ ρ.1 ρ.2.1 ρ.2.2 post = Q) (hd : decode cc pc = .ok (.ireturn, 1)) (hp : post (some (iv r)) ad rt M) : Zj κ δ ad rt Q mL ρ pc L [iv r] M := by
  intro H locs ls hw hs hl
  subst hQ
  exact W.iret (v := Int32.ofInt r) hk.1 hk.2.1 hk.2.2.2.2.2.2.1 (fun t ht hW => ⟨⟨_, ad, rt, M, rfl, by rw [ht]; exact hw, hA, hp⟩, hs.F ht⟩) hs.2.2 hd hk.2.2.2.2.2.2.2.1
theorem Z_zret {post : Pg} {r : Int} (hk : okK κ δ cc own mL (some .boolean) rm) (hA : okA δ ad) (hQ : Qg κ δ ρ.1 ρ.2.1 ρ.2.2 post = Q) (hd : decode cc pc = .ok (.ireturn, 1)) (r1 : 0 ≤ r) (r2 : r ≤ 1) (hp : post (some (iv r)) ad rt M) : Zj κ δ ad rt Q mL ρ pc L [iv r] M := by
  intro H locs ls hw hs hl
  subst hQ
  exact W.zret (v := Int32.ofInt r) (ty := .boolean) hk.1 hk.2.1 hk.2.2.2.2.2.2.1 (n_bool r1 r2) (fun t ht hW => ⟨⟨_, ad, rt, M, rfl, by rw [ht]; exact hw, hA, hp⟩, hs.F ht⟩) hs.2.2 hd hk.2.2.2.2.2.2.2.1
theorem Z_lret {post : Pg} {r : Int} (hk : okK κ δ cc own mL (some .long) rm) (hA : okA δ ad) (hQ : Qg κ δ ρ.1 ρ.2.1 ρ.2.2 post = Q) (hd : decode cc pc = .ok (.lreturn, 1)) (hp : post (some (jv r)) ad rt M) : Zj κ δ ad rt Q mL ρ pc L [jv r] M := by
  intro H locs ls hw hs hl
  subst hQ
  exact W.lret (v := Int64.ofInt r) hk.1 hk.2.1 hk.2.2.2.2.2.2.1 (fun t ht hW => ⟨⟨_, ad, rt, M, rfl, by rw [ht]; exact hw, hA, hp⟩, hs.F ht⟩) hs.2.2 hd hk.2.2.2.2.2.2.2.1
theorem Z_vret {post : Pg} (hk : okK κ δ cc own mL none rm) (hA : okA δ ad) (hQ : Qg κ δ ρ.1 ρ.2.1 ρ.2.2 post = Q) (hd : decode cc pc = .ok (.return_, 1)) (hp : post none ad rt M) : Zj κ δ ad rt Q mL ρ pc L [] M := by
  intro H locs ls hw hs hl
  subst hQ
  exact W.vret hk.1 hk.2.1 hk.2.2.2.2.2.2.1 (fun t ht hW => ⟨⟨_, ad, rt, M, rfl, by rw [ht]; exact hw, hA, hp⟩, hs.F ht⟩) hs.2.2 hd hk.2.2.2.2.2.2.2.1
theorem Z_run {nc' mc ms : Nat} {post : Pg} {a : Array Value} (hr : ∀ (H : Heap) (locs : List Loc) (ls : Array Slot), wd δ ad rt ρ.1 M H → va_S (fun q => δ.2.2.1 ≤ q) κ.2.2.2.2.1.heap H locs → ls.size = mL → va_Run κ.1 κ.2.1 κ.2.2.1 κ.2.2.2.1 κ.2.2.2.2.1 κ.2.2.2.2.2.1 κ.2.2.2.2.2.2.1 κ.2.2.2.2.2.2.2.1 κ.2.2.2.2.2.2.2.2.1 κ.2.2.2.2.2.2.2.2.2 H locs ρ.2.1 ρ.2.2 mc ms (F0 κ.2.2.2.2.2.1 pc ls S0) S (Qcg δ nc' post a) (fun q => δ.2.2.1 ≤ q))
    (kk : ∀ (v : Option Value) (ad' : Nat → Nat) (rt' : Rt) (M' : Mem), okA δ ad' → post v ad' rt' M' → Zj κ δ ad' rt' Q mL (nc', ρ.2.1 + mc, ρ.2.2 + ms) (pc + 3) L (v.toList ++ S) M') : Zj κ δ ad rt Q mL ρ pc L S0 M := by
  intro H locs ls hw hs hl T hT X
  obtain ⟨v, st₀, t, T', Lc, h0, X', hL, e1, e2, ⟨⟨v', ad', rt', M', hv, hw', hA', hp⟩, hz, hkp⟩, st⟩ := hr H locs ls hw hs hl.1 T hT X
  cases hv
  rw [h0] at hz hkp
  have hs' : va_S (fun q => δ.2.2.1 ≤ q) κ.2.2.2.2.1.heap T'.heap (locs ++ Lc) := ⟨Nat.le_trans hs.1 (by rw [e1]; exact hz), fun q h1 h2 => by rw [e1, hkp q (Nat.lt_of_lt_of_le h1 hs.1) h2]; exact hs.2.1 q h1 h2, fun q hq => by
      rcases List.mem_append.mp hq with h | h
      · exact hs.2.2 q h
      · exact hL q h⟩
  obtain ⟨t2, a1, b1⟩ := kk v ad' rt' M' hA' hp T'.heap (locs ++ Lc) ls (by rw [e1]; exact hw') hs' hl T' rfl X'
  exact ⟨t2, st t2 a1, b1⟩
theorem lowS_on (hk : okK κ δ cc own mL ret rm) {H : Heap} {locs : List Loc} (hs : va_S (fun q => δ.2.2.1 ≤ q) κ.2.2.2.2.1.heap H locs) {U : State} (hU : U.heap = H) (hW : κ.2.2.2.2.1.WarmedH U.vm) : lowS δ U := by
  have h := hk.2.2.2.2.2.2.2.2.2
  refine ⟨h.1.trans hW, by rw [hU]; exact Nat.le_trans h.2.1 hs.1, fun q hq => ?_⟩
  rw [hU, hs.2.1 q (Nat.lt_of_lt_of_le hq h.2.1) (Nat.not_le.mpr hq)]
  exact h.2.2 q hq
theorem blindPcg {nc : Nat} {As : List Value} : FrameBlind (Pcg δ nc ad rt As M) := fun a U g mk h => ⟨h.1, h.2.1, va_K.moved (u := U) (U := U.calling g mk a) (Vm.Alike.refl _) h.2.2.1, h.2.2.2⟩
def okV (y : MethodName) (bytes : ByteArray) (mL' : Nat) (ret' : Option FieldType) (n kb : Nat) : Prop := Cond.code y bytes mL' ret' ∈ lw_g ∧ Cond.initialized y.cls ∈ lw_g ∧ Cond.instanceMethod y ∈ lw_g ∧ Cond.selects y.cls y y ∈ lw_g ∧ (y.cls ≠ "java/lang/invoke/MethodHandle" ∧ y.cls ≠ "java/lang/invoke/VarHandle" ∧ (parseMethodDescriptor y.desc).map (fun d => d.parameters.length) = some n) ∧ ∃ q : vw_C, vwCl[kb]? = some q ∧ q.1 = y.cls
def okS (y : MethodName) (bytes : ByteArray) (mL' : Nat) (ret' : Option FieldType) (n : Nat) : Prop := Cond.code y bytes mL' ret' ∈ lw_g ∧ Cond.initialized y.cls ∈ lw_g ∧ Cond.static y ∈ lw_g ∧ (y.cls ≠ "java/lang/invoke/MethodHandle" ∧ y.cls ≠ "java/lang/invoke/VarHandle" ∧ (parseMethodDescriptor y.desc).map (fun d => d.parameters.length) = some n)
theorem good_code {c : Cond} (h : c ∈ lw_g) : GoodIn lw_g (c :: lw_g) := fun w hw => by
  rcases List.mem_cons.mp hw with e | e
  · subst e; exact ⟨h, tbl_good _ h⟩
  · exact ⟨e, tbl_good _ e⟩
theorem Z_callV (hk : okK κ δ cc own mL ret rm) {y : MethodName} {bytes : ByteArray} {mL' n kb N idx b nc' : Nat} {ret' : Option FieldType} {rm' : Room} {As : List Value} {post : Pg} (hM : Mg κ.2.1 δ y bytes mL' ret' rm' ρ.1 nc' ad rt (.ref (ad b) :: As) M post) (hV : okV y bytes mL' ret' n kb) (hlk : Cond.methodLink own idx y ∈ lw_g) (hd : decode cc pc = .ok (.invokevirtual idx, 3)) (hn : As.length = n) (hR : rm'.frames + 1 ≤ rm.frames ∧ 8 + (mL' + 11) + rm'.locals ≤ rm.locals) (hb : lay b = (kb, N)) (hkb : kb < 100) (hb2 : b < ρ.1) (hst : S0 = As.reverse ++ .ref (ad b) :: S) (hsum : (S.map fun v => v.category).sum ≤ 8) (hf : ρ.2.1 + rm'.cells ≤ rm.cells ∧ ρ.2.2 + rm'.slots ≤ rm.slots)
    (kk : ∀ (v : Option Value) (ad' : Nat → Nat) (rt' : Rt) (M' : Mem), okA δ ad' → post v ad' rt' M' → Zj κ δ ad' rt' Q mL (nc', ρ.2.1 + rm'.cells, ρ.2.2 + rm'.slots) (pc + 3) L (v.toList ++ S) M') : Zj κ δ ad rt Q mL ρ pc L S0 M := by
  refine Z_run (a := (Value.ref (ad b) :: As).toArray) (fun H locs ls hw hs hls => ?_) kk
  obtain ⟨h1, h2, h3, h4, h5, q, hq, hqc⟩ := hV
  have hcell := hw.2 b hb2
  rw [hb] at hcell
  obtain ⟨⟨cell, q1, q2, q3, -⟩, -⟩ := hcell.1 hkb
  obtain ⟨-, hfc, -⟩ := hk.2.2.2.2.2.1.1 kb q hq
  have ht := hk.2.2.2.2.1
  have hRm := hk.2.2.2.2.2.2.2.2.1
  exact va_runV (As := As) (rest := S) (C := y.cls) ⟨hk.1, hk.2.1, hk.2.2.1, hk.2.2.2.1, ht⟩ hM
    ⟨callB_of n ht (good_code h1) rfl rfl rfl (ht _ h2) (ht _ hlk) h5 (by rw [hRm]; exact hR), ht _ h3, ht _ h4⟩
    ⟨blindPcg, ⟨cell, q1, by rw [q3]; rfl, by rw [q2, ← hqc]; exact hfc⟩, fun U hU hW => ⟨rfl, by rw [hU]; exact hw, va_K.moved hW.alike hk.2.2.2.2.2.1, lowS_on hk hs hU hW⟩⟩
    rfl hn hls hst (lv_room hsum) hd (by rw [hRm]; exact hf)
theorem Z_callS (hk : okK κ δ cc own mL ret rm) {y : MethodName} {bytes : ByteArray} {mL' n idx nc' : Nat} {ret' : Option FieldType} {rm' : Room} {As : List Value} {post : Pg} (hM : Mg κ.2.1 δ y bytes mL' ret' rm' ρ.1 nc' ad rt As M post) (hV : okS y bytes mL' ret' n) (hlk : Cond.methodLink own idx y ∈ lw_g) (hd : decode cc pc = .ok (.invokestatic idx, 3)) (hn : As.length = n) (hR : rm'.frames + 1 ≤ rm.frames ∧ 8 + (mL' + 11) + rm'.locals ≤ rm.locals) (hst : S0 = As.reverse ++ S) (hsum : (S.map fun v => v.category).sum ≤ 8) (hf : ρ.2.1 + rm'.cells ≤ rm.cells ∧ ρ.2.2 + rm'.slots ≤ rm.slots)
    (kk : ∀ (v : Option Value) (ad' : Nat → Nat) (rt' : Rt) (M' : Mem), okA δ ad' → post v ad' rt' M' → Zj κ δ ad' rt' Q mL (nc', ρ.2.1 + rm'.cells, ρ.2.2 + rm'.slots) (pc + 3) L (v.toList ++ S) M') : Zj κ δ ad rt Q mL ρ pc L S0 M := by
  refine Z_run (a := As.toArray) (fun H locs ls hw hs hls => ?_) kk
  obtain ⟨h1, h2, h3, h5⟩ := hV
  have ht := hk.2.2.2.2.1
  have hRm := hk.2.2.2.2.2.2.2.2.1
  exact va_runS (As := As) (rest := S) ⟨hk.1, hk.2.1, hk.2.2.1, hk.2.2.2.1, ht⟩ hM
    ⟨callB_of n ht (good_code h1) rfl rfl rfl (ht _ h2) (ht _ hlk) h5 (by rw [hRm]; exact hR), ht _ h3⟩
    ⟨blindPcg, fun U hU hW => ⟨rfl, by rw [hU]; exact hw, va_K.moved hW.alike hk.2.2.2.2.2.1, lowS_on hk hs hU hW⟩⟩
    rfl hn hls hst (lv_room hsum) hd (by rw [hRm]; exact hf)
abbrev rmN (fr lo : Nat) : Room := { frames := fr, cells := 0, slots := 0, locals := lo }
def Mi (l : Launch) (δ : Dp) (y : MethodName) (cc : ByteArray) (mL : Nat) (ret : Option FieldType) (fr lo : Nat) (ad : Nat → Nat) (rt : Rt) (As : List Value) (M : Mem) (post : Int → Mem → Prop) : Prop := Mg l δ y cc mL ret (rmN fr lo) 121 121 ad rt As M (fun v ad' rt' M' => ad' = ad ∧ rt' = rt ∧ ∃ r, v = some (iv r) ∧ post r M')
def Mj (l : Launch) (δ : Dp) (y : MethodName) (cc : ByteArray) (mL : Nat) (ret : Option FieldType) (fr lo : Nat) (ad : Nat → Nat) (rt : Rt) (As : List Value) (M : Mem) (post : Int → Mem → Prop) : Prop := Mg l δ y cc mL ret (rmN fr lo) 121 121 ad rt As M (fun v ad' rt' M' => ad' = ad ∧ rt' = rt ∧ ∃ r, v = some (jv r) ∧ post r M')
def Mv (l : Launch) (δ : Dp) (y : MethodName) (cc : ByteArray) (mL : Nat) (ret : Option FieldType) (fr lo : Nat) (ad : Nat → Nat) (rt : Rt) (As : List Value) (M : Mem) (post : Mem → Prop) : Prop := Mg l δ y cc mL ret (rmN fr lo) 121 121 ad rt As M (fun v ad' rt' M' => ad' = ad ∧ rt' = rt ∧ v = none ∧ post M')
theorem Z_Vi (hk : okK κ δ cc own mL ret (rmN fr lo)) {y : MethodName} {bytes : ByteArray} {mL' n kb N idx b fr' lo' : Nat} {ret' : Option FieldType} {As : List Value} {post : Int → Mem → Prop} (hM : Mi κ.2.1 δ y bytes mL' ret' fr' lo' ad rt (.ref (ad b) :: As) M post) (hV : okV y bytes mL' ret' n kb) (hlk : Cond.methodLink own idx y ∈ lw_g) (hd : decode cc pc = .ok (.invokevirtual idx, 3)) (hn : As.length = n) (hR : fr' + 1 ≤ fr ∧ 8 + (mL' + 11) + lo' ≤ lo) (hb : lay b = (kb, N)) (hkb : kb < 100) (hb2 : b < 121) (hst : S0 = As.reverse ++ .ref (ad b) :: S) (hsum : (S.map fun v => v.category).sum ≤ 8) (kk : ∀ (r : Int) (M' : Mem), post r M' → Zj κ δ ad rt Q mL (121, 0, 0) (pc + 3) L (iv r :: S) M') : Zj κ δ ad rt Q mL (121, 0, 0) pc L S0 M :=
  Z_callV hk (ρ := (121, 0, 0)) hM hV hlk hd hn hR hb hkb hb2 hst hsum ⟨Nat.le_refl 0, Nat.le_refl 0⟩ (fun v ad' rt' M' _ h => by obtain ⟨rfl, rfl, r, rfl, hp⟩ := h; exact kk r M' hp)
theorem Z_Si (hk : okK κ δ cc own mL ret (rmN fr lo)) {y : MethodName} {bytes : ByteArray} {mL' n idx fr' lo' : Nat} {ret' : Option FieldType} {As : List Value} {post : Int → Mem → Prop} (hM : Mi κ.2.1 δ y bytes mL' ret' fr' lo' ad rt As M post) (hV : okS y bytes mL' ret' n) (hlk : Cond.methodLink own idx y ∈ lw_g) (hd : decode cc pc = .ok (.invokestatic idx, 3)) (hn : As.length = n) (hR : fr' + 1 ≤ fr ∧ 8 + (mL' + 11) + lo' ≤ lo) (hst : S0 = As.reverse ++ S) (hsum : (S.map fun v => v.category).sum ≤ 8) (kk : ∀ (r : Int) (M' : Mem), post r M' → Zj κ δ ad rt Q mL (121, 0, 0) (pc + 3) L (iv r :: S) M') : Zj κ δ ad rt Q mL (121, 0, 0) pc L S0 M :=
  Z_callS hk (ρ := (121, 0, 0)) hM hV hlk hd hn hR hst hsum ⟨Nat.le_refl 0, Nat.le_refl 0⟩ (fun v ad' rt' M' _ h => by obtain ⟨rfl, rfl, r, rfl, hp⟩ := h; exact kk r M' hp)
theorem Z_Vj (hk : okK κ δ cc own mL ret (rmN fr lo)) {y : MethodName} {bytes : ByteArray} {mL' n kb N idx b fr' lo' : Nat} {ret' : Option FieldType} {As : List Value} {post : Int → Mem → Prop} (hM : Mj κ.2.1 δ y bytes mL' ret' fr' lo' ad rt (.ref (ad b) :: As) M post) (hV : okV y bytes mL' ret' n kb) (hlk : Cond.methodLink own idx y ∈ lw_g) (hd : decode cc pc = .ok (.invokevirtual idx, 3)) (hn : As.length = n) (hR : fr' + 1 ≤ fr ∧ 8 + (mL' + 11) + lo' ≤ lo) (hb : lay b = (kb, N)) (hkb : kb < 100) (hb2 : b < 121) (hst : S0 = As.reverse ++ .ref (ad b) :: S) (hsum : (S.map fun v => v.category).sum ≤ 8) (kk : ∀ (r : Int) (M' : Mem), post r M' → Zj κ δ ad rt Q mL (121, 0, 0) (pc + 3) L (jv r :: S) M') : Zj κ δ ad rt Q mL (121, 0, 0) pc L S0 M :=
  Z_callV hk (ρ := (121, 0, 0)) hM hV hlk hd hn hR hb hkb hb2 hst hsum ⟨Nat.le_refl 0, Nat.le_refl 0⟩ (fun v ad' rt' M' _ h => by obtain ⟨rfl, rfl, r, rfl, hp⟩ := h; exact kk r M' hp)
theorem Z_Sj (hk : okK κ δ cc own mL ret (rmN fr lo)) {y : MethodName} {bytes : ByteArray} {mL' n idx fr' lo' : Nat} {ret' : Option FieldType} {As : List Value} {post : Int → Mem → Prop} (hM : Mj κ.2.1 δ y bytes mL' ret' fr' lo' ad rt As M post) (hV : okS y bytes mL' ret' n) (hlk : Cond.methodLink own idx y ∈ lw_g) (hd : decode cc pc = .ok (.invokestatic idx, 3)) (hn : As.length = n) (hR : fr' + 1 ≤ fr ∧ 8 + (mL' + 11) + lo' ≤ lo) (hst : S0 = As.reverse ++ S) (hsum : (S.map fun v => v.category).sum ≤ 8) (kk : ∀ (r : Int) (M' : Mem), post r M' → Zj κ δ ad rt Q mL (121, 0, 0) (pc + 3) L (jv r :: S) M') : Zj κ δ ad rt Q mL (121, 0, 0) pc L S0 M :=
  Z_callS hk (ρ := (121, 0, 0)) hM hV hlk hd hn hR hst hsum ⟨Nat.le_refl 0, Nat.le_refl 0⟩ (fun v ad' rt' M' _ h => by obtain ⟨rfl, rfl, r, rfl, hp⟩ := h; exact kk r M' hp)
theorem Z_Vv (hk : okK κ δ cc own mL ret (rmN fr lo)) {y : MethodName} {bytes : ByteArray} {mL' n kb N idx b fr' lo' : Nat} {ret' : Option FieldType} {As : List Value} {post : Mem → Prop} (hM : Mv κ.2.1 δ y bytes mL' ret' fr' lo' ad rt (.ref (ad b) :: As) M post) (hV : okV y bytes mL' ret' n kb) (hlk : Cond.methodLink own idx y ∈ lw_g) (hd : decode cc pc = .ok (.invokevirtual idx, 3)) (hn : As.length = n) (hR : fr' + 1 ≤ fr ∧ 8 + (mL' + 11) + lo' ≤ lo) (hb : lay b = (kb, N)) (hkb : kb < 100) (hb2 : b < 121) (hst : S0 = As.reverse ++ .ref (ad b) :: S) (hsum : (S.map fun v => v.category).sum ≤ 8) (kk : ∀ (M' : Mem), post M' → Zj κ δ ad rt Q mL (121, 0, 0) (pc + 3) L S M') : Zj κ δ ad rt Q mL (121, 0, 0) pc L S0 M :=
  Z_callV hk (ρ := (121, 0, 0)) hM hV hlk hd hn hR hb hkb hb2 hst hsum ⟨Nat.le_refl 0, Nat.le_refl 0⟩ (fun v ad' rt' M' _ h => by obtain ⟨rfl, rfl, rfl, hp⟩ := h; exact kk M' hp)
theorem Z_Sv (hk : okK κ δ cc own mL ret (rmN fr lo)) {y : MethodName} {bytes : ByteArray} {mL' n idx fr' lo' : Nat} {ret' : Option FieldType} {As : List Value} {post : Mem → Prop} (hM : Mv κ.2.1 δ y bytes mL' ret' fr' lo' ad rt As M post) (hV : okS y bytes mL' ret' n) (hlk : Cond.methodLink own idx y ∈ lw_g) (hd : decode cc pc = .ok (.invokestatic idx, 3)) (hn : As.length = n) (hR : fr' + 1 ≤ fr ∧ 8 + (mL' + 11) + lo' ≤ lo) (hst : S0 = As.reverse ++ S) (hsum : (S.map fun v => v.category).sum ≤ 8) (kk : ∀ (M' : Mem), post M' → Zj κ δ ad rt Q mL (121, 0, 0) (pc + 3) L S M') : Zj κ δ ad rt Q mL (121, 0, 0) pc L S0 M :=
  Z_callS hk (ρ := (121, 0, 0)) hM hV hlk hd hn hR hst hsum ⟨Nat.le_refl 0, Nat.le_refl 0⟩ (fun v ad' rt' M' _ h => by obtain ⟨rfl, rfl, rfl, hp⟩ := h; exact kk M' hp)
end ZCALL
