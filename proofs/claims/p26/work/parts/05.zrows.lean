section ZROWS
variable {κ : Kp} {δ : Dp} {ad : Nat → Nat} {rt : Rt} {Q : State → Prop} {mL : Nat} {ρ : Nat × Nat × Nat} {pc : Nat} {L : List (Option Value)} {S : List Value} {M : Mem} {cc : ByteArray} {own : String} {ret : Option FieldType} {rm : Room}
def nl : Option Value → Bool
  | some v => v.category == 1
  | none => true
theorem nl_no {l : Option Value} {w : Value} (h : nl l = true) (e : some l = some (some w)) (c : w.category = 2) : False := by
  cases Option.some.inj e
  simp [nl, c] at h
def upd1 (L : List (Option Value)) (i : Nat) (v : Value) (L' : List (Option Value)) : Prop := ∀ (j : Nat) (w : Value), L'[j]? = some (some w) → (j = i ∧ w = v) ∨ (j ≠ i ∧ L[j]? = some (some w) ∧ ¬ (j + 1 = i ∧ w.category = 2))
def upd2 (L : List (Option Value)) (i : Nat) (v : Value) (L' : List (Option Value)) : Prop := ∀ (j : Nat) (w : Value), L'[j]? = some (some w) → (j = i ∧ w = v) ∨ (j ≠ i ∧ j ≠ i + 1 ∧ L[j]? = some (some w) ∧ ¬ (j + 1 = i ∧ w.category = 2))
def prs : Nat → List (Option Value) → List (Nat × Value)
  | _, [] => []
  | k, none :: L => prs (k + 1) L
  | k, some v :: L => (k, v) :: prs (k + 1) L
theorem prs_mem : ∀ (L : List (Option Value)) (k i : Nat) (v : Value), (i, v) ∈ prs k L ↔ k ≤ i ∧ L[i - k]? = some (some v) := by
  intro L
  induction L with
  | nil => intro k i v; simp [prs]
  | cons a L ih =>
    intro k i v
    have hs : i ≠ k → k ≤ i → (a :: L)[i - k]? = L[i - (k + 1)]? := by
      intro h1 h2
      have : i - k = (i - (k + 1)) + 1 := by omega
      rw [this]; rfl
    cases a with
    | none =>
      show (i, v) ∈ prs (k + 1) L ↔ _
      rw [ih]
      by_cases h : i = k
      · subst h
        simp
        intro h; omega
      · constructor
        · rintro ⟨h1, h2⟩
          exact ⟨by omega, by rw [hs h (by omega)]; exact h2⟩
        · rintro ⟨h1, h2⟩
          exact ⟨by omega, by rw [← hs h h1]; exact h2⟩
    | some u =>
      show (i, v) ∈ (k, u) :: prs (k + 1) L ↔ _
      rw [List.mem_cons, ih]
      by_cases h : i = k
      · subst h
        constructor
        · rintro (h1 | ⟨h1, h2⟩)
          · cases h1; simp
          · omega
        · rintro ⟨h1, h2⟩
          simp at h2
          exact Or.inl (by rw [h2])
      · constructor
        · rintro (h1 | ⟨h1, h2⟩)
          · cases h1; exact absurd rfl h
          · exact ⟨by omega, by rw [hs h (by omega)]; exact h2⟩
        · rintro ⟨h1, h2⟩
          exact Or.inr ⟨by omega, by rw [← hs h h1]; exact h2⟩
theorem lcs_has {ls : Array Slot} {n : Nat} {L : List (Option Value)} (h : lcs ls n L) : lv_has ls n (prs 0 L) :=
  ⟨h.1, h.2.1, fun q hq => h.2.2 q.1 q.2 ((prs_mem L 0 q.1 q.2).mp hq).2⟩
theorem lcs_store1 {ls : Array Slot} {n i : Nat} {L L' : List (Option Value)} {v : Value} (h : lcs ls n L) (hi : i < n) (hc : v.category = 1) (hu : upd1 L i v L') : ∃ ls', storeLocals ls i v = some ls' ∧ lcs ls' n L' := by
  obtain ⟨ls', e, h1, h2, h3⟩ := lv_store1 (lcs_has h) hi hc
  refine ⟨ls', e, h1, h2, fun j w hw => ?_⟩
  rcases hu j w hw with ⟨rfl, rfl⟩ | ⟨a1, a2, a3⟩
  · exact h3 (j, w) List.mem_cons_self
  · refine h3 (j, w) (List.mem_cons_of_mem _ (List.mem_filter.mpr ⟨(prs_mem L 0 j w).mpr ⟨Nat.zero_le _, a2⟩, ?_⟩))
    by_cases q : j + 1 = i
    · have : ¬ w.category = 2 := fun z => a3 ⟨q, z⟩
      simp [a1, this]
    · simp [a1, q]
theorem lcs_store2 {ls : Array Slot} {n i : Nat} {L L' : List (Option Value)} {v : Value} (h : lcs ls n L) (hi : i + 1 < n) (hc : v.category = 2) (hu : upd2 L i v L') : ∃ ls', storeLocals ls i v = some ls' ∧ lcs ls' n L' := by
  obtain ⟨ls', e, h1, h2, h3⟩ := lv_store2 (lcs_has h) hi hc
  refine ⟨ls', e, h1, h2, fun j w hw => ?_⟩
  rcases hu j w hw with ⟨rfl, rfl⟩ | ⟨a1, a0, a2, a3⟩
  · exact h3 (j, w) List.mem_cons_self
  · refine h3 (j, w) (List.mem_cons_of_mem _ (List.mem_filter.mpr ⟨(prs_mem L 0 j w).mpr ⟨Nat.zero_le _, a2⟩, ?_⟩))
    by_cases q : j + 1 = i
    · have : ¬ w.category = 2 := fun z => a3 ⟨q, z⟩
      simp [a1, a0, this]
    · simp [a1, a0, q]
theorem Z_store1 (hk : okK κ δ cc own mL ret rm) {i n : Nat} {v : Value} {L' : List (Option Value)} (hi : i < mL) (hc : v.category = 1) (hu : upd1 L i v L')
    (hstep : ∀ (H : Heap) (locs : List Loc) (ls ls' : Array Slot), storeLocals ls i v = some ls' → W κ.1 κ.2.1 κ.2.2.1 κ.2.2.2.1 κ.2.2.2.2.1 κ.2.2.2.2.2.1 κ.2.2.2.2.2.2.1 κ.2.2.2.2.2.2.2.1 κ.2.2.2.2.2.2.2.2.1 κ.2.2.2.2.2.2.2.2.2 H locs ρ.2.1 ρ.2.2 Q (F0 κ.2.2.2.2.2.1 n ls' S) → W κ.1 κ.2.1 κ.2.2.1 κ.2.2.2.1 κ.2.2.2.2.1 κ.2.2.2.2.2.1 κ.2.2.2.2.2.2.1 κ.2.2.2.2.2.2.2.1 κ.2.2.2.2.2.2.2.2.1 κ.2.2.2.2.2.2.2.2.2 H locs ρ.2.1 ρ.2.2 Q (F0 κ.2.2.2.2.2.1 pc ls (v :: S)))
    (k : Zj κ δ ad rt Q mL ρ n L' S M) : Zj κ δ ad rt Q mL ρ pc L (v :: S) M := by
  intro H locs ls hw hs hl
  obtain ⟨ls', e, h⟩ := lcs_store1 hl hi hc hu
  exact hstep H locs ls ls' e (k H locs ls' hw hs h)
theorem Z_store2 (hk : okK κ δ cc own mL ret rm) {i n : Nat} {v : Value} {L' : List (Option Value)} (hi : i + 1 < mL) (hc : v.category = 2) (hu : upd2 L i v L')
    (hstep : ∀ (H : Heap) (locs : List Loc) (ls ls' : Array Slot), storeLocals ls i v = some ls' → W κ.1 κ.2.1 κ.2.2.1 κ.2.2.2.1 κ.2.2.2.2.1 κ.2.2.2.2.2.1 κ.2.2.2.2.2.2.1 κ.2.2.2.2.2.2.2.1 κ.2.2.2.2.2.2.2.2.1 κ.2.2.2.2.2.2.2.2.2 H locs ρ.2.1 ρ.2.2 Q (F0 κ.2.2.2.2.2.1 n ls' S) → W κ.1 κ.2.1 κ.2.2.1 κ.2.2.2.1 κ.2.2.2.2.1 κ.2.2.2.2.2.1 κ.2.2.2.2.2.2.1 κ.2.2.2.2.2.2.2.1 κ.2.2.2.2.2.2.2.2.1 κ.2.2.2.2.2.2.2.2.2 H locs ρ.2.1 ρ.2.2 Q (F0 κ.2.2.2.2.2.1 pc ls (v :: S)))
    (k : Zj κ δ ad rt Q mL ρ n L' S M) : Zj κ δ ad rt Q mL ρ pc L (v :: S) M := by
  intro H locs ls hw hs hl
  obtain ⟨ls', e, h⟩ := lcs_store2 hl hi hc hu
  exact hstep H locs ls ls' e (k H locs ls' hw hs h)

theorem zs_istore_n (hk : okK κ δ cc own mL ret rm) {i : Nat} {k : Fin 4} {v : Value} (hv : ∃ x, v = Value.int x) (hd : decode cc pc = .ok (.istore_n k, 1)) (hi : (k : Nat) = i) (H : Heap) (locs : List Loc) (ls ls' : Array Slot) (e' : storeLocals ls i v = some ls') (kk : W κ.1 κ.2.1 κ.2.2.1 κ.2.2.2.1 κ.2.2.2.2.1 κ.2.2.2.2.2.1 κ.2.2.2.2.2.2.1 κ.2.2.2.2.2.2.2.1 κ.2.2.2.2.2.2.2.2.1 κ.2.2.2.2.2.2.2.2.2 H locs ρ.2.1 ρ.2.2 Q (F0 κ.2.2.2.2.2.1 (pc + 1) ls' S)) : W κ.1 κ.2.1 κ.2.2.1 κ.2.2.2.1 κ.2.2.2.2.1 κ.2.2.2.2.2.1 κ.2.2.2.2.2.2.1 κ.2.2.2.2.2.2.2.1 κ.2.2.2.2.2.2.2.2.1 κ.2.2.2.2.2.2.2.2.2 H locs ρ.2.1 ρ.2.2 Q (F0 κ.2.2.2.2.2.1 pc ls (v :: S)) := by
  obtain ⟨x, rfl⟩ := hv
  subst hi
  intro T hT X
  obtain ⟨t, a, b⟩ := kk T hT X
  refine ⟨t, ?_, b⟩
  jvm_step X.here [X.here.top, ↓top_set X.here.top, hk.1, hk.2.1, hd, e']
  exact a
theorem zs_istore (hk : okK κ δ cc own mL ret rm) {i : Nat} {v : Value} (hv : ∃ x, v = Value.int x) (hd : decode cc pc = .ok (.istore i, 2)) (H : Heap) (locs : List Loc) (ls ls' : Array Slot) (e' : storeLocals ls i v = some ls') (kk : W κ.1 κ.2.1 κ.2.2.1 κ.2.2.2.1 κ.2.2.2.2.1 κ.2.2.2.2.2.1 κ.2.2.2.2.2.2.1 κ.2.2.2.2.2.2.2.1 κ.2.2.2.2.2.2.2.2.1 κ.2.2.2.2.2.2.2.2.2 H locs ρ.2.1 ρ.2.2 Q (F0 κ.2.2.2.2.2.1 (pc + 2) ls' S)) : W κ.1 κ.2.1 κ.2.2.1 κ.2.2.2.1 κ.2.2.2.2.1 κ.2.2.2.2.2.1 κ.2.2.2.2.2.2.1 κ.2.2.2.2.2.2.2.1 κ.2.2.2.2.2.2.2.2.1 κ.2.2.2.2.2.2.2.2.2 H locs ρ.2.1 ρ.2.2 Q (F0 κ.2.2.2.2.2.1 pc ls (v :: S)) := by
  obtain ⟨x, rfl⟩ := hv
  intro T hT X
  obtain ⟨t, a, b⟩ := kk T hT X
  refine ⟨t, ?_, b⟩
  jvm_step X.here [X.here.top, ↓top_set X.here.top, hk.1, hk.2.1, hd, e']
  exact a
theorem zs_lstore_n (hk : okK κ δ cc own mL ret rm) {i : Nat} {k : Fin 4} {v : Value} (hv : ∃ x, v = Value.long x) (hd : decode cc pc = .ok (.lstore_n k, 1)) (hi : (k : Nat) = i) (H : Heap) (locs : List Loc) (ls ls' : Array Slot) (e' : storeLocals ls i v = some ls') (kk : W κ.1 κ.2.1 κ.2.2.1 κ.2.2.2.1 κ.2.2.2.2.1 κ.2.2.2.2.2.1 κ.2.2.2.2.2.2.1 κ.2.2.2.2.2.2.2.1 κ.2.2.2.2.2.2.2.2.1 κ.2.2.2.2.2.2.2.2.2 H locs ρ.2.1 ρ.2.2 Q (F0 κ.2.2.2.2.2.1 (pc + 1) ls' S)) : W κ.1 κ.2.1 κ.2.2.1 κ.2.2.2.1 κ.2.2.2.2.1 κ.2.2.2.2.2.1 κ.2.2.2.2.2.2.1 κ.2.2.2.2.2.2.2.1 κ.2.2.2.2.2.2.2.2.1 κ.2.2.2.2.2.2.2.2.2 H locs ρ.2.1 ρ.2.2 Q (F0 κ.2.2.2.2.2.1 pc ls (v :: S)) := by
  obtain ⟨x, rfl⟩ := hv
  subst hi
  intro T hT X
  obtain ⟨t, a, b⟩ := kk T hT X
  refine ⟨t, ?_, b⟩
  jvm_step X.here [X.here.top, ↓top_set X.here.top, hk.1, hk.2.1, hd, e']
  exact a
theorem zs_lstore (hk : okK κ δ cc own mL ret rm) {i : Nat} {v : Value} (hv : ∃ x, v = Value.long x) (hd : decode cc pc = .ok (.lstore i, 2)) (H : Heap) (locs : List Loc) (ls ls' : Array Slot) (e' : storeLocals ls i v = some ls') (kk : W κ.1 κ.2.1 κ.2.2.1 κ.2.2.2.1 κ.2.2.2.2.1 κ.2.2.2.2.2.1 κ.2.2.2.2.2.2.1 κ.2.2.2.2.2.2.2.1 κ.2.2.2.2.2.2.2.2.1 κ.2.2.2.2.2.2.2.2.2 H locs ρ.2.1 ρ.2.2 Q (F0 κ.2.2.2.2.2.1 (pc + 2) ls' S)) : W κ.1 κ.2.1 κ.2.2.1 κ.2.2.2.1 κ.2.2.2.2.1 κ.2.2.2.2.2.1 κ.2.2.2.2.2.2.1 κ.2.2.2.2.2.2.2.1 κ.2.2.2.2.2.2.2.2.1 κ.2.2.2.2.2.2.2.2.2 H locs ρ.2.1 ρ.2.2 Q (F0 κ.2.2.2.2.2.1 pc ls (v :: S)) := by
  obtain ⟨x, rfl⟩ := hv
  intro T hT X
  obtain ⟨t, a, b⟩ := kk T hT X
  refine ⟨t, ?_, b⟩
  jvm_step X.here [X.here.top, ↓top_set X.here.top, hk.1, hk.2.1, hd, e']
  exact a
theorem zs_astore_n (hk : okK κ δ cc own mL ret rm) {i : Nat} {k : Fin 4} {v : Value} (hv : ∃ x, v = Value.ref x) (hd : decode cc pc = .ok (.astore_n k, 1)) (hi : (k : Nat) = i) (H : Heap) (locs : List Loc) (ls ls' : Array Slot) (e' : storeLocals ls i v = some ls') (kk : W κ.1 κ.2.1 κ.2.2.1 κ.2.2.2.1 κ.2.2.2.2.1 κ.2.2.2.2.2.1 κ.2.2.2.2.2.2.1 κ.2.2.2.2.2.2.2.1 κ.2.2.2.2.2.2.2.2.1 κ.2.2.2.2.2.2.2.2.2 H locs ρ.2.1 ρ.2.2 Q (F0 κ.2.2.2.2.2.1 (pc + 1) ls' S)) : W κ.1 κ.2.1 κ.2.2.1 κ.2.2.2.1 κ.2.2.2.2.1 κ.2.2.2.2.2.1 κ.2.2.2.2.2.2.1 κ.2.2.2.2.2.2.2.1 κ.2.2.2.2.2.2.2.2.1 κ.2.2.2.2.2.2.2.2.2 H locs ρ.2.1 ρ.2.2 Q (F0 κ.2.2.2.2.2.1 pc ls (v :: S)) := by
  obtain ⟨x, rfl⟩ := hv
  subst hi
  intro T hT X
  obtain ⟨t, a, b⟩ := kk T hT X
  refine ⟨t, ?_, b⟩
  jvm_step X.here [X.here.top, ↓top_set X.here.top, hk.1, hk.2.1, hd, e']
  exact ⟨rfl, a⟩
theorem zs_astore (hk : okK κ δ cc own mL ret rm) {i : Nat} {v : Value} (hv : ∃ x, v = Value.ref x) (hd : decode cc pc = .ok (.astore i, 2)) (H : Heap) (locs : List Loc) (ls ls' : Array Slot) (e' : storeLocals ls i v = some ls') (kk : W κ.1 κ.2.1 κ.2.2.1 κ.2.2.2.1 κ.2.2.2.2.1 κ.2.2.2.2.2.1 κ.2.2.2.2.2.2.1 κ.2.2.2.2.2.2.2.1 κ.2.2.2.2.2.2.2.2.1 κ.2.2.2.2.2.2.2.2.2 H locs ρ.2.1 ρ.2.2 Q (F0 κ.2.2.2.2.2.1 (pc + 2) ls' S)) : W κ.1 κ.2.1 κ.2.2.1 κ.2.2.2.1 κ.2.2.2.2.1 κ.2.2.2.2.2.1 κ.2.2.2.2.2.2.1 κ.2.2.2.2.2.2.2.1 κ.2.2.2.2.2.2.2.2.1 κ.2.2.2.2.2.2.2.2.2 H locs ρ.2.1 ρ.2.2 Q (F0 κ.2.2.2.2.2.1 pc ls (v :: S)) := by
  obtain ⟨x, rfl⟩ := hv
  intro T hT X
  obtain ⟨t, a, b⟩ := kk T hT X
  refine ⟨t, ?_, b⟩
  jvm_step X.here [X.here.top, ↓top_set X.here.top, hk.1, hk.2.1, hd, e']
  exact ⟨rfl, a⟩
theorem u1_0 {l0 : Option Value} {v : Value} : upd1 (l0 :: L) 0 v (some v :: L) := by
  intro j w e
  match j, e with
  | 0, e => exact Or.inl ⟨rfl, (Option.some.inj (Option.some.inj e)).symm⟩
  | j + 1, e => exact Or.inr ⟨by omega, e, by omega⟩
theorem u2_0 {l0 l1 : Option Value} {v : Value} : upd2 (l0 :: l1 :: L) 0 v (some v :: none :: L) := by
  intro j w e
  match j, e with
  | 0, e => exact Or.inl ⟨rfl, (Option.some.inj (Option.some.inj e)).symm⟩
  | 1, e => exact absurd e (by simp)
  | j + 2, e => exact Or.inr ⟨by omega, by omega, e, by omega⟩
theorem Z_iload0 (hk : okK κ δ cc own mL ret rm) {x : Int} (hd : decode cc pc = .ok (.iload_n 0, 1)) (k : Zj κ δ ad rt Q mL ρ (pc + 1) (some (iv x) :: L) (iv x :: S) M) : Zj κ δ ad rt Q mL ρ pc (some (iv x) :: L) S M := fun H locs ls hw hs hl => lv_iload_n hk.1 hk.2.1 hd rfl (hl.2.2 0 _ rfl) (k H locs ls hw hs hl)
theorem Z_istore0 (hk : okK κ δ cc own mL ret rm) {x : Int} {l0 : Option Value} (hm : 0 < mL) (hd : decode cc pc = .ok (.istore_n 0, 1)) (k : Zj κ δ ad rt Q mL ρ (pc + 1) (some (iv x) :: L) S M) : Zj κ δ ad rt Q mL ρ pc (l0 :: L) (iv x :: S) M := Z_store1 hk (i := 0) hm rfl (u1_0) (fun H locs ls ls' e kk => zs_istore_n hk ⟨_, rfl⟩ hd rfl H locs ls ls' e kk) k
theorem Z_lload0 (hk : okK κ δ cc own mL ret rm) {x : Int} (hd : decode cc pc = .ok (.lload_n 0, 1)) (k : Zj κ δ ad rt Q mL ρ (pc + 1) (some (jv x) :: L) (jv x :: S) M) : Zj κ δ ad rt Q mL ρ pc (some (jv x) :: L) S M := fun H locs ls hw hs hl => lv_lload_n hk.1 hk.2.1 hd rfl (hl.2.2 0 _ rfl) (k H locs ls hw hs hl)
theorem Z_lstore0 (hk : okK κ δ cc own mL ret rm) {x : Int} {l0 l1 : Option Value} (hm : 1 < mL) (hd : decode cc pc = .ok (.lstore_n 0, 1)) (k : Zj κ δ ad rt Q mL ρ (pc + 1) (some (jv x) :: none :: L) S M) : Zj κ δ ad rt Q mL ρ pc (l0 :: l1 :: L) (jv x :: S) M := Z_store2 hk (i := 0) hm rfl (u2_0) (fun H locs ls ls' e kk => zs_lstore_n hk ⟨_, rfl⟩ hd rfl H locs ls ls' e kk) k
theorem Z_aload0 (hk : okK κ δ cc own mL ret rm) {x : Nat} (hd : decode cc pc = .ok (.aload_n 0, 1)) (k : Zj κ δ ad rt Q mL ρ (pc + 1) (some (.ref x) :: L) (.ref x :: S) M) : Zj κ δ ad rt Q mL ρ pc (some (.ref x) :: L) S M := fun H locs ls hw hs hl => lv_aload_n hk.1 hk.2.1 hd rfl (hl.2.2 0 _ rfl) (k H locs ls hw hs hl)
theorem Z_astore0 (hk : okK κ δ cc own mL ret rm) {x : Nat} {l0 : Option Value} (hm : 0 < mL) (hd : decode cc pc = .ok (.astore_n 0, 1)) (k : Zj κ δ ad rt Q mL ρ (pc + 1) (some (.ref x) :: L) S M) : Zj κ δ ad rt Q mL ρ pc (l0 :: L) (.ref x :: S) M := Z_store1 hk (i := 0) hm rfl (u1_0) (fun H locs ls ls' e kk => zs_astore_n hk ⟨_, rfl⟩ hd rfl H locs ls ls' e kk) k
theorem Z_drop0 {l0 : Option Value} (k : Zj κ δ ad rt Q mL ρ pc (none :: L) S M) : Zj κ δ ad rt Q mL ρ pc (l0 :: L) S M := fun H locs ls hw hs hl => k H locs ls hw hs ⟨hl.1, hl.2.1, fun i v e => hl.2.2 i v (by
  match i, e with
  | 0, e => exact absurd e (by simp)
  | j + 1, e => exact e)⟩
theorem Z_iinc0 (hk : okK κ δ cc own mL ret rm) {x n : Int} (hm : 0 < mL) (hd : decode cc pc = .ok (.iinc 0 n, 3)) (k : Zj κ δ ad rt Q mL ρ (pc + 3) (some (iv (x + n)) :: L) S M) : Zj κ δ ad rt Q mL ρ pc (some (iv x) :: L) S M := by
  intro H locs ls hw hs hl
  have hg := hl.2.2 0 _ rfl
  obtain ⟨ls', e', h'⟩ := lcs_store1 (L' := some (iv (x + n)) :: L) hl hm (v := iv (x + n)) rfl (u1_0)
  intro T hT X
  obtain ⟨t, a, b⟩ := k H locs ls' hw hs h' T hT X
  refine ⟨t, ?_, b⟩
  unfold iv at hg e'
  rw [← zI_add] at e'
  jvm_step X.here [X.here.top, ↓top_set X.here.top, hk.1, hk.2.1, hd, hg, e']
  exact a
theorem u1_1 {l0 l1 : Option Value} {v : Value} (h : nl l0 = true) : upd1 (l0 :: l1 :: L) 1 v (l0 :: some v :: L) := by
  intro j w e
  match j, e with
  | 0, e => exact Or.inr ⟨by omega, e, fun q => nl_no h e q.2⟩
  | 1, e => exact Or.inl ⟨rfl, (Option.some.inj (Option.some.inj e)).symm⟩
  | j + 2, e => exact Or.inr ⟨by omega, e, by omega⟩
theorem u2_1 {l0 l1 l2 : Option Value} {v : Value} (h : nl l0 = true) : upd2 (l0 :: l1 :: l2 :: L) 1 v (l0 :: some v :: none :: L) := by
  intro j w e
  match j, e with
  | 0, e => exact Or.inr ⟨by omega, by omega, e, fun q => nl_no h e q.2⟩
  | 1, e => exact Or.inl ⟨rfl, (Option.some.inj (Option.some.inj e)).symm⟩
  | 2, e => exact absurd e (by simp)
  | j + 3, e => exact Or.inr ⟨by omega, by omega, e, by omega⟩
theorem Z_iload1 (hk : okK κ δ cc own mL ret rm) {x : Int} {l0 : Option Value} (hd : decode cc pc = .ok (.iload_n 1, 1)) (k : Zj κ δ ad rt Q mL ρ (pc + 1) (l0 :: some (iv x) :: L) (iv x :: S) M) : Zj κ δ ad rt Q mL ρ pc (l0 :: some (iv x) :: L) S M := fun H locs ls hw hs hl => lv_iload_n hk.1 hk.2.1 hd rfl (hl.2.2 1 _ rfl) (k H locs ls hw hs hl)
theorem Z_istore1 (hk : okK κ δ cc own mL ret rm) {x : Int} {l0 l1 : Option Value} (h : nl l0 = true) (hm : 1 < mL) (hd : decode cc pc = .ok (.istore_n 1, 1)) (k : Zj κ δ ad rt Q mL ρ (pc + 1) (l0 :: some (iv x) :: L) S M) : Zj κ δ ad rt Q mL ρ pc (l0 :: l1 :: L) (iv x :: S) M := Z_store1 hk (i := 1) hm rfl (u1_1 h) (fun H locs ls ls' e kk => zs_istore_n hk ⟨_, rfl⟩ hd rfl H locs ls ls' e kk) k
theorem Z_lload1 (hk : okK κ δ cc own mL ret rm) {x : Int} {l0 : Option Value} (hd : decode cc pc = .ok (.lload_n 1, 1)) (k : Zj κ δ ad rt Q mL ρ (pc + 1) (l0 :: some (jv x) :: L) (jv x :: S) M) : Zj κ δ ad rt Q mL ρ pc (l0 :: some (jv x) :: L) S M := fun H locs ls hw hs hl => lv_lload_n hk.1 hk.2.1 hd rfl (hl.2.2 1 _ rfl) (k H locs ls hw hs hl)
theorem Z_lstore1 (hk : okK κ δ cc own mL ret rm) {x : Int} {l0 l1 l2 : Option Value} (h : nl l0 = true) (hm : 2 < mL) (hd : decode cc pc = .ok (.lstore_n 1, 1)) (k : Zj κ δ ad rt Q mL ρ (pc + 1) (l0 :: some (jv x) :: none :: L) S M) : Zj κ δ ad rt Q mL ρ pc (l0 :: l1 :: l2 :: L) (jv x :: S) M := Z_store2 hk (i := 1) hm rfl (u2_1 h) (fun H locs ls ls' e kk => zs_lstore_n hk ⟨_, rfl⟩ hd rfl H locs ls ls' e kk) k
theorem Z_aload1 (hk : okK κ δ cc own mL ret rm) {x : Nat} {l0 : Option Value} (hd : decode cc pc = .ok (.aload_n 1, 1)) (k : Zj κ δ ad rt Q mL ρ (pc + 1) (l0 :: some (.ref x) :: L) (.ref x :: S) M) : Zj κ δ ad rt Q mL ρ pc (l0 :: some (.ref x) :: L) S M := fun H locs ls hw hs hl => lv_aload_n hk.1 hk.2.1 hd rfl (hl.2.2 1 _ rfl) (k H locs ls hw hs hl)
theorem Z_astore1 (hk : okK κ δ cc own mL ret rm) {x : Nat} {l0 l1 : Option Value} (h : nl l0 = true) (hm : 1 < mL) (hd : decode cc pc = .ok (.astore_n 1, 1)) (k : Zj κ δ ad rt Q mL ρ (pc + 1) (l0 :: some (.ref x) :: L) S M) : Zj κ δ ad rt Q mL ρ pc (l0 :: l1 :: L) (.ref x :: S) M := Z_store1 hk (i := 1) hm rfl (u1_1 h) (fun H locs ls ls' e kk => zs_astore_n hk ⟨_, rfl⟩ hd rfl H locs ls ls' e kk) k
theorem Z_drop1 {l0 l1 : Option Value} (k : Zj κ δ ad rt Q mL ρ pc (l0 :: none :: L) S M) : Zj κ δ ad rt Q mL ρ pc (l0 :: l1 :: L) S M := fun H locs ls hw hs hl => k H locs ls hw hs ⟨hl.1, hl.2.1, fun i v e => hl.2.2 i v (by
  match i, e with
  | 0, e => exact e
  | 1, e => exact absurd e (by simp)
  | j + 2, e => exact e)⟩
theorem Z_iinc1 (hk : okK κ δ cc own mL ret rm) {x n : Int} {l0 : Option Value} (h : nl l0 = true) (hm : 1 < mL) (hd : decode cc pc = .ok (.iinc 1 n, 3)) (k : Zj κ δ ad rt Q mL ρ (pc + 3) (l0 :: some (iv (x + n)) :: L) S M) : Zj κ δ ad rt Q mL ρ pc (l0 :: some (iv x) :: L) S M := by
  intro H locs ls hw hs hl
  have hg := hl.2.2 1 _ rfl
  obtain ⟨ls', e', h'⟩ := lcs_store1 (L' := l0 :: some (iv (x + n)) :: L) hl hm (v := iv (x + n)) rfl (u1_1 h)
  intro T hT X
  obtain ⟨t, a, b⟩ := k H locs ls' hw hs h' T hT X
  refine ⟨t, ?_, b⟩
  unfold iv at hg e'
  rw [← zI_add] at e'
  jvm_step X.here [X.here.top, ↓top_set X.here.top, hk.1, hk.2.1, hd, hg, e']
  exact a
theorem u1_2 {l0 l1 l2 : Option Value} {v : Value} (h : nl l1 = true) : upd1 (l0 :: l1 :: l2 :: L) 2 v (l0 :: l1 :: some v :: L) := by
  intro j w e
  match j, e with
  | 0, e => exact Or.inr ⟨by omega, e, by omega⟩
  | 1, e => exact Or.inr ⟨by omega, e, fun q => nl_no h e q.2⟩
  | 2, e => exact Or.inl ⟨rfl, (Option.some.inj (Option.some.inj e)).symm⟩
  | j + 3, e => exact Or.inr ⟨by omega, e, by omega⟩
theorem u2_2 {l0 l1 l2 l3 : Option Value} {v : Value} (h : nl l1 = true) : upd2 (l0 :: l1 :: l2 :: l3 :: L) 2 v (l0 :: l1 :: some v :: none :: L) := by
  intro j w e
  match j, e with
  | 0, e => exact Or.inr ⟨by omega, by omega, e, by omega⟩
  | 1, e => exact Or.inr ⟨by omega, by omega, e, fun q => nl_no h e q.2⟩
  | 2, e => exact Or.inl ⟨rfl, (Option.some.inj (Option.some.inj e)).symm⟩
  | 3, e => exact absurd e (by simp)
  | j + 4, e => exact Or.inr ⟨by omega, by omega, e, by omega⟩
theorem Z_iload2 (hk : okK κ δ cc own mL ret rm) {x : Int} {l0 l1 : Option Value} (hd : decode cc pc = .ok (.iload_n 2, 1)) (k : Zj κ δ ad rt Q mL ρ (pc + 1) (l0 :: l1 :: some (iv x) :: L) (iv x :: S) M) : Zj κ δ ad rt Q mL ρ pc (l0 :: l1 :: some (iv x) :: L) S M := fun H locs ls hw hs hl => lv_iload_n hk.1 hk.2.1 hd rfl (hl.2.2 2 _ rfl) (k H locs ls hw hs hl)
theorem Z_istore2 (hk : okK κ δ cc own mL ret rm) {x : Int} {l0 l1 l2 : Option Value} (h : nl l1 = true) (hm : 2 < mL) (hd : decode cc pc = .ok (.istore_n 2, 1)) (k : Zj κ δ ad rt Q mL ρ (pc + 1) (l0 :: l1 :: some (iv x) :: L) S M) : Zj κ δ ad rt Q mL ρ pc (l0 :: l1 :: l2 :: L) (iv x :: S) M := Z_store1 hk (i := 2) hm rfl (u1_2 h) (fun H locs ls ls' e kk => zs_istore_n hk ⟨_, rfl⟩ hd rfl H locs ls ls' e kk) k
theorem Z_lload2 (hk : okK κ δ cc own mL ret rm) {x : Int} {l0 l1 : Option Value} (hd : decode cc pc = .ok (.lload_n 2, 1)) (k : Zj κ δ ad rt Q mL ρ (pc + 1) (l0 :: l1 :: some (jv x) :: L) (jv x :: S) M) : Zj κ δ ad rt Q mL ρ pc (l0 :: l1 :: some (jv x) :: L) S M := fun H locs ls hw hs hl => lv_lload_n hk.1 hk.2.1 hd rfl (hl.2.2 2 _ rfl) (k H locs ls hw hs hl)
theorem Z_lstore2 (hk : okK κ δ cc own mL ret rm) {x : Int} {l0 l1 l2 l3 : Option Value} (h : nl l1 = true) (hm : 3 < mL) (hd : decode cc pc = .ok (.lstore_n 2, 1)) (k : Zj κ δ ad rt Q mL ρ (pc + 1) (l0 :: l1 :: some (jv x) :: none :: L) S M) : Zj κ δ ad rt Q mL ρ pc (l0 :: l1 :: l2 :: l3 :: L) (jv x :: S) M := Z_store2 hk (i := 2) hm rfl (u2_2 h) (fun H locs ls ls' e kk => zs_lstore_n hk ⟨_, rfl⟩ hd rfl H locs ls ls' e kk) k
theorem Z_aload2 (hk : okK κ δ cc own mL ret rm) {x : Nat} {l0 l1 : Option Value} (hd : decode cc pc = .ok (.aload_n 2, 1)) (k : Zj κ δ ad rt Q mL ρ (pc + 1) (l0 :: l1 :: some (.ref x) :: L) (.ref x :: S) M) : Zj κ δ ad rt Q mL ρ pc (l0 :: l1 :: some (.ref x) :: L) S M := fun H locs ls hw hs hl => lv_aload_n hk.1 hk.2.1 hd rfl (hl.2.2 2 _ rfl) (k H locs ls hw hs hl)
theorem Z_astore2 (hk : okK κ δ cc own mL ret rm) {x : Nat} {l0 l1 l2 : Option Value} (h : nl l1 = true) (hm : 2 < mL) (hd : decode cc pc = .ok (.astore_n 2, 1)) (k : Zj κ δ ad rt Q mL ρ (pc + 1) (l0 :: l1 :: some (.ref x) :: L) S M) : Zj κ δ ad rt Q mL ρ pc (l0 :: l1 :: l2 :: L) (.ref x :: S) M := Z_store1 hk (i := 2) hm rfl (u1_2 h) (fun H locs ls ls' e kk => zs_astore_n hk ⟨_, rfl⟩ hd rfl H locs ls ls' e kk) k
theorem Z_drop2 {l0 l1 l2 : Option Value} (k : Zj κ δ ad rt Q mL ρ pc (l0 :: l1 :: none :: L) S M) : Zj κ δ ad rt Q mL ρ pc (l0 :: l1 :: l2 :: L) S M := fun H locs ls hw hs hl => k H locs ls hw hs ⟨hl.1, hl.2.1, fun i v e => hl.2.2 i v (by
  match i, e with
  | 0, e => exact e
  | 1, e => exact e
  | 2, e => exact absurd e (by simp)
  | j + 3, e => exact e)⟩
theorem Z_iinc2 (hk : okK κ δ cc own mL ret rm) {x n : Int} {l0 l1 : Option Value} (h : nl l1 = true) (hm : 2 < mL) (hd : decode cc pc = .ok (.iinc 2 n, 3)) (k : Zj κ δ ad rt Q mL ρ (pc + 3) (l0 :: l1 :: some (iv (x + n)) :: L) S M) : Zj κ δ ad rt Q mL ρ pc (l0 :: l1 :: some (iv x) :: L) S M := by
  intro H locs ls hw hs hl
  have hg := hl.2.2 2 _ rfl
  obtain ⟨ls', e', h'⟩ := lcs_store1 (L' := l0 :: l1 :: some (iv (x + n)) :: L) hl hm (v := iv (x + n)) rfl (u1_2 h)
  intro T hT X
  obtain ⟨t, a, b⟩ := k H locs ls' hw hs h' T hT X
  refine ⟨t, ?_, b⟩
  unfold iv at hg e'
  rw [← zI_add] at e'
  jvm_step X.here [X.here.top, ↓top_set X.here.top, hk.1, hk.2.1, hd, hg, e']
  exact a
theorem u1_3 {l0 l1 l2 l3 : Option Value} {v : Value} (h : nl l2 = true) : upd1 (l0 :: l1 :: l2 :: l3 :: L) 3 v (l0 :: l1 :: l2 :: some v :: L) := by
  intro j w e
  match j, e with
  | 0, e => exact Or.inr ⟨by omega, e, by omega⟩
  | 1, e => exact Or.inr ⟨by omega, e, by omega⟩
  | 2, e => exact Or.inr ⟨by omega, e, fun q => nl_no h e q.2⟩
  | 3, e => exact Or.inl ⟨rfl, (Option.some.inj (Option.some.inj e)).symm⟩
  | j + 4, e => exact Or.inr ⟨by omega, e, by omega⟩
theorem u2_3 {l0 l1 l2 l3 l4 : Option Value} {v : Value} (h : nl l2 = true) : upd2 (l0 :: l1 :: l2 :: l3 :: l4 :: L) 3 v (l0 :: l1 :: l2 :: some v :: none :: L) := by
  intro j w e
  match j, e with
  | 0, e => exact Or.inr ⟨by omega, by omega, e, by omega⟩
  | 1, e => exact Or.inr ⟨by omega, by omega, e, by omega⟩
  | 2, e => exact Or.inr ⟨by omega, by omega, e, fun q => nl_no h e q.2⟩
  | 3, e => exact Or.inl ⟨rfl, (Option.some.inj (Option.some.inj e)).symm⟩
  | 4, e => exact absurd e (by simp)
  | j + 5, e => exact Or.inr ⟨by omega, by omega, e, by omega⟩
theorem Z_iload3 (hk : okK κ δ cc own mL ret rm) {x : Int} {l0 l1 l2 : Option Value} (hd : decode cc pc = .ok (.iload_n 3, 1)) (k : Zj κ δ ad rt Q mL ρ (pc + 1) (l0 :: l1 :: l2 :: some (iv x) :: L) (iv x :: S) M) : Zj κ δ ad rt Q mL ρ pc (l0 :: l1 :: l2 :: some (iv x) :: L) S M := fun H locs ls hw hs hl => lv_iload_n hk.1 hk.2.1 hd rfl (hl.2.2 3 _ rfl) (k H locs ls hw hs hl)
theorem Z_istore3 (hk : okK κ δ cc own mL ret rm) {x : Int} {l0 l1 l2 l3 : Option Value} (h : nl l2 = true) (hm : 3 < mL) (hd : decode cc pc = .ok (.istore_n 3, 1)) (k : Zj κ δ ad rt Q mL ρ (pc + 1) (l0 :: l1 :: l2 :: some (iv x) :: L) S M) : Zj κ δ ad rt Q mL ρ pc (l0 :: l1 :: l2 :: l3 :: L) (iv x :: S) M := Z_store1 hk (i := 3) hm rfl (u1_3 h) (fun H locs ls ls' e kk => zs_istore_n hk ⟨_, rfl⟩ hd rfl H locs ls ls' e kk) k
theorem Z_lload3 (hk : okK κ δ cc own mL ret rm) {x : Int} {l0 l1 l2 : Option Value} (hd : decode cc pc = .ok (.lload_n 3, 1)) (k : Zj κ δ ad rt Q mL ρ (pc + 1) (l0 :: l1 :: l2 :: some (jv x) :: L) (jv x :: S) M) : Zj κ δ ad rt Q mL ρ pc (l0 :: l1 :: l2 :: some (jv x) :: L) S M := fun H locs ls hw hs hl => lv_lload_n hk.1 hk.2.1 hd rfl (hl.2.2 3 _ rfl) (k H locs ls hw hs hl)
theorem Z_lstore3 (hk : okK κ δ cc own mL ret rm) {x : Int} {l0 l1 l2 l3 l4 : Option Value} (h : nl l2 = true) (hm : 4 < mL) (hd : decode cc pc = .ok (.lstore_n 3, 1)) (k : Zj κ δ ad rt Q mL ρ (pc + 1) (l0 :: l1 :: l2 :: some (jv x) :: none :: L) S M) : Zj κ δ ad rt Q mL ρ pc (l0 :: l1 :: l2 :: l3 :: l4 :: L) (jv x :: S) M := Z_store2 hk (i := 3) hm rfl (u2_3 h) (fun H locs ls ls' e kk => zs_lstore_n hk ⟨_, rfl⟩ hd rfl H locs ls ls' e kk) k
theorem Z_aload3 (hk : okK κ δ cc own mL ret rm) {x : Nat} {l0 l1 l2 : Option Value} (hd : decode cc pc = .ok (.aload_n 3, 1)) (k : Zj κ δ ad rt Q mL ρ (pc + 1) (l0 :: l1 :: l2 :: some (.ref x) :: L) (.ref x :: S) M) : Zj κ δ ad rt Q mL ρ pc (l0 :: l1 :: l2 :: some (.ref x) :: L) S M := fun H locs ls hw hs hl => lv_aload_n hk.1 hk.2.1 hd rfl (hl.2.2 3 _ rfl) (k H locs ls hw hs hl)
theorem Z_astore3 (hk : okK κ δ cc own mL ret rm) {x : Nat} {l0 l1 l2 l3 : Option Value} (h : nl l2 = true) (hm : 3 < mL) (hd : decode cc pc = .ok (.astore_n 3, 1)) (k : Zj κ δ ad rt Q mL ρ (pc + 1) (l0 :: l1 :: l2 :: some (.ref x) :: L) S M) : Zj κ δ ad rt Q mL ρ pc (l0 :: l1 :: l2 :: l3 :: L) (.ref x :: S) M := Z_store1 hk (i := 3) hm rfl (u1_3 h) (fun H locs ls ls' e kk => zs_astore_n hk ⟨_, rfl⟩ hd rfl H locs ls ls' e kk) k
theorem Z_drop3 {l0 l1 l2 l3 : Option Value} (k : Zj κ δ ad rt Q mL ρ pc (l0 :: l1 :: l2 :: none :: L) S M) : Zj κ δ ad rt Q mL ρ pc (l0 :: l1 :: l2 :: l3 :: L) S M := fun H locs ls hw hs hl => k H locs ls hw hs ⟨hl.1, hl.2.1, fun i v e => hl.2.2 i v (by
  match i, e with
  | 0, e => exact e
  | 1, e => exact e
  | 2, e => exact e
  | 3, e => exact absurd e (by simp)
  | j + 4, e => exact e)⟩
theorem Z_iinc3 (hk : okK κ δ cc own mL ret rm) {x n : Int} {l0 l1 l2 : Option Value} (h : nl l2 = true) (hm : 3 < mL) (hd : decode cc pc = .ok (.iinc 3 n, 3)) (k : Zj κ δ ad rt Q mL ρ (pc + 3) (l0 :: l1 :: l2 :: some (iv (x + n)) :: L) S M) : Zj κ δ ad rt Q mL ρ pc (l0 :: l1 :: l2 :: some (iv x) :: L) S M := by
  intro H locs ls hw hs hl
  have hg := hl.2.2 3 _ rfl
  obtain ⟨ls', e', h'⟩ := lcs_store1 (L' := l0 :: l1 :: l2 :: some (iv (x + n)) :: L) hl hm (v := iv (x + n)) rfl (u1_3 h)
  intro T hT X
  obtain ⟨t, a, b⟩ := k H locs ls' hw hs h' T hT X
  refine ⟨t, ?_, b⟩
  unfold iv at hg e'
  rw [← zI_add] at e'
  jvm_step X.here [X.here.top, ↓top_set X.here.top, hk.1, hk.2.1, hd, hg, e']
  exact a
theorem u1_4 {l0 l1 l2 l3 l4 : Option Value} {v : Value} (h : nl l3 = true) : upd1 (l0 :: l1 :: l2 :: l3 :: l4 :: L) 4 v (l0 :: l1 :: l2 :: l3 :: some v :: L) := by
  intro j w e
  match j, e with
  | 0, e => exact Or.inr ⟨by omega, e, by omega⟩
  | 1, e => exact Or.inr ⟨by omega, e, by omega⟩
  | 2, e => exact Or.inr ⟨by omega, e, by omega⟩
  | 3, e => exact Or.inr ⟨by omega, e, fun q => nl_no h e q.2⟩
  | 4, e => exact Or.inl ⟨rfl, (Option.some.inj (Option.some.inj e)).symm⟩
  | j + 5, e => exact Or.inr ⟨by omega, e, by omega⟩
theorem u2_4 {l0 l1 l2 l3 l4 l5 : Option Value} {v : Value} (h : nl l3 = true) : upd2 (l0 :: l1 :: l2 :: l3 :: l4 :: l5 :: L) 4 v (l0 :: l1 :: l2 :: l3 :: some v :: none :: L) := by
  intro j w e
  match j, e with
  | 0, e => exact Or.inr ⟨by omega, by omega, e, by omega⟩
  | 1, e => exact Or.inr ⟨by omega, by omega, e, by omega⟩
  | 2, e => exact Or.inr ⟨by omega, by omega, e, by omega⟩
  | 3, e => exact Or.inr ⟨by omega, by omega, e, fun q => nl_no h e q.2⟩
  | 4, e => exact Or.inl ⟨rfl, (Option.some.inj (Option.some.inj e)).symm⟩
  | 5, e => exact absurd e (by simp)
  | j + 6, e => exact Or.inr ⟨by omega, by omega, e, by omega⟩
theorem Z_iload4 (hk : okK κ δ cc own mL ret rm) {x : Int} {l0 l1 l2 l3 : Option Value} (hd : decode cc pc = .ok (.iload 4, 2)) (k : Zj κ δ ad rt Q mL ρ (pc + 2) (l0 :: l1 :: l2 :: l3 :: some (iv x) :: L) (iv x :: S) M) : Zj κ δ ad rt Q mL ρ pc (l0 :: l1 :: l2 :: l3 :: some (iv x) :: L) S M := fun H locs ls hw hs hl => lv_iload hk.1 hk.2.1 hd (hl.2.2 4 _ rfl) (k H locs ls hw hs hl)
theorem Z_istore4 (hk : okK κ δ cc own mL ret rm) {x : Int} {l0 l1 l2 l3 l4 : Option Value} (h : nl l3 = true) (hm : 4 < mL) (hd : decode cc pc = .ok (.istore 4, 2)) (k : Zj κ δ ad rt Q mL ρ (pc + 2) (l0 :: l1 :: l2 :: l3 :: some (iv x) :: L) S M) : Zj κ δ ad rt Q mL ρ pc (l0 :: l1 :: l2 :: l3 :: l4 :: L) (iv x :: S) M := Z_store1 hk (i := 4) hm rfl (u1_4 h) (fun H locs ls ls' e kk => zs_istore hk ⟨_, rfl⟩ hd H locs ls ls' e kk) k
theorem Z_lload4 (hk : okK κ δ cc own mL ret rm) {x : Int} {l0 l1 l2 l3 : Option Value} (hd : decode cc pc = .ok (.lload 4, 2)) (k : Zj κ δ ad rt Q mL ρ (pc + 2) (l0 :: l1 :: l2 :: l3 :: some (jv x) :: L) (jv x :: S) M) : Zj κ δ ad rt Q mL ρ pc (l0 :: l1 :: l2 :: l3 :: some (jv x) :: L) S M := fun H locs ls hw hs hl => lv_lload hk.1 hk.2.1 hd (hl.2.2 4 _ rfl) (k H locs ls hw hs hl)
theorem Z_lstore4 (hk : okK κ δ cc own mL ret rm) {x : Int} {l0 l1 l2 l3 l4 l5 : Option Value} (h : nl l3 = true) (hm : 5 < mL) (hd : decode cc pc = .ok (.lstore 4, 2)) (k : Zj κ δ ad rt Q mL ρ (pc + 2) (l0 :: l1 :: l2 :: l3 :: some (jv x) :: none :: L) S M) : Zj κ δ ad rt Q mL ρ pc (l0 :: l1 :: l2 :: l3 :: l4 :: l5 :: L) (jv x :: S) M := Z_store2 hk (i := 4) hm rfl (u2_4 h) (fun H locs ls ls' e kk => zs_lstore hk ⟨_, rfl⟩ hd H locs ls ls' e kk) k
theorem Z_aload4 (hk : okK κ δ cc own mL ret rm) {x : Nat} {l0 l1 l2 l3 : Option Value} (hd : decode cc pc = .ok (.aload 4, 2)) (k : Zj κ δ ad rt Q mL ρ (pc + 2) (l0 :: l1 :: l2 :: l3 :: some (.ref x) :: L) (.ref x :: S) M) : Zj κ δ ad rt Q mL ρ pc (l0 :: l1 :: l2 :: l3 :: some (.ref x) :: L) S M := fun H locs ls hw hs hl => lv_aload hk.1 hk.2.1 hd (hl.2.2 4 _ rfl) (k H locs ls hw hs hl)
theorem Z_astore4 (hk : okK κ δ cc own mL ret rm) {x : Nat} {l0 l1 l2 l3 l4 : Option Value} (h : nl l3 = true) (hm : 4 < mL) (hd : decode cc pc = .ok (.astore 4, 2)) (k : Zj κ δ ad rt Q mL ρ (pc + 2) (l0 :: l1 :: l2 :: l3 :: some (.ref x) :: L) S M) : Zj κ δ ad rt Q mL ρ pc (l0 :: l1 :: l2 :: l3 :: l4 :: L) (.ref x :: S) M := Z_store1 hk (i := 4) hm rfl (u1_4 h) (fun H locs ls ls' e kk => zs_astore hk ⟨_, rfl⟩ hd H locs ls ls' e kk) k
theorem Z_drop4 {l0 l1 l2 l3 l4 : Option Value} (k : Zj κ δ ad rt Q mL ρ pc (l0 :: l1 :: l2 :: l3 :: none :: L) S M) : Zj κ δ ad rt Q mL ρ pc (l0 :: l1 :: l2 :: l3 :: l4 :: L) S M := fun H locs ls hw hs hl => k H locs ls hw hs ⟨hl.1, hl.2.1, fun i v e => hl.2.2 i v (by
  match i, e with
  | 0, e => exact e
  | 1, e => exact e
  | 2, e => exact e
  | 3, e => exact e
  | 4, e => exact absurd e (by simp)
  | j + 5, e => exact e)⟩
theorem Z_iinc4 (hk : okK κ δ cc own mL ret rm) {x n : Int} {l0 l1 l2 l3 : Option Value} (h : nl l3 = true) (hm : 4 < mL) (hd : decode cc pc = .ok (.iinc 4 n, 3)) (k : Zj κ δ ad rt Q mL ρ (pc + 3) (l0 :: l1 :: l2 :: l3 :: some (iv (x + n)) :: L) S M) : Zj κ δ ad rt Q mL ρ pc (l0 :: l1 :: l2 :: l3 :: some (iv x) :: L) S M := by
  intro H locs ls hw hs hl
  have hg := hl.2.2 4 _ rfl
  obtain ⟨ls', e', h'⟩ := lcs_store1 (L' := l0 :: l1 :: l2 :: l3 :: some (iv (x + n)) :: L) hl hm (v := iv (x + n)) rfl (u1_4 h)
  intro T hT X
  obtain ⟨t, a, b⟩ := k H locs ls' hw hs h' T hT X
  refine ⟨t, ?_, b⟩
  unfold iv at hg e'
  rw [← zI_add] at e'
  jvm_step X.here [X.here.top, ↓top_set X.here.top, hk.1, hk.2.1, hd, hg, e']
  exact a
theorem u1_5 {l0 l1 l2 l3 l4 l5 : Option Value} {v : Value} (h : nl l4 = true) : upd1 (l0 :: l1 :: l2 :: l3 :: l4 :: l5 :: L) 5 v (l0 :: l1 :: l2 :: l3 :: l4 :: some v :: L) := by
  intro j w e
  match j, e with
  | 0, e => exact Or.inr ⟨by omega, e, by omega⟩
  | 1, e => exact Or.inr ⟨by omega, e, by omega⟩
  | 2, e => exact Or.inr ⟨by omega, e, by omega⟩
  | 3, e => exact Or.inr ⟨by omega, e, by omega⟩
  | 4, e => exact Or.inr ⟨by omega, e, fun q => nl_no h e q.2⟩
  | 5, e => exact Or.inl ⟨rfl, (Option.some.inj (Option.some.inj e)).symm⟩
  | j + 6, e => exact Or.inr ⟨by omega, e, by omega⟩
theorem u2_5 {l0 l1 l2 l3 l4 l5 l6 : Option Value} {v : Value} (h : nl l4 = true) : upd2 (l0 :: l1 :: l2 :: l3 :: l4 :: l5 :: l6 :: L) 5 v (l0 :: l1 :: l2 :: l3 :: l4 :: some v :: none :: L) := by
  intro j w e
  match j, e with
  | 0, e => exact Or.inr ⟨by omega, by omega, e, by omega⟩
  | 1, e => exact Or.inr ⟨by omega, by omega, e, by omega⟩
  | 2, e => exact Or.inr ⟨by omega, by omega, e, by omega⟩
  | 3, e => exact Or.inr ⟨by omega, by omega, e, by omega⟩
  | 4, e => exact Or.inr ⟨by omega, by omega, e, fun q => nl_no h e q.2⟩
  | 5, e => exact Or.inl ⟨rfl, (Option.some.inj (Option.some.inj e)).symm⟩
  | 6, e => exact absurd e (by simp)
  | j + 7, e => exact Or.inr ⟨by omega, by omega, e, by omega⟩
theorem Z_iload5 (hk : okK κ δ cc own mL ret rm) {x : Int} {l0 l1 l2 l3 l4 : Option Value} (hd : decode cc pc = .ok (.iload 5, 2)) (k : Zj κ δ ad rt Q mL ρ (pc + 2) (l0 :: l1 :: l2 :: l3 :: l4 :: some (iv x) :: L) (iv x :: S) M) : Zj κ δ ad rt Q mL ρ pc (l0 :: l1 :: l2 :: l3 :: l4 :: some (iv x) :: L) S M := fun H locs ls hw hs hl => lv_iload hk.1 hk.2.1 hd (hl.2.2 5 _ rfl) (k H locs ls hw hs hl)
theorem Z_istore5 (hk : okK κ δ cc own mL ret rm) {x : Int} {l0 l1 l2 l3 l4 l5 : Option Value} (h : nl l4 = true) (hm : 5 < mL) (hd : decode cc pc = .ok (.istore 5, 2)) (k : Zj κ δ ad rt Q mL ρ (pc + 2) (l0 :: l1 :: l2 :: l3 :: l4 :: some (iv x) :: L) S M) : Zj κ δ ad rt Q mL ρ pc (l0 :: l1 :: l2 :: l3 :: l4 :: l5 :: L) (iv x :: S) M := Z_store1 hk (i := 5) hm rfl (u1_5 h) (fun H locs ls ls' e kk => zs_istore hk ⟨_, rfl⟩ hd H locs ls ls' e kk) k
theorem Z_lload5 (hk : okK κ δ cc own mL ret rm) {x : Int} {l0 l1 l2 l3 l4 : Option Value} (hd : decode cc pc = .ok (.lload 5, 2)) (k : Zj κ δ ad rt Q mL ρ (pc + 2) (l0 :: l1 :: l2 :: l3 :: l4 :: some (jv x) :: L) (jv x :: S) M) : Zj κ δ ad rt Q mL ρ pc (l0 :: l1 :: l2 :: l3 :: l4 :: some (jv x) :: L) S M := fun H locs ls hw hs hl => lv_lload hk.1 hk.2.1 hd (hl.2.2 5 _ rfl) (k H locs ls hw hs hl)
theorem Z_lstore5 (hk : okK κ δ cc own mL ret rm) {x : Int} {l0 l1 l2 l3 l4 l5 l6 : Option Value} (h : nl l4 = true) (hm : 6 < mL) (hd : decode cc pc = .ok (.lstore 5, 2)) (k : Zj κ δ ad rt Q mL ρ (pc + 2) (l0 :: l1 :: l2 :: l3 :: l4 :: some (jv x) :: none :: L) S M) : Zj κ δ ad rt Q mL ρ pc (l0 :: l1 :: l2 :: l3 :: l4 :: l5 :: l6 :: L) (jv x :: S) M := Z_store2 hk (i := 5) hm rfl (u2_5 h) (fun H locs ls ls' e kk => zs_lstore hk ⟨_, rfl⟩ hd H locs ls ls' e kk) k
theorem Z_aload5 (hk : okK κ δ cc own mL ret rm) {x : Nat} {l0 l1 l2 l3 l4 : Option Value} (hd : decode cc pc = .ok (.aload 5, 2)) (k : Zj κ δ ad rt Q mL ρ (pc + 2) (l0 :: l1 :: l2 :: l3 :: l4 :: some (.ref x) :: L) (.ref x :: S) M) : Zj κ δ ad rt Q mL ρ pc (l0 :: l1 :: l2 :: l3 :: l4 :: some (.ref x) :: L) S M := fun H locs ls hw hs hl => lv_aload hk.1 hk.2.1 hd (hl.2.2 5 _ rfl) (k H locs ls hw hs hl)
theorem Z_astore5 (hk : okK κ δ cc own mL ret rm) {x : Nat} {l0 l1 l2 l3 l4 l5 : Option Value} (h : nl l4 = true) (hm : 5 < mL) (hd : decode cc pc = .ok (.astore 5, 2)) (k : Zj κ δ ad rt Q mL ρ (pc + 2) (l0 :: l1 :: l2 :: l3 :: l4 :: some (.ref x) :: L) S M) : Zj κ δ ad rt Q mL ρ pc (l0 :: l1 :: l2 :: l3 :: l4 :: l5 :: L) (.ref x :: S) M := Z_store1 hk (i := 5) hm rfl (u1_5 h) (fun H locs ls ls' e kk => zs_astore hk ⟨_, rfl⟩ hd H locs ls ls' e kk) k
theorem Z_drop5 {l0 l1 l2 l3 l4 l5 : Option Value} (k : Zj κ δ ad rt Q mL ρ pc (l0 :: l1 :: l2 :: l3 :: l4 :: none :: L) S M) : Zj κ δ ad rt Q mL ρ pc (l0 :: l1 :: l2 :: l3 :: l4 :: l5 :: L) S M := fun H locs ls hw hs hl => k H locs ls hw hs ⟨hl.1, hl.2.1, fun i v e => hl.2.2 i v (by
  match i, e with
  | 0, e => exact e
  | 1, e => exact e
  | 2, e => exact e
  | 3, e => exact e
  | 4, e => exact e
  | 5, e => exact absurd e (by simp)
  | j + 6, e => exact e)⟩
theorem Z_iinc5 (hk : okK κ δ cc own mL ret rm) {x n : Int} {l0 l1 l2 l3 l4 : Option Value} (h : nl l4 = true) (hm : 5 < mL) (hd : decode cc pc = .ok (.iinc 5 n, 3)) (k : Zj κ δ ad rt Q mL ρ (pc + 3) (l0 :: l1 :: l2 :: l3 :: l4 :: some (iv (x + n)) :: L) S M) : Zj κ δ ad rt Q mL ρ pc (l0 :: l1 :: l2 :: l3 :: l4 :: some (iv x) :: L) S M := by
  intro H locs ls hw hs hl
  have hg := hl.2.2 5 _ rfl
  obtain ⟨ls', e', h'⟩ := lcs_store1 (L' := l0 :: l1 :: l2 :: l3 :: l4 :: some (iv (x + n)) :: L) hl hm (v := iv (x + n)) rfl (u1_5 h)
  intro T hT X
  obtain ⟨t, a, b⟩ := k H locs ls' hw hs h' T hT X
  refine ⟨t, ?_, b⟩
  unfold iv at hg e'
  rw [← zI_add] at e'
  jvm_step X.here [X.here.top, ↓top_set X.here.top, hk.1, hk.2.1, hd, hg, e']
  exact a
theorem u1_6 {l0 l1 l2 l3 l4 l5 l6 : Option Value} {v : Value} (h : nl l5 = true) : upd1 (l0 :: l1 :: l2 :: l3 :: l4 :: l5 :: l6 :: L) 6 v (l0 :: l1 :: l2 :: l3 :: l4 :: l5 :: some v :: L) := by
  intro j w e
  match j, e with
  | 0, e => exact Or.inr ⟨by omega, e, by omega⟩
  | 1, e => exact Or.inr ⟨by omega, e, by omega⟩
  | 2, e => exact Or.inr ⟨by omega, e, by omega⟩
  | 3, e => exact Or.inr ⟨by omega, e, by omega⟩
  | 4, e => exact Or.inr ⟨by omega, e, by omega⟩
  | 5, e => exact Or.inr ⟨by omega, e, fun q => nl_no h e q.2⟩
  | 6, e => exact Or.inl ⟨rfl, (Option.some.inj (Option.some.inj e)).symm⟩
  | j + 7, e => exact Or.inr ⟨by omega, e, by omega⟩
theorem u2_6 {l0 l1 l2 l3 l4 l5 l6 l7 : Option Value} {v : Value} (h : nl l5 = true) : upd2 (l0 :: l1 :: l2 :: l3 :: l4 :: l5 :: l6 :: l7 :: L) 6 v (l0 :: l1 :: l2 :: l3 :: l4 :: l5 :: some v :: none :: L) := by
  intro j w e
  match j, e with
  | 0, e => exact Or.inr ⟨by omega, by omega, e, by omega⟩
  | 1, e => exact Or.inr ⟨by omega, by omega, e, by omega⟩
  | 2, e => exact Or.inr ⟨by omega, by omega, e, by omega⟩
  | 3, e => exact Or.inr ⟨by omega, by omega, e, by omega⟩
  | 4, e => exact Or.inr ⟨by omega, by omega, e, by omega⟩
  | 5, e => exact Or.inr ⟨by omega, by omega, e, fun q => nl_no h e q.2⟩
  | 6, e => exact Or.inl ⟨rfl, (Option.some.inj (Option.some.inj e)).symm⟩
  | 7, e => exact absurd e (by simp)
  | j + 8, e => exact Or.inr ⟨by omega, by omega, e, by omega⟩
theorem Z_iload6 (hk : okK κ δ cc own mL ret rm) {x : Int} {l0 l1 l2 l3 l4 l5 : Option Value} (hd : decode cc pc = .ok (.iload 6, 2)) (k : Zj κ δ ad rt Q mL ρ (pc + 2) (l0 :: l1 :: l2 :: l3 :: l4 :: l5 :: some (iv x) :: L) (iv x :: S) M) : Zj κ δ ad rt Q mL ρ pc (l0 :: l1 :: l2 :: l3 :: l4 :: l5 :: some (iv x) :: L) S M := fun H locs ls hw hs hl => lv_iload hk.1 hk.2.1 hd (hl.2.2 6 _ rfl) (k H locs ls hw hs hl)
theorem Z_istore6 (hk : okK κ δ cc own mL ret rm) {x : Int} {l0 l1 l2 l3 l4 l5 l6 : Option Value} (h : nl l5 = true) (hm : 6 < mL) (hd : decode cc pc = .ok (.istore 6, 2)) (k : Zj κ δ ad rt Q mL ρ (pc + 2) (l0 :: l1 :: l2 :: l3 :: l4 :: l5 :: some (iv x) :: L) S M) : Zj κ δ ad rt Q mL ρ pc (l0 :: l1 :: l2 :: l3 :: l4 :: l5 :: l6 :: L) (iv x :: S) M := Z_store1 hk (i := 6) hm rfl (u1_6 h) (fun H locs ls ls' e kk => zs_istore hk ⟨_, rfl⟩ hd H locs ls ls' e kk) k
theorem Z_lload6 (hk : okK κ δ cc own mL ret rm) {x : Int} {l0 l1 l2 l3 l4 l5 : Option Value} (hd : decode cc pc = .ok (.lload 6, 2)) (k : Zj κ δ ad rt Q mL ρ (pc + 2) (l0 :: l1 :: l2 :: l3 :: l4 :: l5 :: some (jv x) :: L) (jv x :: S) M) : Zj κ δ ad rt Q mL ρ pc (l0 :: l1 :: l2 :: l3 :: l4 :: l5 :: some (jv x) :: L) S M := fun H locs ls hw hs hl => lv_lload hk.1 hk.2.1 hd (hl.2.2 6 _ rfl) (k H locs ls hw hs hl)
theorem Z_lstore6 (hk : okK κ δ cc own mL ret rm) {x : Int} {l0 l1 l2 l3 l4 l5 l6 l7 : Option Value} (h : nl l5 = true) (hm : 7 < mL) (hd : decode cc pc = .ok (.lstore 6, 2)) (k : Zj κ δ ad rt Q mL ρ (pc + 2) (l0 :: l1 :: l2 :: l3 :: l4 :: l5 :: some (jv x) :: none :: L) S M) : Zj κ δ ad rt Q mL ρ pc (l0 :: l1 :: l2 :: l3 :: l4 :: l5 :: l6 :: l7 :: L) (jv x :: S) M := Z_store2 hk (i := 6) hm rfl (u2_6 h) (fun H locs ls ls' e kk => zs_lstore hk ⟨_, rfl⟩ hd H locs ls ls' e kk) k
theorem Z_aload6 (hk : okK κ δ cc own mL ret rm) {x : Nat} {l0 l1 l2 l3 l4 l5 : Option Value} (hd : decode cc pc = .ok (.aload 6, 2)) (k : Zj κ δ ad rt Q mL ρ (pc + 2) (l0 :: l1 :: l2 :: l3 :: l4 :: l5 :: some (.ref x) :: L) (.ref x :: S) M) : Zj κ δ ad rt Q mL ρ pc (l0 :: l1 :: l2 :: l3 :: l4 :: l5 :: some (.ref x) :: L) S M := fun H locs ls hw hs hl => lv_aload hk.1 hk.2.1 hd (hl.2.2 6 _ rfl) (k H locs ls hw hs hl)
theorem Z_astore6 (hk : okK κ δ cc own mL ret rm) {x : Nat} {l0 l1 l2 l3 l4 l5 l6 : Option Value} (h : nl l5 = true) (hm : 6 < mL) (hd : decode cc pc = .ok (.astore 6, 2)) (k : Zj κ δ ad rt Q mL ρ (pc + 2) (l0 :: l1 :: l2 :: l3 :: l4 :: l5 :: some (.ref x) :: L) S M) : Zj κ δ ad rt Q mL ρ pc (l0 :: l1 :: l2 :: l3 :: l4 :: l5 :: l6 :: L) (.ref x :: S) M := Z_store1 hk (i := 6) hm rfl (u1_6 h) (fun H locs ls ls' e kk => zs_astore hk ⟨_, rfl⟩ hd H locs ls ls' e kk) k
theorem Z_drop6 {l0 l1 l2 l3 l4 l5 l6 : Option Value} (k : Zj κ δ ad rt Q mL ρ pc (l0 :: l1 :: l2 :: l3 :: l4 :: l5 :: none :: L) S M) : Zj κ δ ad rt Q mL ρ pc (l0 :: l1 :: l2 :: l3 :: l4 :: l5 :: l6 :: L) S M := fun H locs ls hw hs hl => k H locs ls hw hs ⟨hl.1, hl.2.1, fun i v e => hl.2.2 i v (by
  match i, e with
  | 0, e => exact e
  | 1, e => exact e
  | 2, e => exact e
  | 3, e => exact e
  | 4, e => exact e
  | 5, e => exact e
  | 6, e => exact absurd e (by simp)
  | j + 7, e => exact e)⟩
theorem Z_iinc6 (hk : okK κ δ cc own mL ret rm) {x n : Int} {l0 l1 l2 l3 l4 l5 : Option Value} (h : nl l5 = true) (hm : 6 < mL) (hd : decode cc pc = .ok (.iinc 6 n, 3)) (k : Zj κ δ ad rt Q mL ρ (pc + 3) (l0 :: l1 :: l2 :: l3 :: l4 :: l5 :: some (iv (x + n)) :: L) S M) : Zj κ δ ad rt Q mL ρ pc (l0 :: l1 :: l2 :: l3 :: l4 :: l5 :: some (iv x) :: L) S M := by
  intro H locs ls hw hs hl
  have hg := hl.2.2 6 _ rfl
  obtain ⟨ls', e', h'⟩ := lcs_store1 (L' := l0 :: l1 :: l2 :: l3 :: l4 :: l5 :: some (iv (x + n)) :: L) hl hm (v := iv (x + n)) rfl (u1_6 h)
  intro T hT X
  obtain ⟨t, a, b⟩ := k H locs ls' hw hs h' T hT X
  refine ⟨t, ?_, b⟩
  unfold iv at hg e'
  rw [← zI_add] at e'
  jvm_step X.here [X.here.top, ↓top_set X.here.top, hk.1, hk.2.1, hd, hg, e']
  exact a
theorem u1_7 {l0 l1 l2 l3 l4 l5 l6 l7 : Option Value} {v : Value} (h : nl l6 = true) : upd1 (l0 :: l1 :: l2 :: l3 :: l4 :: l5 :: l6 :: l7 :: L) 7 v (l0 :: l1 :: l2 :: l3 :: l4 :: l5 :: l6 :: some v :: L) := by
  intro j w e
  match j, e with
  | 0, e => exact Or.inr ⟨by omega, e, by omega⟩
  | 1, e => exact Or.inr ⟨by omega, e, by omega⟩
  | 2, e => exact Or.inr ⟨by omega, e, by omega⟩
  | 3, e => exact Or.inr ⟨by omega, e, by omega⟩
  | 4, e => exact Or.inr ⟨by omega, e, by omega⟩
  | 5, e => exact Or.inr ⟨by omega, e, by omega⟩
  | 6, e => exact Or.inr ⟨by omega, e, fun q => nl_no h e q.2⟩
  | 7, e => exact Or.inl ⟨rfl, (Option.some.inj (Option.some.inj e)).symm⟩
  | j + 8, e => exact Or.inr ⟨by omega, e, by omega⟩
theorem u2_7 {l0 l1 l2 l3 l4 l5 l6 l7 l8 : Option Value} {v : Value} (h : nl l6 = true) : upd2 (l0 :: l1 :: l2 :: l3 :: l4 :: l5 :: l6 :: l7 :: l8 :: L) 7 v (l0 :: l1 :: l2 :: l3 :: l4 :: l5 :: l6 :: some v :: none :: L) := by
  intro j w e
  match j, e with
  | 0, e => exact Or.inr ⟨by omega, by omega, e, by omega⟩
  | 1, e => exact Or.inr ⟨by omega, by omega, e, by omega⟩
  | 2, e => exact Or.inr ⟨by omega, by omega, e, by omega⟩
  | 3, e => exact Or.inr ⟨by omega, by omega, e, by omega⟩
  | 4, e => exact Or.inr ⟨by omega, by omega, e, by omega⟩
  | 5, e => exact Or.inr ⟨by omega, by omega, e, by omega⟩
  | 6, e => exact Or.inr ⟨by omega, by omega, e, fun q => nl_no h e q.2⟩
  | 7, e => exact Or.inl ⟨rfl, (Option.some.inj (Option.some.inj e)).symm⟩
  | 8, e => exact absurd e (by simp)
  | j + 9, e => exact Or.inr ⟨by omega, by omega, e, by omega⟩
theorem Z_iload7 (hk : okK κ δ cc own mL ret rm) {x : Int} {l0 l1 l2 l3 l4 l5 l6 : Option Value} (hd : decode cc pc = .ok (.iload 7, 2)) (k : Zj κ δ ad rt Q mL ρ (pc + 2) (l0 :: l1 :: l2 :: l3 :: l4 :: l5 :: l6 :: some (iv x) :: L) (iv x :: S) M) : Zj κ δ ad rt Q mL ρ pc (l0 :: l1 :: l2 :: l3 :: l4 :: l5 :: l6 :: some (iv x) :: L) S M := fun H locs ls hw hs hl => lv_iload hk.1 hk.2.1 hd (hl.2.2 7 _ rfl) (k H locs ls hw hs hl)
theorem Z_istore7 (hk : okK κ δ cc own mL ret rm) {x : Int} {l0 l1 l2 l3 l4 l5 l6 l7 : Option Value} (h : nl l6 = true) (hm : 7 < mL) (hd : decode cc pc = .ok (.istore 7, 2)) (k : Zj κ δ ad rt Q mL ρ (pc + 2) (l0 :: l1 :: l2 :: l3 :: l4 :: l5 :: l6 :: some (iv x) :: L) S M) : Zj κ δ ad rt Q mL ρ pc (l0 :: l1 :: l2 :: l3 :: l4 :: l5 :: l6 :: l7 :: L) (iv x :: S) M := Z_store1 hk (i := 7) hm rfl (u1_7 h) (fun H locs ls ls' e kk => zs_istore hk ⟨_, rfl⟩ hd H locs ls ls' e kk) k
theorem Z_lload7 (hk : okK κ δ cc own mL ret rm) {x : Int} {l0 l1 l2 l3 l4 l5 l6 : Option Value} (hd : decode cc pc = .ok (.lload 7, 2)) (k : Zj κ δ ad rt Q mL ρ (pc + 2) (l0 :: l1 :: l2 :: l3 :: l4 :: l5 :: l6 :: some (jv x) :: L) (jv x :: S) M) : Zj κ δ ad rt Q mL ρ pc (l0 :: l1 :: l2 :: l3 :: l4 :: l5 :: l6 :: some (jv x) :: L) S M := fun H locs ls hw hs hl => lv_lload hk.1 hk.2.1 hd (hl.2.2 7 _ rfl) (k H locs ls hw hs hl)
theorem Z_lstore7 (hk : okK κ δ cc own mL ret rm) {x : Int} {l0 l1 l2 l3 l4 l5 l6 l7 l8 : Option Value} (h : nl l6 = true) (hm : 8 < mL) (hd : decode cc pc = .ok (.lstore 7, 2)) (k : Zj κ δ ad rt Q mL ρ (pc + 2) (l0 :: l1 :: l2 :: l3 :: l4 :: l5 :: l6 :: some (jv x) :: none :: L) S M) : Zj κ δ ad rt Q mL ρ pc (l0 :: l1 :: l2 :: l3 :: l4 :: l5 :: l6 :: l7 :: l8 :: L) (jv x :: S) M := Z_store2 hk (i := 7) hm rfl (u2_7 h) (fun H locs ls ls' e kk => zs_lstore hk ⟨_, rfl⟩ hd H locs ls ls' e kk) k
theorem Z_aload7 (hk : okK κ δ cc own mL ret rm) {x : Nat} {l0 l1 l2 l3 l4 l5 l6 : Option Value} (hd : decode cc pc = .ok (.aload 7, 2)) (k : Zj κ δ ad rt Q mL ρ (pc + 2) (l0 :: l1 :: l2 :: l3 :: l4 :: l5 :: l6 :: some (.ref x) :: L) (.ref x :: S) M) : Zj κ δ ad rt Q mL ρ pc (l0 :: l1 :: l2 :: l3 :: l4 :: l5 :: l6 :: some (.ref x) :: L) S M := fun H locs ls hw hs hl => lv_aload hk.1 hk.2.1 hd (hl.2.2 7 _ rfl) (k H locs ls hw hs hl)
theorem Z_astore7 (hk : okK κ δ cc own mL ret rm) {x : Nat} {l0 l1 l2 l3 l4 l5 l6 l7 : Option Value} (h : nl l6 = true) (hm : 7 < mL) (hd : decode cc pc = .ok (.astore 7, 2)) (k : Zj κ δ ad rt Q mL ρ (pc + 2) (l0 :: l1 :: l2 :: l3 :: l4 :: l5 :: l6 :: some (.ref x) :: L) S M) : Zj κ δ ad rt Q mL ρ pc (l0 :: l1 :: l2 :: l3 :: l4 :: l5 :: l6 :: l7 :: L) (.ref x :: S) M := Z_store1 hk (i := 7) hm rfl (u1_7 h) (fun H locs ls ls' e kk => zs_astore hk ⟨_, rfl⟩ hd H locs ls ls' e kk) k
theorem Z_drop7 {l0 l1 l2 l3 l4 l5 l6 l7 : Option Value} (k : Zj κ δ ad rt Q mL ρ pc (l0 :: l1 :: l2 :: l3 :: l4 :: l5 :: l6 :: none :: L) S M) : Zj κ δ ad rt Q mL ρ pc (l0 :: l1 :: l2 :: l3 :: l4 :: l5 :: l6 :: l7 :: L) S M := fun H locs ls hw hs hl => k H locs ls hw hs ⟨hl.1, hl.2.1, fun i v e => hl.2.2 i v (by
  match i, e with
  | 0, e => exact e
  | 1, e => exact e
  | 2, e => exact e
  | 3, e => exact e
  | 4, e => exact e
  | 5, e => exact e
  | 6, e => exact e
  | 7, e => exact absurd e (by simp)
  | j + 8, e => exact e)⟩
theorem Z_iinc7 (hk : okK κ δ cc own mL ret rm) {x n : Int} {l0 l1 l2 l3 l4 l5 l6 : Option Value} (h : nl l6 = true) (hm : 7 < mL) (hd : decode cc pc = .ok (.iinc 7 n, 3)) (k : Zj κ δ ad rt Q mL ρ (pc + 3) (l0 :: l1 :: l2 :: l3 :: l4 :: l5 :: l6 :: some (iv (x + n)) :: L) S M) : Zj κ δ ad rt Q mL ρ pc (l0 :: l1 :: l2 :: l3 :: l4 :: l5 :: l6 :: some (iv x) :: L) S M := by
  intro H locs ls hw hs hl
  have hg := hl.2.2 7 _ rfl
  obtain ⟨ls', e', h'⟩ := lcs_store1 (L' := l0 :: l1 :: l2 :: l3 :: l4 :: l5 :: l6 :: some (iv (x + n)) :: L) hl hm (v := iv (x + n)) rfl (u1_7 h)
  intro T hT X
  obtain ⟨t, a, b⟩ := k H locs ls' hw hs h' T hT X
  refine ⟨t, ?_, b⟩
  unfold iv at hg e'
  rw [← zI_add] at e'
  jvm_step X.here [X.here.top, ↓top_set X.here.top, hk.1, hk.2.1, hd, hg, e']
  exact a
theorem u1_8 {l0 l1 l2 l3 l4 l5 l6 l7 l8 : Option Value} {v : Value} (h : nl l7 = true) : upd1 (l0 :: l1 :: l2 :: l3 :: l4 :: l5 :: l6 :: l7 :: l8 :: L) 8 v (l0 :: l1 :: l2 :: l3 :: l4 :: l5 :: l6 :: l7 :: some v :: L) := by
  intro j w e
  match j, e with
  | 0, e => exact Or.inr ⟨by omega, e, by omega⟩
  | 1, e => exact Or.inr ⟨by omega, e, by omega⟩
  | 2, e => exact Or.inr ⟨by omega, e, by omega⟩
  | 3, e => exact Or.inr ⟨by omega, e, by omega⟩
  | 4, e => exact Or.inr ⟨by omega, e, by omega⟩
  | 5, e => exact Or.inr ⟨by omega, e, by omega⟩
  | 6, e => exact Or.inr ⟨by omega, e, by omega⟩
  | 7, e => exact Or.inr ⟨by omega, e, fun q => nl_no h e q.2⟩
  | 8, e => exact Or.inl ⟨rfl, (Option.some.inj (Option.some.inj e)).symm⟩
  | j + 9, e => exact Or.inr ⟨by omega, e, by omega⟩
theorem u2_8 {l0 l1 l2 l3 l4 l5 l6 l7 l8 l9 : Option Value} {v : Value} (h : nl l7 = true) : upd2 (l0 :: l1 :: l2 :: l3 :: l4 :: l5 :: l6 :: l7 :: l8 :: l9 :: L) 8 v (l0 :: l1 :: l2 :: l3 :: l4 :: l5 :: l6 :: l7 :: some v :: none :: L) := by
  intro j w e
  match j, e with
  | 0, e => exact Or.inr ⟨by omega, by omega, e, by omega⟩
  | 1, e => exact Or.inr ⟨by omega, by omega, e, by omega⟩
  | 2, e => exact Or.inr ⟨by omega, by omega, e, by omega⟩
  | 3, e => exact Or.inr ⟨by omega, by omega, e, by omega⟩
  | 4, e => exact Or.inr ⟨by omega, by omega, e, by omega⟩
  | 5, e => exact Or.inr ⟨by omega, by omega, e, by omega⟩
  | 6, e => exact Or.inr ⟨by omega, by omega, e, by omega⟩
  | 7, e => exact Or.inr ⟨by omega, by omega, e, fun q => nl_no h e q.2⟩
  | 8, e => exact Or.inl ⟨rfl, (Option.some.inj (Option.some.inj e)).symm⟩
  | 9, e => exact absurd e (by simp)
  | j + 10, e => exact Or.inr ⟨by omega, by omega, e, by omega⟩
theorem Z_iload8 (hk : okK κ δ cc own mL ret rm) {x : Int} {l0 l1 l2 l3 l4 l5 l6 l7 : Option Value} (hd : decode cc pc = .ok (.iload 8, 2)) (k : Zj κ δ ad rt Q mL ρ (pc + 2) (l0 :: l1 :: l2 :: l3 :: l4 :: l5 :: l6 :: l7 :: some (iv x) :: L) (iv x :: S) M) : Zj κ δ ad rt Q mL ρ pc (l0 :: l1 :: l2 :: l3 :: l4 :: l5 :: l6 :: l7 :: some (iv x) :: L) S M := fun H locs ls hw hs hl => lv_iload hk.1 hk.2.1 hd (hl.2.2 8 _ rfl) (k H locs ls hw hs hl)
theorem Z_istore8 (hk : okK κ δ cc own mL ret rm) {x : Int} {l0 l1 l2 l3 l4 l5 l6 l7 l8 : Option Value} (h : nl l7 = true) (hm : 8 < mL) (hd : decode cc pc = .ok (.istore 8, 2)) (k : Zj κ δ ad rt Q mL ρ (pc + 2) (l0 :: l1 :: l2 :: l3 :: l4 :: l5 :: l6 :: l7 :: some (iv x) :: L) S M) : Zj κ δ ad rt Q mL ρ pc (l0 :: l1 :: l2 :: l3 :: l4 :: l5 :: l6 :: l7 :: l8 :: L) (iv x :: S) M := Z_store1 hk (i := 8) hm rfl (u1_8 h) (fun H locs ls ls' e kk => zs_istore hk ⟨_, rfl⟩ hd H locs ls ls' e kk) k
theorem Z_lload8 (hk : okK κ δ cc own mL ret rm) {x : Int} {l0 l1 l2 l3 l4 l5 l6 l7 : Option Value} (hd : decode cc pc = .ok (.lload 8, 2)) (k : Zj κ δ ad rt Q mL ρ (pc + 2) (l0 :: l1 :: l2 :: l3 :: l4 :: l5 :: l6 :: l7 :: some (jv x) :: L) (jv x :: S) M) : Zj κ δ ad rt Q mL ρ pc (l0 :: l1 :: l2 :: l3 :: l4 :: l5 :: l6 :: l7 :: some (jv x) :: L) S M := fun H locs ls hw hs hl => lv_lload hk.1 hk.2.1 hd (hl.2.2 8 _ rfl) (k H locs ls hw hs hl)
theorem Z_lstore8 (hk : okK κ δ cc own mL ret rm) {x : Int} {l0 l1 l2 l3 l4 l5 l6 l7 l8 l9 : Option Value} (h : nl l7 = true) (hm : 9 < mL) (hd : decode cc pc = .ok (.lstore 8, 2)) (k : Zj κ δ ad rt Q mL ρ (pc + 2) (l0 :: l1 :: l2 :: l3 :: l4 :: l5 :: l6 :: l7 :: some (jv x) :: none :: L) S M) : Zj κ δ ad rt Q mL ρ pc (l0 :: l1 :: l2 :: l3 :: l4 :: l5 :: l6 :: l7 :: l8 :: l9 :: L) (jv x :: S) M := Z_store2 hk (i := 8) hm rfl (u2_8 h) (fun H locs ls ls' e kk => zs_lstore hk ⟨_, rfl⟩ hd H locs ls ls' e kk) k
theorem Z_aload8 (hk : okK κ δ cc own mL ret rm) {x : Nat} {l0 l1 l2 l3 l4 l5 l6 l7 : Option Value} (hd : decode cc pc = .ok (.aload 8, 2)) (k : Zj κ δ ad rt Q mL ρ (pc + 2) (l0 :: l1 :: l2 :: l3 :: l4 :: l5 :: l6 :: l7 :: some (.ref x) :: L) (.ref x :: S) M) : Zj κ δ ad rt Q mL ρ pc (l0 :: l1 :: l2 :: l3 :: l4 :: l5 :: l6 :: l7 :: some (.ref x) :: L) S M := fun H locs ls hw hs hl => lv_aload hk.1 hk.2.1 hd (hl.2.2 8 _ rfl) (k H locs ls hw hs hl)
theorem Z_astore8 (hk : okK κ δ cc own mL ret rm) {x : Nat} {l0 l1 l2 l3 l4 l5 l6 l7 l8 : Option Value} (h : nl l7 = true) (hm : 8 < mL) (hd : decode cc pc = .ok (.astore 8, 2)) (k : Zj κ δ ad rt Q mL ρ (pc + 2) (l0 :: l1 :: l2 :: l3 :: l4 :: l5 :: l6 :: l7 :: some (.ref x) :: L) S M) : Zj κ δ ad rt Q mL ρ pc (l0 :: l1 :: l2 :: l3 :: l4 :: l5 :: l6 :: l7 :: l8 :: L) (.ref x :: S) M := Z_store1 hk (i := 8) hm rfl (u1_8 h) (fun H locs ls ls' e kk => zs_astore hk ⟨_, rfl⟩ hd H locs ls ls' e kk) k
theorem Z_drop8 {l0 l1 l2 l3 l4 l5 l6 l7 l8 : Option Value} (k : Zj κ δ ad rt Q mL ρ pc (l0 :: l1 :: l2 :: l3 :: l4 :: l5 :: l6 :: l7 :: none :: L) S M) : Zj κ δ ad rt Q mL ρ pc (l0 :: l1 :: l2 :: l3 :: l4 :: l5 :: l6 :: l7 :: l8 :: L) S M := fun H locs ls hw hs hl => k H locs ls hw hs ⟨hl.1, hl.2.1, fun i v e => hl.2.2 i v (by
  match i, e with
  | 0, e => exact e
  | 1, e => exact e
  | 2, e => exact e
  | 3, e => exact e
  | 4, e => exact e
  | 5, e => exact e
  | 6, e => exact e
  | 7, e => exact e
  | 8, e => exact absurd e (by simp)
  | j + 9, e => exact e)⟩
theorem Z_iinc8 (hk : okK κ δ cc own mL ret rm) {x n : Int} {l0 l1 l2 l3 l4 l5 l6 l7 : Option Value} (h : nl l7 = true) (hm : 8 < mL) (hd : decode cc pc = .ok (.iinc 8 n, 3)) (k : Zj κ δ ad rt Q mL ρ (pc + 3) (l0 :: l1 :: l2 :: l3 :: l4 :: l5 :: l6 :: l7 :: some (iv (x + n)) :: L) S M) : Zj κ δ ad rt Q mL ρ pc (l0 :: l1 :: l2 :: l3 :: l4 :: l5 :: l6 :: l7 :: some (iv x) :: L) S M := by
  intro H locs ls hw hs hl
  have hg := hl.2.2 8 _ rfl
  obtain ⟨ls', e', h'⟩ := lcs_store1 (L' := l0 :: l1 :: l2 :: l3 :: l4 :: l5 :: l6 :: l7 :: some (iv (x + n)) :: L) hl hm (v := iv (x + n)) rfl (u1_8 h)
  intro T hT X
  obtain ⟨t, a, b⟩ := k H locs ls' hw hs h' T hT X
  refine ⟨t, ?_, b⟩
  unfold iv at hg e'
  rw [← zI_add] at e'
  jvm_step X.here [X.here.top, ↓top_set X.here.top, hk.1, hk.2.1, hd, hg, e']
  exact a
theorem u1_9 {l0 l1 l2 l3 l4 l5 l6 l7 l8 l9 : Option Value} {v : Value} (h : nl l8 = true) : upd1 (l0 :: l1 :: l2 :: l3 :: l4 :: l5 :: l6 :: l7 :: l8 :: l9 :: L) 9 v (l0 :: l1 :: l2 :: l3 :: l4 :: l5 :: l6 :: l7 :: l8 :: some v :: L) := by
  intro j w e
  match j, e with
  | 0, e => exact Or.inr ⟨by omega, e, by omega⟩
  | 1, e => exact Or.inr ⟨by omega, e, by omega⟩
  | 2, e => exact Or.inr ⟨by omega, e, by omega⟩
  | 3, e => exact Or.inr ⟨by omega, e, by omega⟩
  | 4, e => exact Or.inr ⟨by omega, e, by omega⟩
  | 5, e => exact Or.inr ⟨by omega, e, by omega⟩
  | 6, e => exact Or.inr ⟨by omega, e, by omega⟩
  | 7, e => exact Or.inr ⟨by omega, e, by omega⟩
  | 8, e => exact Or.inr ⟨by omega, e, fun q => nl_no h e q.2⟩
  | 9, e => exact Or.inl ⟨rfl, (Option.some.inj (Option.some.inj e)).symm⟩
  | j + 10, e => exact Or.inr ⟨by omega, e, by omega⟩
theorem u2_9 {l0 l1 l2 l3 l4 l5 l6 l7 l8 l9 l10 : Option Value} {v : Value} (h : nl l8 = true) : upd2 (l0 :: l1 :: l2 :: l3 :: l4 :: l5 :: l6 :: l7 :: l8 :: l9 :: l10 :: L) 9 v (l0 :: l1 :: l2 :: l3 :: l4 :: l5 :: l6 :: l7 :: l8 :: some v :: none :: L) := by
  intro j w e
  match j, e with
  | 0, e => exact Or.inr ⟨by omega, by omega, e, by omega⟩
  | 1, e => exact Or.inr ⟨by omega, by omega, e, by omega⟩
  | 2, e => exact Or.inr ⟨by omega, by omega, e, by omega⟩
  | 3, e => exact Or.inr ⟨by omega, by omega, e, by omega⟩
  | 4, e => exact Or.inr ⟨by omega, by omega, e, by omega⟩
  | 5, e => exact Or.inr ⟨by omega, by omega, e, by omega⟩
  | 6, e => exact Or.inr ⟨by omega, by omega, e, by omega⟩
  | 7, e => exact Or.inr ⟨by omega, by omega, e, by omega⟩
  | 8, e => exact Or.inr ⟨by omega, by omega, e, fun q => nl_no h e q.2⟩
  | 9, e => exact Or.inl ⟨rfl, (Option.some.inj (Option.some.inj e)).symm⟩
  | 10, e => exact absurd e (by simp)
  | j + 11, e => exact Or.inr ⟨by omega, by omega, e, by omega⟩
theorem Z_iload9 (hk : okK κ δ cc own mL ret rm) {x : Int} {l0 l1 l2 l3 l4 l5 l6 l7 l8 : Option Value} (hd : decode cc pc = .ok (.iload 9, 2)) (k : Zj κ δ ad rt Q mL ρ (pc + 2) (l0 :: l1 :: l2 :: l3 :: l4 :: l5 :: l6 :: l7 :: l8 :: some (iv x) :: L) (iv x :: S) M) : Zj κ δ ad rt Q mL ρ pc (l0 :: l1 :: l2 :: l3 :: l4 :: l5 :: l6 :: l7 :: l8 :: some (iv x) :: L) S M := fun H locs ls hw hs hl => lv_iload hk.1 hk.2.1 hd (hl.2.2 9 _ rfl) (k H locs ls hw hs hl)
theorem Z_istore9 (hk : okK κ δ cc own mL ret rm) {x : Int} {l0 l1 l2 l3 l4 l5 l6 l7 l8 l9 : Option Value} (h : nl l8 = true) (hm : 9 < mL) (hd : decode cc pc = .ok (.istore 9, 2)) (k : Zj κ δ ad rt Q mL ρ (pc + 2) (l0 :: l1 :: l2 :: l3 :: l4 :: l5 :: l6 :: l7 :: l8 :: some (iv x) :: L) S M) : Zj κ δ ad rt Q mL ρ pc (l0 :: l1 :: l2 :: l3 :: l4 :: l5 :: l6 :: l7 :: l8 :: l9 :: L) (iv x :: S) M := Z_store1 hk (i := 9) hm rfl (u1_9 h) (fun H locs ls ls' e kk => zs_istore hk ⟨_, rfl⟩ hd H locs ls ls' e kk) k
theorem Z_lload9 (hk : okK κ δ cc own mL ret rm) {x : Int} {l0 l1 l2 l3 l4 l5 l6 l7 l8 : Option Value} (hd : decode cc pc = .ok (.lload 9, 2)) (k : Zj κ δ ad rt Q mL ρ (pc + 2) (l0 :: l1 :: l2 :: l3 :: l4 :: l5 :: l6 :: l7 :: l8 :: some (jv x) :: L) (jv x :: S) M) : Zj κ δ ad rt Q mL ρ pc (l0 :: l1 :: l2 :: l3 :: l4 :: l5 :: l6 :: l7 :: l8 :: some (jv x) :: L) S M := fun H locs ls hw hs hl => lv_lload hk.1 hk.2.1 hd (hl.2.2 9 _ rfl) (k H locs ls hw hs hl)
theorem Z_lstore9 (hk : okK κ δ cc own mL ret rm) {x : Int} {l0 l1 l2 l3 l4 l5 l6 l7 l8 l9 l10 : Option Value} (h : nl l8 = true) (hm : 10 < mL) (hd : decode cc pc = .ok (.lstore 9, 2)) (k : Zj κ δ ad rt Q mL ρ (pc + 2) (l0 :: l1 :: l2 :: l3 :: l4 :: l5 :: l6 :: l7 :: l8 :: some (jv x) :: none :: L) S M) : Zj κ δ ad rt Q mL ρ pc (l0 :: l1 :: l2 :: l3 :: l4 :: l5 :: l6 :: l7 :: l8 :: l9 :: l10 :: L) (jv x :: S) M := Z_store2 hk (i := 9) hm rfl (u2_9 h) (fun H locs ls ls' e kk => zs_lstore hk ⟨_, rfl⟩ hd H locs ls ls' e kk) k
theorem Z_aload9 (hk : okK κ δ cc own mL ret rm) {x : Nat} {l0 l1 l2 l3 l4 l5 l6 l7 l8 : Option Value} (hd : decode cc pc = .ok (.aload 9, 2)) (k : Zj κ δ ad rt Q mL ρ (pc + 2) (l0 :: l1 :: l2 :: l3 :: l4 :: l5 :: l6 :: l7 :: l8 :: some (.ref x) :: L) (.ref x :: S) M) : Zj κ δ ad rt Q mL ρ pc (l0 :: l1 :: l2 :: l3 :: l4 :: l5 :: l6 :: l7 :: l8 :: some (.ref x) :: L) S M := fun H locs ls hw hs hl => lv_aload hk.1 hk.2.1 hd (hl.2.2 9 _ rfl) (k H locs ls hw hs hl)
theorem Z_astore9 (hk : okK κ δ cc own mL ret rm) {x : Nat} {l0 l1 l2 l3 l4 l5 l6 l7 l8 l9 : Option Value} (h : nl l8 = true) (hm : 9 < mL) (hd : decode cc pc = .ok (.astore 9, 2)) (k : Zj κ δ ad rt Q mL ρ (pc + 2) (l0 :: l1 :: l2 :: l3 :: l4 :: l5 :: l6 :: l7 :: l8 :: some (.ref x) :: L) S M) : Zj κ δ ad rt Q mL ρ pc (l0 :: l1 :: l2 :: l3 :: l4 :: l5 :: l6 :: l7 :: l8 :: l9 :: L) (.ref x :: S) M := Z_store1 hk (i := 9) hm rfl (u1_9 h) (fun H locs ls ls' e kk => zs_astore hk ⟨_, rfl⟩ hd H locs ls ls' e kk) k
theorem Z_drop9 {l0 l1 l2 l3 l4 l5 l6 l7 l8 l9 : Option Value} (k : Zj κ δ ad rt Q mL ρ pc (l0 :: l1 :: l2 :: l3 :: l4 :: l5 :: l6 :: l7 :: l8 :: none :: L) S M) : Zj κ δ ad rt Q mL ρ pc (l0 :: l1 :: l2 :: l3 :: l4 :: l5 :: l6 :: l7 :: l8 :: l9 :: L) S M := fun H locs ls hw hs hl => k H locs ls hw hs ⟨hl.1, hl.2.1, fun i v e => hl.2.2 i v (by
  match i, e with
  | 0, e => exact e
  | 1, e => exact e
  | 2, e => exact e
  | 3, e => exact e
  | 4, e => exact e
  | 5, e => exact e
  | 6, e => exact e
  | 7, e => exact e
  | 8, e => exact e
  | 9, e => exact absurd e (by simp)
  | j + 10, e => exact e)⟩
theorem Z_iinc9 (hk : okK κ δ cc own mL ret rm) {x n : Int} {l0 l1 l2 l3 l4 l5 l6 l7 l8 : Option Value} (h : nl l8 = true) (hm : 9 < mL) (hd : decode cc pc = .ok (.iinc 9 n, 3)) (k : Zj κ δ ad rt Q mL ρ (pc + 3) (l0 :: l1 :: l2 :: l3 :: l4 :: l5 :: l6 :: l7 :: l8 :: some (iv (x + n)) :: L) S M) : Zj κ δ ad rt Q mL ρ pc (l0 :: l1 :: l2 :: l3 :: l4 :: l5 :: l6 :: l7 :: l8 :: some (iv x) :: L) S M := by
  intro H locs ls hw hs hl
  have hg := hl.2.2 9 _ rfl
  obtain ⟨ls', e', h'⟩ := lcs_store1 (L' := l0 :: l1 :: l2 :: l3 :: l4 :: l5 :: l6 :: l7 :: l8 :: some (iv (x + n)) :: L) hl hm (v := iv (x + n)) rfl (u1_9 h)
  intro T hT X
  obtain ⟨t, a, b⟩ := k H locs ls' hw hs h' T hT X
  refine ⟨t, ?_, b⟩
  unfold iv at hg e'
  rw [← zI_add] at e'
  jvm_step X.here [X.here.top, ↓top_set X.here.top, hk.1, hk.2.1, hd, hg, e']
  exact a
theorem u1_10 {l0 l1 l2 l3 l4 l5 l6 l7 l8 l9 l10 : Option Value} {v : Value} (h : nl l9 = true) : upd1 (l0 :: l1 :: l2 :: l3 :: l4 :: l5 :: l6 :: l7 :: l8 :: l9 :: l10 :: L) 10 v (l0 :: l1 :: l2 :: l3 :: l4 :: l5 :: l6 :: l7 :: l8 :: l9 :: some v :: L) := by
  intro j w e
  match j, e with
  | 0, e => exact Or.inr ⟨by omega, e, by omega⟩
  | 1, e => exact Or.inr ⟨by omega, e, by omega⟩
  | 2, e => exact Or.inr ⟨by omega, e, by omega⟩
  | 3, e => exact Or.inr ⟨by omega, e, by omega⟩
  | 4, e => exact Or.inr ⟨by omega, e, by omega⟩
  | 5, e => exact Or.inr ⟨by omega, e, by omega⟩
  | 6, e => exact Or.inr ⟨by omega, e, by omega⟩
  | 7, e => exact Or.inr ⟨by omega, e, by omega⟩
  | 8, e => exact Or.inr ⟨by omega, e, by omega⟩
  | 9, e => exact Or.inr ⟨by omega, e, fun q => nl_no h e q.2⟩
  | 10, e => exact Or.inl ⟨rfl, (Option.some.inj (Option.some.inj e)).symm⟩
  | j + 11, e => exact Or.inr ⟨by omega, e, by omega⟩
theorem u2_10 {l0 l1 l2 l3 l4 l5 l6 l7 l8 l9 l10 l11 : Option Value} {v : Value} (h : nl l9 = true) : upd2 (l0 :: l1 :: l2 :: l3 :: l4 :: l5 :: l6 :: l7 :: l8 :: l9 :: l10 :: l11 :: L) 10 v (l0 :: l1 :: l2 :: l3 :: l4 :: l5 :: l6 :: l7 :: l8 :: l9 :: some v :: none :: L) := by
  intro j w e
  match j, e with
  | 0, e => exact Or.inr ⟨by omega, by omega, e, by omega⟩
  | 1, e => exact Or.inr ⟨by omega, by omega, e, by omega⟩
  | 2, e => exact Or.inr ⟨by omega, by omega, e, by omega⟩
  | 3, e => exact Or.inr ⟨by omega, by omega, e, by omega⟩
  | 4, e => exact Or.inr ⟨by omega, by omega, e, by omega⟩
  | 5, e => exact Or.inr ⟨by omega, by omega, e, by omega⟩
  | 6, e => exact Or.inr ⟨by omega, by omega, e, by omega⟩
  | 7, e => exact Or.inr ⟨by omega, by omega, e, by omega⟩
  | 8, e => exact Or.inr ⟨by omega, by omega, e, by omega⟩
  | 9, e => exact Or.inr ⟨by omega, by omega, e, fun q => nl_no h e q.2⟩
  | 10, e => exact Or.inl ⟨rfl, (Option.some.inj (Option.some.inj e)).symm⟩
  | 11, e => exact absurd e (by simp)
  | j + 12, e => exact Or.inr ⟨by omega, by omega, e, by omega⟩
theorem Z_iload10 (hk : okK κ δ cc own mL ret rm) {x : Int} {l0 l1 l2 l3 l4 l5 l6 l7 l8 l9 : Option Value} (hd : decode cc pc = .ok (.iload 10, 2)) (k : Zj κ δ ad rt Q mL ρ (pc + 2) (l0 :: l1 :: l2 :: l3 :: l4 :: l5 :: l6 :: l7 :: l8 :: l9 :: some (iv x) :: L) (iv x :: S) M) : Zj κ δ ad rt Q mL ρ pc (l0 :: l1 :: l2 :: l3 :: l4 :: l5 :: l6 :: l7 :: l8 :: l9 :: some (iv x) :: L) S M := fun H locs ls hw hs hl => lv_iload hk.1 hk.2.1 hd (hl.2.2 10 _ rfl) (k H locs ls hw hs hl)
theorem Z_istore10 (hk : okK κ δ cc own mL ret rm) {x : Int} {l0 l1 l2 l3 l4 l5 l6 l7 l8 l9 l10 : Option Value} (h : nl l9 = true) (hm : 10 < mL) (hd : decode cc pc = .ok (.istore 10, 2)) (k : Zj κ δ ad rt Q mL ρ (pc + 2) (l0 :: l1 :: l2 :: l3 :: l4 :: l5 :: l6 :: l7 :: l8 :: l9 :: some (iv x) :: L) S M) : Zj κ δ ad rt Q mL ρ pc (l0 :: l1 :: l2 :: l3 :: l4 :: l5 :: l6 :: l7 :: l8 :: l9 :: l10 :: L) (iv x :: S) M := Z_store1 hk (i := 10) hm rfl (u1_10 h) (fun H locs ls ls' e kk => zs_istore hk ⟨_, rfl⟩ hd H locs ls ls' e kk) k
theorem Z_lload10 (hk : okK κ δ cc own mL ret rm) {x : Int} {l0 l1 l2 l3 l4 l5 l6 l7 l8 l9 : Option Value} (hd : decode cc pc = .ok (.lload 10, 2)) (k : Zj κ δ ad rt Q mL ρ (pc + 2) (l0 :: l1 :: l2 :: l3 :: l4 :: l5 :: l6 :: l7 :: l8 :: l9 :: some (jv x) :: L) (jv x :: S) M) : Zj κ δ ad rt Q mL ρ pc (l0 :: l1 :: l2 :: l3 :: l4 :: l5 :: l6 :: l7 :: l8 :: l9 :: some (jv x) :: L) S M := fun H locs ls hw hs hl => lv_lload hk.1 hk.2.1 hd (hl.2.2 10 _ rfl) (k H locs ls hw hs hl)
theorem Z_lstore10 (hk : okK κ δ cc own mL ret rm) {x : Int} {l0 l1 l2 l3 l4 l5 l6 l7 l8 l9 l10 l11 : Option Value} (h : nl l9 = true) (hm : 11 < mL) (hd : decode cc pc = .ok (.lstore 10, 2)) (k : Zj κ δ ad rt Q mL ρ (pc + 2) (l0 :: l1 :: l2 :: l3 :: l4 :: l5 :: l6 :: l7 :: l8 :: l9 :: some (jv x) :: none :: L) S M) : Zj κ δ ad rt Q mL ρ pc (l0 :: l1 :: l2 :: l3 :: l4 :: l5 :: l6 :: l7 :: l8 :: l9 :: l10 :: l11 :: L) (jv x :: S) M := Z_store2 hk (i := 10) hm rfl (u2_10 h) (fun H locs ls ls' e kk => zs_lstore hk ⟨_, rfl⟩ hd H locs ls ls' e kk) k
theorem Z_aload10 (hk : okK κ δ cc own mL ret rm) {x : Nat} {l0 l1 l2 l3 l4 l5 l6 l7 l8 l9 : Option Value} (hd : decode cc pc = .ok (.aload 10, 2)) (k : Zj κ δ ad rt Q mL ρ (pc + 2) (l0 :: l1 :: l2 :: l3 :: l4 :: l5 :: l6 :: l7 :: l8 :: l9 :: some (.ref x) :: L) (.ref x :: S) M) : Zj κ δ ad rt Q mL ρ pc (l0 :: l1 :: l2 :: l3 :: l4 :: l5 :: l6 :: l7 :: l8 :: l9 :: some (.ref x) :: L) S M := fun H locs ls hw hs hl => lv_aload hk.1 hk.2.1 hd (hl.2.2 10 _ rfl) (k H locs ls hw hs hl)
theorem Z_astore10 (hk : okK κ δ cc own mL ret rm) {x : Nat} {l0 l1 l2 l3 l4 l5 l6 l7 l8 l9 l10 : Option Value} (h : nl l9 = true) (hm : 10 < mL) (hd : decode cc pc = .ok (.astore 10, 2)) (k : Zj κ δ ad rt Q mL ρ (pc + 2) (l0 :: l1 :: l2 :: l3 :: l4 :: l5 :: l6 :: l7 :: l8 :: l9 :: some (.ref x) :: L) S M) : Zj κ δ ad rt Q mL ρ pc (l0 :: l1 :: l2 :: l3 :: l4 :: l5 :: l6 :: l7 :: l8 :: l9 :: l10 :: L) (.ref x :: S) M := Z_store1 hk (i := 10) hm rfl (u1_10 h) (fun H locs ls ls' e kk => zs_astore hk ⟨_, rfl⟩ hd H locs ls ls' e kk) k
theorem Z_drop10 {l0 l1 l2 l3 l4 l5 l6 l7 l8 l9 l10 : Option Value} (k : Zj κ δ ad rt Q mL ρ pc (l0 :: l1 :: l2 :: l3 :: l4 :: l5 :: l6 :: l7 :: l8 :: l9 :: none :: L) S M) : Zj κ δ ad rt Q mL ρ pc (l0 :: l1 :: l2 :: l3 :: l4 :: l5 :: l6 :: l7 :: l8 :: l9 :: l10 :: L) S M := fun H locs ls hw hs hl => k H locs ls hw hs ⟨hl.1, hl.2.1, fun i v e => hl.2.2 i v (by
  match i, e with
  | 0, e => exact e
  | 1, e => exact e
  | 2, e => exact e
  | 3, e => exact e
  | 4, e => exact e
  | 5, e => exact e
  | 6, e => exact e
  | 7, e => exact e
  | 8, e => exact e
  | 9, e => exact e
  | 10, e => exact absurd e (by simp)
  | j + 11, e => exact e)⟩
theorem Z_iinc10 (hk : okK κ δ cc own mL ret rm) {x n : Int} {l0 l1 l2 l3 l4 l5 l6 l7 l8 l9 : Option Value} (h : nl l9 = true) (hm : 10 < mL) (hd : decode cc pc = .ok (.iinc 10 n, 3)) (k : Zj κ δ ad rt Q mL ρ (pc + 3) (l0 :: l1 :: l2 :: l3 :: l4 :: l5 :: l6 :: l7 :: l8 :: l9 :: some (iv (x + n)) :: L) S M) : Zj κ δ ad rt Q mL ρ pc (l0 :: l1 :: l2 :: l3 :: l4 :: l5 :: l6 :: l7 :: l8 :: l9 :: some (iv x) :: L) S M := by
  intro H locs ls hw hs hl
  have hg := hl.2.2 10 _ rfl
  obtain ⟨ls', e', h'⟩ := lcs_store1 (L' := l0 :: l1 :: l2 :: l3 :: l4 :: l5 :: l6 :: l7 :: l8 :: l9 :: some (iv (x + n)) :: L) hl hm (v := iv (x + n)) rfl (u1_10 h)
  intro T hT X
  obtain ⟨t, a, b⟩ := k H locs ls' hw hs h' T hT X
  refine ⟨t, ?_, b⟩
  unfold iv at hg e'
  rw [← zI_add] at e'
  jvm_step X.here [X.here.top, ↓top_set X.here.top, hk.1, hk.2.1, hd, hg, e']
  exact a
theorem u1_11 {l0 l1 l2 l3 l4 l5 l6 l7 l8 l9 l10 l11 : Option Value} {v : Value} (h : nl l10 = true) : upd1 (l0 :: l1 :: l2 :: l3 :: l4 :: l5 :: l6 :: l7 :: l8 :: l9 :: l10 :: l11 :: L) 11 v (l0 :: l1 :: l2 :: l3 :: l4 :: l5 :: l6 :: l7 :: l8 :: l9 :: l10 :: some v :: L) := by
  intro j w e
  match j, e with
  | 0, e => exact Or.inr ⟨by omega, e, by omega⟩
  | 1, e => exact Or.inr ⟨by omega, e, by omega⟩
  | 2, e => exact Or.inr ⟨by omega, e, by omega⟩
  | 3, e => exact Or.inr ⟨by omega, e, by omega⟩
  | 4, e => exact Or.inr ⟨by omega, e, by omega⟩
  | 5, e => exact Or.inr ⟨by omega, e, by omega⟩
  | 6, e => exact Or.inr ⟨by omega, e, by omega⟩
  | 7, e => exact Or.inr ⟨by omega, e, by omega⟩
  | 8, e => exact Or.inr ⟨by omega, e, by omega⟩
  | 9, e => exact Or.inr ⟨by omega, e, by omega⟩
  | 10, e => exact Or.inr ⟨by omega, e, fun q => nl_no h e q.2⟩
  | 11, e => exact Or.inl ⟨rfl, (Option.some.inj (Option.some.inj e)).symm⟩
  | j + 12, e => exact Or.inr ⟨by omega, e, by omega⟩
theorem u2_11 {l0 l1 l2 l3 l4 l5 l6 l7 l8 l9 l10 l11 l12 : Option Value} {v : Value} (h : nl l10 = true) : upd2 (l0 :: l1 :: l2 :: l3 :: l4 :: l5 :: l6 :: l7 :: l8 :: l9 :: l10 :: l11 :: l12 :: L) 11 v (l0 :: l1 :: l2 :: l3 :: l4 :: l5 :: l6 :: l7 :: l8 :: l9 :: l10 :: some v :: none :: L) := by
  intro j w e
  match j, e with
  | 0, e => exact Or.inr ⟨by omega, by omega, e, by omega⟩
  | 1, e => exact Or.inr ⟨by omega, by omega, e, by omega⟩
  | 2, e => exact Or.inr ⟨by omega, by omega, e, by omega⟩
  | 3, e => exact Or.inr ⟨by omega, by omega, e, by omega⟩
  | 4, e => exact Or.inr ⟨by omega, by omega, e, by omega⟩
  | 5, e => exact Or.inr ⟨by omega, by omega, e, by omega⟩
  | 6, e => exact Or.inr ⟨by omega, by omega, e, by omega⟩
  | 7, e => exact Or.inr ⟨by omega, by omega, e, by omega⟩
  | 8, e => exact Or.inr ⟨by omega, by omega, e, by omega⟩
  | 9, e => exact Or.inr ⟨by omega, by omega, e, by omega⟩
  | 10, e => exact Or.inr ⟨by omega, by omega, e, fun q => nl_no h e q.2⟩
  | 11, e => exact Or.inl ⟨rfl, (Option.some.inj (Option.some.inj e)).symm⟩
  | 12, e => exact absurd e (by simp)
  | j + 13, e => exact Or.inr ⟨by omega, by omega, e, by omega⟩
theorem Z_iload11 (hk : okK κ δ cc own mL ret rm) {x : Int} {l0 l1 l2 l3 l4 l5 l6 l7 l8 l9 l10 : Option Value} (hd : decode cc pc = .ok (.iload 11, 2)) (k : Zj κ δ ad rt Q mL ρ (pc + 2) (l0 :: l1 :: l2 :: l3 :: l4 :: l5 :: l6 :: l7 :: l8 :: l9 :: l10 :: some (iv x) :: L) (iv x :: S) M) : Zj κ δ ad rt Q mL ρ pc (l0 :: l1 :: l2 :: l3 :: l4 :: l5 :: l6 :: l7 :: l8 :: l9 :: l10 :: some (iv x) :: L) S M := fun H locs ls hw hs hl => lv_iload hk.1 hk.2.1 hd (hl.2.2 11 _ rfl) (k H locs ls hw hs hl)
theorem Z_istore11 (hk : okK κ δ cc own mL ret rm) {x : Int} {l0 l1 l2 l3 l4 l5 l6 l7 l8 l9 l10 l11 : Option Value} (h : nl l10 = true) (hm : 11 < mL) (hd : decode cc pc = .ok (.istore 11, 2)) (k : Zj κ δ ad rt Q mL ρ (pc + 2) (l0 :: l1 :: l2 :: l3 :: l4 :: l5 :: l6 :: l7 :: l8 :: l9 :: l10 :: some (iv x) :: L) S M) : Zj κ δ ad rt Q mL ρ pc (l0 :: l1 :: l2 :: l3 :: l4 :: l5 :: l6 :: l7 :: l8 :: l9 :: l10 :: l11 :: L) (iv x :: S) M := Z_store1 hk (i := 11) hm rfl (u1_11 h) (fun H locs ls ls' e kk => zs_istore hk ⟨_, rfl⟩ hd H locs ls ls' e kk) k
theorem Z_lload11 (hk : okK κ δ cc own mL ret rm) {x : Int} {l0 l1 l2 l3 l4 l5 l6 l7 l8 l9 l10 : Option Value} (hd : decode cc pc = .ok (.lload 11, 2)) (k : Zj κ δ ad rt Q mL ρ (pc + 2) (l0 :: l1 :: l2 :: l3 :: l4 :: l5 :: l6 :: l7 :: l8 :: l9 :: l10 :: some (jv x) :: L) (jv x :: S) M) : Zj κ δ ad rt Q mL ρ pc (l0 :: l1 :: l2 :: l3 :: l4 :: l5 :: l6 :: l7 :: l8 :: l9 :: l10 :: some (jv x) :: L) S M := fun H locs ls hw hs hl => lv_lload hk.1 hk.2.1 hd (hl.2.2 11 _ rfl) (k H locs ls hw hs hl)
theorem Z_lstore11 (hk : okK κ δ cc own mL ret rm) {x : Int} {l0 l1 l2 l3 l4 l5 l6 l7 l8 l9 l10 l11 l12 : Option Value} (h : nl l10 = true) (hm : 12 < mL) (hd : decode cc pc = .ok (.lstore 11, 2)) (k : Zj κ δ ad rt Q mL ρ (pc + 2) (l0 :: l1 :: l2 :: l3 :: l4 :: l5 :: l6 :: l7 :: l8 :: l9 :: l10 :: some (jv x) :: none :: L) S M) : Zj κ δ ad rt Q mL ρ pc (l0 :: l1 :: l2 :: l3 :: l4 :: l5 :: l6 :: l7 :: l8 :: l9 :: l10 :: l11 :: l12 :: L) (jv x :: S) M := Z_store2 hk (i := 11) hm rfl (u2_11 h) (fun H locs ls ls' e kk => zs_lstore hk ⟨_, rfl⟩ hd H locs ls ls' e kk) k
theorem Z_aload11 (hk : okK κ δ cc own mL ret rm) {x : Nat} {l0 l1 l2 l3 l4 l5 l6 l7 l8 l9 l10 : Option Value} (hd : decode cc pc = .ok (.aload 11, 2)) (k : Zj κ δ ad rt Q mL ρ (pc + 2) (l0 :: l1 :: l2 :: l3 :: l4 :: l5 :: l6 :: l7 :: l8 :: l9 :: l10 :: some (.ref x) :: L) (.ref x :: S) M) : Zj κ δ ad rt Q mL ρ pc (l0 :: l1 :: l2 :: l3 :: l4 :: l5 :: l6 :: l7 :: l8 :: l9 :: l10 :: some (.ref x) :: L) S M := fun H locs ls hw hs hl => lv_aload hk.1 hk.2.1 hd (hl.2.2 11 _ rfl) (k H locs ls hw hs hl)
theorem Z_astore11 (hk : okK κ δ cc own mL ret rm) {x : Nat} {l0 l1 l2 l3 l4 l5 l6 l7 l8 l9 l10 l11 : Option Value} (h : nl l10 = true) (hm : 11 < mL) (hd : decode cc pc = .ok (.astore 11, 2)) (k : Zj κ δ ad rt Q mL ρ (pc + 2) (l0 :: l1 :: l2 :: l3 :: l4 :: l5 :: l6 :: l7 :: l8 :: l9 :: l10 :: some (.ref x) :: L) S M) : Zj κ δ ad rt Q mL ρ pc (l0 :: l1 :: l2 :: l3 :: l4 :: l5 :: l6 :: l7 :: l8 :: l9 :: l10 :: l11 :: L) (.ref x :: S) M := Z_store1 hk (i := 11) hm rfl (u1_11 h) (fun H locs ls ls' e kk => zs_astore hk ⟨_, rfl⟩ hd H locs ls ls' e kk) k
theorem Z_drop11 {l0 l1 l2 l3 l4 l5 l6 l7 l8 l9 l10 l11 : Option Value} (k : Zj κ δ ad rt Q mL ρ pc (l0 :: l1 :: l2 :: l3 :: l4 :: l5 :: l6 :: l7 :: l8 :: l9 :: l10 :: none :: L) S M) : Zj κ δ ad rt Q mL ρ pc (l0 :: l1 :: l2 :: l3 :: l4 :: l5 :: l6 :: l7 :: l8 :: l9 :: l10 :: l11 :: L) S M := fun H locs ls hw hs hl => k H locs ls hw hs ⟨hl.1, hl.2.1, fun i v e => hl.2.2 i v (by
  match i, e with
  | 0, e => exact e
  | 1, e => exact e
  | 2, e => exact e
  | 3, e => exact e
  | 4, e => exact e
  | 5, e => exact e
  | 6, e => exact e
  | 7, e => exact e
  | 8, e => exact e
  | 9, e => exact e
  | 10, e => exact e
  | 11, e => exact absurd e (by simp)
  | j + 12, e => exact e)⟩
theorem Z_iinc11 (hk : okK κ δ cc own mL ret rm) {x n : Int} {l0 l1 l2 l3 l4 l5 l6 l7 l8 l9 l10 : Option Value} (h : nl l10 = true) (hm : 11 < mL) (hd : decode cc pc = .ok (.iinc 11 n, 3)) (k : Zj κ δ ad rt Q mL ρ (pc + 3) (l0 :: l1 :: l2 :: l3 :: l4 :: l5 :: l6 :: l7 :: l8 :: l9 :: l10 :: some (iv (x + n)) :: L) S M) : Zj κ δ ad rt Q mL ρ pc (l0 :: l1 :: l2 :: l3 :: l4 :: l5 :: l6 :: l7 :: l8 :: l9 :: l10 :: some (iv x) :: L) S M := by
  intro H locs ls hw hs hl
  have hg := hl.2.2 11 _ rfl
  obtain ⟨ls', e', h'⟩ := lcs_store1 (L' := l0 :: l1 :: l2 :: l3 :: l4 :: l5 :: l6 :: l7 :: l8 :: l9 :: l10 :: some (iv (x + n)) :: L) hl hm (v := iv (x + n)) rfl (u1_11 h)
  intro T hT X
  obtain ⟨t, a, b⟩ := k H locs ls' hw hs h' T hT X
  refine ⟨t, ?_, b⟩
  unfold iv at hg e'
  rw [← zI_add] at e'
  jvm_step X.here [X.here.top, ↓top_set X.here.top, hk.1, hk.2.1, hd, hg, e']
  exact a
theorem u1_12 {l0 l1 l2 l3 l4 l5 l6 l7 l8 l9 l10 l11 l12 : Option Value} {v : Value} (h : nl l11 = true) : upd1 (l0 :: l1 :: l2 :: l3 :: l4 :: l5 :: l6 :: l7 :: l8 :: l9 :: l10 :: l11 :: l12 :: L) 12 v (l0 :: l1 :: l2 :: l3 :: l4 :: l5 :: l6 :: l7 :: l8 :: l9 :: l10 :: l11 :: some v :: L) := by
  intro j w e
  match j, e with
  | 0, e => exact Or.inr ⟨by omega, e, by omega⟩
  | 1, e => exact Or.inr ⟨by omega, e, by omega⟩
  | 2, e => exact Or.inr ⟨by omega, e, by omega⟩
  | 3, e => exact Or.inr ⟨by omega, e, by omega⟩
  | 4, e => exact Or.inr ⟨by omega, e, by omega⟩
  | 5, e => exact Or.inr ⟨by omega, e, by omega⟩
  | 6, e => exact Or.inr ⟨by omega, e, by omega⟩
  | 7, e => exact Or.inr ⟨by omega, e, by omega⟩
  | 8, e => exact Or.inr ⟨by omega, e, by omega⟩
  | 9, e => exact Or.inr ⟨by omega, e, by omega⟩
  | 10, e => exact Or.inr ⟨by omega, e, by omega⟩
  | 11, e => exact Or.inr ⟨by omega, e, fun q => nl_no h e q.2⟩
  | 12, e => exact Or.inl ⟨rfl, (Option.some.inj (Option.some.inj e)).symm⟩
  | j + 13, e => exact Or.inr ⟨by omega, e, by omega⟩
theorem u2_12 {l0 l1 l2 l3 l4 l5 l6 l7 l8 l9 l10 l11 l12 l13 : Option Value} {v : Value} (h : nl l11 = true) : upd2 (l0 :: l1 :: l2 :: l3 :: l4 :: l5 :: l6 :: l7 :: l8 :: l9 :: l10 :: l11 :: l12 :: l13 :: L) 12 v (l0 :: l1 :: l2 :: l3 :: l4 :: l5 :: l6 :: l7 :: l8 :: l9 :: l10 :: l11 :: some v :: none :: L) := by
  intro j w e
  match j, e with
  | 0, e => exact Or.inr ⟨by omega, by omega, e, by omega⟩
  | 1, e => exact Or.inr ⟨by omega, by omega, e, by omega⟩
  | 2, e => exact Or.inr ⟨by omega, by omega, e, by omega⟩
  | 3, e => exact Or.inr ⟨by omega, by omega, e, by omega⟩
  | 4, e => exact Or.inr ⟨by omega, by omega, e, by omega⟩
  | 5, e => exact Or.inr ⟨by omega, by omega, e, by omega⟩
  | 6, e => exact Or.inr ⟨by omega, by omega, e, by omega⟩
  | 7, e => exact Or.inr ⟨by omega, by omega, e, by omega⟩
  | 8, e => exact Or.inr ⟨by omega, by omega, e, by omega⟩
  | 9, e => exact Or.inr ⟨by omega, by omega, e, by omega⟩
  | 10, e => exact Or.inr ⟨by omega, by omega, e, by omega⟩
  | 11, e => exact Or.inr ⟨by omega, by omega, e, fun q => nl_no h e q.2⟩
  | 12, e => exact Or.inl ⟨rfl, (Option.some.inj (Option.some.inj e)).symm⟩
  | 13, e => exact absurd e (by simp)
  | j + 14, e => exact Or.inr ⟨by omega, by omega, e, by omega⟩
theorem Z_iload12 (hk : okK κ δ cc own mL ret rm) {x : Int} {l0 l1 l2 l3 l4 l5 l6 l7 l8 l9 l10 l11 : Option Value} (hd : decode cc pc = .ok (.iload 12, 2)) (k : Zj κ δ ad rt Q mL ρ (pc + 2) (l0 :: l1 :: l2 :: l3 :: l4 :: l5 :: l6 :: l7 :: l8 :: l9 :: l10 :: l11 :: some (iv x) :: L) (iv x :: S) M) : Zj κ δ ad rt Q mL ρ pc (l0 :: l1 :: l2 :: l3 :: l4 :: l5 :: l6 :: l7 :: l8 :: l9 :: l10 :: l11 :: some (iv x) :: L) S M := fun H locs ls hw hs hl => lv_iload hk.1 hk.2.1 hd (hl.2.2 12 _ rfl) (k H locs ls hw hs hl)
theorem Z_istore12 (hk : okK κ δ cc own mL ret rm) {x : Int} {l0 l1 l2 l3 l4 l5 l6 l7 l8 l9 l10 l11 l12 : Option Value} (h : nl l11 = true) (hm : 12 < mL) (hd : decode cc pc = .ok (.istore 12, 2)) (k : Zj κ δ ad rt Q mL ρ (pc + 2) (l0 :: l1 :: l2 :: l3 :: l4 :: l5 :: l6 :: l7 :: l8 :: l9 :: l10 :: l11 :: some (iv x) :: L) S M) : Zj κ δ ad rt Q mL ρ pc (l0 :: l1 :: l2 :: l3 :: l4 :: l5 :: l6 :: l7 :: l8 :: l9 :: l10 :: l11 :: l12 :: L) (iv x :: S) M := Z_store1 hk (i := 12) hm rfl (u1_12 h) (fun H locs ls ls' e kk => zs_istore hk ⟨_, rfl⟩ hd H locs ls ls' e kk) k
theorem Z_lload12 (hk : okK κ δ cc own mL ret rm) {x : Int} {l0 l1 l2 l3 l4 l5 l6 l7 l8 l9 l10 l11 : Option Value} (hd : decode cc pc = .ok (.lload 12, 2)) (k : Zj κ δ ad rt Q mL ρ (pc + 2) (l0 :: l1 :: l2 :: l3 :: l4 :: l5 :: l6 :: l7 :: l8 :: l9 :: l10 :: l11 :: some (jv x) :: L) (jv x :: S) M) : Zj κ δ ad rt Q mL ρ pc (l0 :: l1 :: l2 :: l3 :: l4 :: l5 :: l6 :: l7 :: l8 :: l9 :: l10 :: l11 :: some (jv x) :: L) S M := fun H locs ls hw hs hl => lv_lload hk.1 hk.2.1 hd (hl.2.2 12 _ rfl) (k H locs ls hw hs hl)
theorem Z_lstore12 (hk : okK κ δ cc own mL ret rm) {x : Int} {l0 l1 l2 l3 l4 l5 l6 l7 l8 l9 l10 l11 l12 l13 : Option Value} (h : nl l11 = true) (hm : 13 < mL) (hd : decode cc pc = .ok (.lstore 12, 2)) (k : Zj κ δ ad rt Q mL ρ (pc + 2) (l0 :: l1 :: l2 :: l3 :: l4 :: l5 :: l6 :: l7 :: l8 :: l9 :: l10 :: l11 :: some (jv x) :: none :: L) S M) : Zj κ δ ad rt Q mL ρ pc (l0 :: l1 :: l2 :: l3 :: l4 :: l5 :: l6 :: l7 :: l8 :: l9 :: l10 :: l11 :: l12 :: l13 :: L) (jv x :: S) M := Z_store2 hk (i := 12) hm rfl (u2_12 h) (fun H locs ls ls' e kk => zs_lstore hk ⟨_, rfl⟩ hd H locs ls ls' e kk) k
theorem Z_aload12 (hk : okK κ δ cc own mL ret rm) {x : Nat} {l0 l1 l2 l3 l4 l5 l6 l7 l8 l9 l10 l11 : Option Value} (hd : decode cc pc = .ok (.aload 12, 2)) (k : Zj κ δ ad rt Q mL ρ (pc + 2) (l0 :: l1 :: l2 :: l3 :: l4 :: l5 :: l6 :: l7 :: l8 :: l9 :: l10 :: l11 :: some (.ref x) :: L) (.ref x :: S) M) : Zj κ δ ad rt Q mL ρ pc (l0 :: l1 :: l2 :: l3 :: l4 :: l5 :: l6 :: l7 :: l8 :: l9 :: l10 :: l11 :: some (.ref x) :: L) S M := fun H locs ls hw hs hl => lv_aload hk.1 hk.2.1 hd (hl.2.2 12 _ rfl) (k H locs ls hw hs hl)
theorem Z_astore12 (hk : okK κ δ cc own mL ret rm) {x : Nat} {l0 l1 l2 l3 l4 l5 l6 l7 l8 l9 l10 l11 l12 : Option Value} (h : nl l11 = true) (hm : 12 < mL) (hd : decode cc pc = .ok (.astore 12, 2)) (k : Zj κ δ ad rt Q mL ρ (pc + 2) (l0 :: l1 :: l2 :: l3 :: l4 :: l5 :: l6 :: l7 :: l8 :: l9 :: l10 :: l11 :: some (.ref x) :: L) S M) : Zj κ δ ad rt Q mL ρ pc (l0 :: l1 :: l2 :: l3 :: l4 :: l5 :: l6 :: l7 :: l8 :: l9 :: l10 :: l11 :: l12 :: L) (.ref x :: S) M := Z_store1 hk (i := 12) hm rfl (u1_12 h) (fun H locs ls ls' e kk => zs_astore hk ⟨_, rfl⟩ hd H locs ls ls' e kk) k
theorem Z_drop12 {l0 l1 l2 l3 l4 l5 l6 l7 l8 l9 l10 l11 l12 : Option Value} (k : Zj κ δ ad rt Q mL ρ pc (l0 :: l1 :: l2 :: l3 :: l4 :: l5 :: l6 :: l7 :: l8 :: l9 :: l10 :: l11 :: none :: L) S M) : Zj κ δ ad rt Q mL ρ pc (l0 :: l1 :: l2 :: l3 :: l4 :: l5 :: l6 :: l7 :: l8 :: l9 :: l10 :: l11 :: l12 :: L) S M := fun H locs ls hw hs hl => k H locs ls hw hs ⟨hl.1, hl.2.1, fun i v e => hl.2.2 i v (by
  match i, e with
  | 0, e => exact e
  | 1, e => exact e
  | 2, e => exact e
  | 3, e => exact e
  | 4, e => exact e
  | 5, e => exact e
  | 6, e => exact e
  | 7, e => exact e
  | 8, e => exact e
  | 9, e => exact e
  | 10, e => exact e
  | 11, e => exact e
  | 12, e => exact absurd e (by simp)
  | j + 13, e => exact e)⟩
theorem Z_iinc12 (hk : okK κ δ cc own mL ret rm) {x n : Int} {l0 l1 l2 l3 l4 l5 l6 l7 l8 l9 l10 l11 : Option Value} (h : nl l11 = true) (hm : 12 < mL) (hd : decode cc pc = .ok (.iinc 12 n, 3)) (k : Zj κ δ ad rt Q mL ρ (pc + 3) (l0 :: l1 :: l2 :: l3 :: l4 :: l5 :: l6 :: l7 :: l8 :: l9 :: l10 :: l11 :: some (iv (x + n)) :: L) S M) : Zj κ δ ad rt Q mL ρ pc (l0 :: l1 :: l2 :: l3 :: l4 :: l5 :: l6 :: l7 :: l8 :: l9 :: l10 :: l11 :: some (iv x) :: L) S M := by
  intro H locs ls hw hs hl
  have hg := hl.2.2 12 _ rfl
  obtain ⟨ls', e', h'⟩ := lcs_store1 (L' := l0 :: l1 :: l2 :: l3 :: l4 :: l5 :: l6 :: l7 :: l8 :: l9 :: l10 :: l11 :: some (iv (x + n)) :: L) hl hm (v := iv (x + n)) rfl (u1_12 h)
  intro T hT X
  obtain ⟨t, a, b⟩ := k H locs ls' hw hs h' T hT X
  refine ⟨t, ?_, b⟩
  unfold iv at hg e'
  rw [← zI_add] at e'
  jvm_step X.here [X.here.top, ↓top_set X.here.top, hk.1, hk.2.1, hd, hg, e']
  exact a
theorem u1_13 {l0 l1 l2 l3 l4 l5 l6 l7 l8 l9 l10 l11 l12 l13 : Option Value} {v : Value} (h : nl l12 = true) : upd1 (l0 :: l1 :: l2 :: l3 :: l4 :: l5 :: l6 :: l7 :: l8 :: l9 :: l10 :: l11 :: l12 :: l13 :: L) 13 v (l0 :: l1 :: l2 :: l3 :: l4 :: l5 :: l6 :: l7 :: l8 :: l9 :: l10 :: l11 :: l12 :: some v :: L) := by
  intro j w e
  match j, e with
  | 0, e => exact Or.inr ⟨by omega, e, by omega⟩
  | 1, e => exact Or.inr ⟨by omega, e, by omega⟩
  | 2, e => exact Or.inr ⟨by omega, e, by omega⟩
  | 3, e => exact Or.inr ⟨by omega, e, by omega⟩
  | 4, e => exact Or.inr ⟨by omega, e, by omega⟩
  | 5, e => exact Or.inr ⟨by omega, e, by omega⟩
  | 6, e => exact Or.inr ⟨by omega, e, by omega⟩
  | 7, e => exact Or.inr ⟨by omega, e, by omega⟩
  | 8, e => exact Or.inr ⟨by omega, e, by omega⟩
  | 9, e => exact Or.inr ⟨by omega, e, by omega⟩
  | 10, e => exact Or.inr ⟨by omega, e, by omega⟩
  | 11, e => exact Or.inr ⟨by omega, e, by omega⟩
  | 12, e => exact Or.inr ⟨by omega, e, fun q => nl_no h e q.2⟩
  | 13, e => exact Or.inl ⟨rfl, (Option.some.inj (Option.some.inj e)).symm⟩
  | j + 14, e => exact Or.inr ⟨by omega, e, by omega⟩
theorem u2_13 {l0 l1 l2 l3 l4 l5 l6 l7 l8 l9 l10 l11 l12 l13 l14 : Option Value} {v : Value} (h : nl l12 = true) : upd2 (l0 :: l1 :: l2 :: l3 :: l4 :: l5 :: l6 :: l7 :: l8 :: l9 :: l10 :: l11 :: l12 :: l13 :: l14 :: L) 13 v (l0 :: l1 :: l2 :: l3 :: l4 :: l5 :: l6 :: l7 :: l8 :: l9 :: l10 :: l11 :: l12 :: some v :: none :: L) := by
  intro j w e
  match j, e with
  | 0, e => exact Or.inr ⟨by omega, by omega, e, by omega⟩
  | 1, e => exact Or.inr ⟨by omega, by omega, e, by omega⟩
  | 2, e => exact Or.inr ⟨by omega, by omega, e, by omega⟩
  | 3, e => exact Or.inr ⟨by omega, by omega, e, by omega⟩
  | 4, e => exact Or.inr ⟨by omega, by omega, e, by omega⟩
  | 5, e => exact Or.inr ⟨by omega, by omega, e, by omega⟩
  | 6, e => exact Or.inr ⟨by omega, by omega, e, by omega⟩
  | 7, e => exact Or.inr ⟨by omega, by omega, e, by omega⟩
  | 8, e => exact Or.inr ⟨by omega, by omega, e, by omega⟩
  | 9, e => exact Or.inr ⟨by omega, by omega, e, by omega⟩
  | 10, e => exact Or.inr ⟨by omega, by omega, e, by omega⟩
  | 11, e => exact Or.inr ⟨by omega, by omega, e, by omega⟩
  | 12, e => exact Or.inr ⟨by omega, by omega, e, fun q => nl_no h e q.2⟩
  | 13, e => exact Or.inl ⟨rfl, (Option.some.inj (Option.some.inj e)).symm⟩
  | 14, e => exact absurd e (by simp)
  | j + 15, e => exact Or.inr ⟨by omega, by omega, e, by omega⟩
theorem Z_iload13 (hk : okK κ δ cc own mL ret rm) {x : Int} {l0 l1 l2 l3 l4 l5 l6 l7 l8 l9 l10 l11 l12 : Option Value} (hd : decode cc pc = .ok (.iload 13, 2)) (k : Zj κ δ ad rt Q mL ρ (pc + 2) (l0 :: l1 :: l2 :: l3 :: l4 :: l5 :: l6 :: l7 :: l8 :: l9 :: l10 :: l11 :: l12 :: some (iv x) :: L) (iv x :: S) M) : Zj κ δ ad rt Q mL ρ pc (l0 :: l1 :: l2 :: l3 :: l4 :: l5 :: l6 :: l7 :: l8 :: l9 :: l10 :: l11 :: l12 :: some (iv x) :: L) S M := fun H locs ls hw hs hl => lv_iload hk.1 hk.2.1 hd (hl.2.2 13 _ rfl) (k H locs ls hw hs hl)
theorem Z_istore13 (hk : okK κ δ cc own mL ret rm) {x : Int} {l0 l1 l2 l3 l4 l5 l6 l7 l8 l9 l10 l11 l12 l13 : Option Value} (h : nl l12 = true) (hm : 13 < mL) (hd : decode cc pc = .ok (.istore 13, 2)) (k : Zj κ δ ad rt Q mL ρ (pc + 2) (l0 :: l1 :: l2 :: l3 :: l4 :: l5 :: l6 :: l7 :: l8 :: l9 :: l10 :: l11 :: l12 :: some (iv x) :: L) S M) : Zj κ δ ad rt Q mL ρ pc (l0 :: l1 :: l2 :: l3 :: l4 :: l5 :: l6 :: l7 :: l8 :: l9 :: l10 :: l11 :: l12 :: l13 :: L) (iv x :: S) M := Z_store1 hk (i := 13) hm rfl (u1_13 h) (fun H locs ls ls' e kk => zs_istore hk ⟨_, rfl⟩ hd H locs ls ls' e kk) k
theorem Z_lload13 (hk : okK κ δ cc own mL ret rm) {x : Int} {l0 l1 l2 l3 l4 l5 l6 l7 l8 l9 l10 l11 l12 : Option Value} (hd : decode cc pc = .ok (.lload 13, 2)) (k : Zj κ δ ad rt Q mL ρ (pc + 2) (l0 :: l1 :: l2 :: l3 :: l4 :: l5 :: l6 :: l7 :: l8 :: l9 :: l10 :: l11 :: l12 :: some (jv x) :: L) (jv x :: S) M) : Zj κ δ ad rt Q mL ρ pc (l0 :: l1 :: l2 :: l3 :: l4 :: l5 :: l6 :: l7 :: l8 :: l9 :: l10 :: l11 :: l12 :: some (jv x) :: L) S M := fun H locs ls hw hs hl => lv_lload hk.1 hk.2.1 hd (hl.2.2 13 _ rfl) (k H locs ls hw hs hl)
theorem Z_lstore13 (hk : okK κ δ cc own mL ret rm) {x : Int} {l0 l1 l2 l3 l4 l5 l6 l7 l8 l9 l10 l11 l12 l13 l14 : Option Value} (h : nl l12 = true) (hm : 14 < mL) (hd : decode cc pc = .ok (.lstore 13, 2)) (k : Zj κ δ ad rt Q mL ρ (pc + 2) (l0 :: l1 :: l2 :: l3 :: l4 :: l5 :: l6 :: l7 :: l8 :: l9 :: l10 :: l11 :: l12 :: some (jv x) :: none :: L) S M) : Zj κ δ ad rt Q mL ρ pc (l0 :: l1 :: l2 :: l3 :: l4 :: l5 :: l6 :: l7 :: l8 :: l9 :: l10 :: l11 :: l12 :: l13 :: l14 :: L) (jv x :: S) M := Z_store2 hk (i := 13) hm rfl (u2_13 h) (fun H locs ls ls' e kk => zs_lstore hk ⟨_, rfl⟩ hd H locs ls ls' e kk) k
theorem Z_aload13 (hk : okK κ δ cc own mL ret rm) {x : Nat} {l0 l1 l2 l3 l4 l5 l6 l7 l8 l9 l10 l11 l12 : Option Value} (hd : decode cc pc = .ok (.aload 13, 2)) (k : Zj κ δ ad rt Q mL ρ (pc + 2) (l0 :: l1 :: l2 :: l3 :: l4 :: l5 :: l6 :: l7 :: l8 :: l9 :: l10 :: l11 :: l12 :: some (.ref x) :: L) (.ref x :: S) M) : Zj κ δ ad rt Q mL ρ pc (l0 :: l1 :: l2 :: l3 :: l4 :: l5 :: l6 :: l7 :: l8 :: l9 :: l10 :: l11 :: l12 :: some (.ref x) :: L) S M := fun H locs ls hw hs hl => lv_aload hk.1 hk.2.1 hd (hl.2.2 13 _ rfl) (k H locs ls hw hs hl)
theorem Z_astore13 (hk : okK κ δ cc own mL ret rm) {x : Nat} {l0 l1 l2 l3 l4 l5 l6 l7 l8 l9 l10 l11 l12 l13 : Option Value} (h : nl l12 = true) (hm : 13 < mL) (hd : decode cc pc = .ok (.astore 13, 2)) (k : Zj κ δ ad rt Q mL ρ (pc + 2) (l0 :: l1 :: l2 :: l3 :: l4 :: l5 :: l6 :: l7 :: l8 :: l9 :: l10 :: l11 :: l12 :: some (.ref x) :: L) S M) : Zj κ δ ad rt Q mL ρ pc (l0 :: l1 :: l2 :: l3 :: l4 :: l5 :: l6 :: l7 :: l8 :: l9 :: l10 :: l11 :: l12 :: l13 :: L) (.ref x :: S) M := Z_store1 hk (i := 13) hm rfl (u1_13 h) (fun H locs ls ls' e kk => zs_astore hk ⟨_, rfl⟩ hd H locs ls ls' e kk) k
theorem Z_drop13 {l0 l1 l2 l3 l4 l5 l6 l7 l8 l9 l10 l11 l12 l13 : Option Value} (k : Zj κ δ ad rt Q mL ρ pc (l0 :: l1 :: l2 :: l3 :: l4 :: l5 :: l6 :: l7 :: l8 :: l9 :: l10 :: l11 :: l12 :: none :: L) S M) : Zj κ δ ad rt Q mL ρ pc (l0 :: l1 :: l2 :: l3 :: l4 :: l5 :: l6 :: l7 :: l8 :: l9 :: l10 :: l11 :: l12 :: l13 :: L) S M := fun H locs ls hw hs hl => k H locs ls hw hs ⟨hl.1, hl.2.1, fun i v e => hl.2.2 i v (by
  match i, e with
  | 0, e => exact e
  | 1, e => exact e
  | 2, e => exact e
  | 3, e => exact e
  | 4, e => exact e
  | 5, e => exact e
  | 6, e => exact e
  | 7, e => exact e
  | 8, e => exact e
  | 9, e => exact e
  | 10, e => exact e
  | 11, e => exact e
  | 12, e => exact e
  | 13, e => exact absurd e (by simp)
  | j + 14, e => exact e)⟩
theorem Z_iinc13 (hk : okK κ δ cc own mL ret rm) {x n : Int} {l0 l1 l2 l3 l4 l5 l6 l7 l8 l9 l10 l11 l12 : Option Value} (h : nl l12 = true) (hm : 13 < mL) (hd : decode cc pc = .ok (.iinc 13 n, 3)) (k : Zj κ δ ad rt Q mL ρ (pc + 3) (l0 :: l1 :: l2 :: l3 :: l4 :: l5 :: l6 :: l7 :: l8 :: l9 :: l10 :: l11 :: l12 :: some (iv (x + n)) :: L) S M) : Zj κ δ ad rt Q mL ρ pc (l0 :: l1 :: l2 :: l3 :: l4 :: l5 :: l6 :: l7 :: l8 :: l9 :: l10 :: l11 :: l12 :: some (iv x) :: L) S M := by
  intro H locs ls hw hs hl
  have hg := hl.2.2 13 _ rfl
  obtain ⟨ls', e', h'⟩ := lcs_store1 (L' := l0 :: l1 :: l2 :: l3 :: l4 :: l5 :: l6 :: l7 :: l8 :: l9 :: l10 :: l11 :: l12 :: some (iv (x + n)) :: L) hl hm (v := iv (x + n)) rfl (u1_13 h)
  intro T hT X
  obtain ⟨t, a, b⟩ := k H locs ls' hw hs h' T hT X
  refine ⟨t, ?_, b⟩
  unfold iv at hg e'
  rw [← zI_add] at e'
  jvm_step X.here [X.here.top, ↓top_set X.here.top, hk.1, hk.2.1, hd, hg, e']
  exact a
theorem Z_iadd (hk : okK κ δ cc own mL ret rm) {x y : Int} (hd : decode cc pc = .ok (.iadd, 1)) (k : Zj κ δ ad rt Q mL ρ (pc + 1) L (iv (x + y) :: S) M) : Zj κ δ ad rt Q mL ρ pc L (iv y :: iv x :: S) M := by
  intro H locs ls hw hs hl
  refine lv_iadd hk.1 hk.2.1 hd ?_
  rw [zI_add]
  exact k H locs ls hw hs hl
theorem Z_isub (hk : okK κ δ cc own mL ret rm) {x y : Int} (hd : decode cc pc = .ok (.isub, 1)) (k : Zj κ δ ad rt Q mL ρ (pc + 1) L (iv (x - y) :: S) M) : Zj κ δ ad rt Q mL ρ pc L (iv y :: iv x :: S) M := by
  intro H locs ls hw hs hl
  refine lv_isub hk.1 hk.2.1 hd ?_
  rw [zI_sub]
  exact k H locs ls hw hs hl
theorem Z_imul (hk : okK κ δ cc own mL ret rm) {x y : Int} (hd : decode cc pc = .ok (.imul, 1)) (k : Zj κ δ ad rt Q mL ρ (pc + 1) L (iv (x * y) :: S) M) : Zj κ δ ad rt Q mL ρ pc L (iv y :: iv x :: S) M := by
  intro H locs ls hw hs hl
  refine lv_imul hk.1 hk.2.1 hd ?_
  rw [zI_mul]
  exact k H locs ls hw hs hl
theorem Z_ladd (hk : okK κ δ cc own mL ret rm) {x y : Int} (hd : decode cc pc = .ok (.ladd, 1)) (k : Zj κ δ ad rt Q mL ρ (pc + 1) L (jv (x + y) :: S) M) : Zj κ δ ad rt Q mL ρ pc L (jv y :: jv x :: S) M := by
  intro H locs ls hw hs hl
  refine lv_ladd hk.1 hk.2.1 hd ?_
  rw [zJ_add]
  exact k H locs ls hw hs hl
theorem Z_lsub (hk : okK κ δ cc own mL ret rm) {x y : Int} (hd : decode cc pc = .ok (.lsub, 1)) (k : Zj κ δ ad rt Q mL ρ (pc + 1) L (jv (x - y) :: S) M) : Zj κ δ ad rt Q mL ρ pc L (jv y :: jv x :: S) M := by
  intro H locs ls hw hs hl
  refine lv_lsub hk.1 hk.2.1 hd ?_
  rw [zJ_sub]
  exact k H locs ls hw hs hl
theorem Z_lmul (hk : okK κ δ cc own mL ret rm) {x y : Int} (hd : decode cc pc = .ok (.lmul, 1)) (k : Zj κ δ ad rt Q mL ρ (pc + 1) L (jv (x * y) :: S) M) : Zj κ δ ad rt Q mL ρ pc L (jv y :: jv x :: S) M := by
  intro H locs ls hw hs hl
  refine lv_lmul hk.1 hk.2.1 hd ?_
  rw [zJ_mul]
  exact k H locs ls hw hs hl
theorem Z_icmp_lt (hk : okK κ δ cc own mL ret rm) {x y off : Int} {tgt : Nat} (hd : decode cc pc = .ok (.if_icmp .lt off, 3)) (ht : (pc : Int) + off = (tgt : Int)) (x1 : -2147483648 ≤ x) (x2 : x ≤ 2147483647) (y1 : -2147483648 ≤ y) (y2 : y ≤ 2147483647) (k1 : x < y → Zj κ δ ad rt Q mL ρ tgt L S M) (k2 : y ≤ x → Zj κ δ ad rt Q mL ρ (pc + 3) L S M) : Zj κ δ ad rt Q mL ρ pc L (iv y :: iv x :: S) M :=
  fun H locs ls hw hs hl => lv_icmp_lt hk.1 hk.2.1 hd ht (fun h => k1 ((zI_lt x1 x2 y1 y2).mp h) H locs ls hw hs hl) (fun h => k2 (Int.not_lt.mp (fun q => h ((zI_lt x1 x2 y1 y2).mpr q))) H locs ls hw hs hl)
theorem Z_if_lt (hk : okK κ δ cc own mL ret rm) {x off : Int} {tgt : Nat} (hd : decode cc pc = .ok (.ifCond .lt off, 3)) (ht : (pc : Int) + off = (tgt : Int)) (x1 : -2147483648 ≤ x) (x2 : x ≤ 2147483647) (k1 : x < 0 → Zj κ δ ad rt Q mL ρ tgt L S M) (k2 : 0 ≤ x → Zj κ δ ad rt Q mL ρ (pc + 3) L S M) : Zj κ δ ad rt Q mL ρ pc L (iv x :: S) M :=
  have y1 : (-2147483648 : Int) ≤ 0 := by decide
  have y2 : (0 : Int) ≤ 2147483647 := by decide
  fun H locs ls hw hs hl => lv_if_lt hk.1 hk.2.1 hd ht (fun h => k1 ((zI_lt x1 x2 y1 y2).mp h) H locs ls hw hs hl) (fun h => k2 (Int.not_lt.mp (fun q => h ((zI_lt x1 x2 y1 y2).mpr q))) H locs ls hw hs hl)
theorem Z_icmp_ge (hk : okK κ δ cc own mL ret rm) {x y off : Int} {tgt : Nat} (hd : decode cc pc = .ok (.if_icmp .ge off, 3)) (ht : (pc : Int) + off = (tgt : Int)) (x1 : -2147483648 ≤ x) (x2 : x ≤ 2147483647) (y1 : -2147483648 ≤ y) (y2 : y ≤ 2147483647) (k1 : y ≤ x → Zj κ δ ad rt Q mL ρ tgt L S M) (k2 : x < y → Zj κ δ ad rt Q mL ρ (pc + 3) L S M) : Zj κ δ ad rt Q mL ρ pc L (iv y :: iv x :: S) M :=
  fun H locs ls hw hs hl => lv_icmp_ge hk.1 hk.2.1 hd ht (fun h => k1 ((zI_le y1 y2 x1 x2).mp h) H locs ls hw hs hl) (fun h => k2 (Int.not_le.mp (fun q => h ((zI_le y1 y2 x1 x2).mpr q))) H locs ls hw hs hl)
theorem Z_if_ge (hk : okK κ δ cc own mL ret rm) {x off : Int} {tgt : Nat} (hd : decode cc pc = .ok (.ifCond .ge off, 3)) (ht : (pc : Int) + off = (tgt : Int)) (x1 : -2147483648 ≤ x) (x2 : x ≤ 2147483647) (k1 : 0 ≤ x → Zj κ δ ad rt Q mL ρ tgt L S M) (k2 : x < 0 → Zj κ δ ad rt Q mL ρ (pc + 3) L S M) : Zj κ δ ad rt Q mL ρ pc L (iv x :: S) M :=
  have y1 : (-2147483648 : Int) ≤ 0 := by decide
  have y2 : (0 : Int) ≤ 2147483647 := by decide
  fun H locs ls hw hs hl => lv_if_ge hk.1 hk.2.1 hd ht (fun h => k1 ((zI_le y1 y2 x1 x2).mp h) H locs ls hw hs hl) (fun h => k2 (Int.not_le.mp (fun q => h ((zI_le y1 y2 x1 x2).mpr q))) H locs ls hw hs hl)
theorem Z_icmp_gt (hk : okK κ δ cc own mL ret rm) {x y off : Int} {tgt : Nat} (hd : decode cc pc = .ok (.if_icmp .gt off, 3)) (ht : (pc : Int) + off = (tgt : Int)) (x1 : -2147483648 ≤ x) (x2 : x ≤ 2147483647) (y1 : -2147483648 ≤ y) (y2 : y ≤ 2147483647) (k1 : y < x → Zj κ δ ad rt Q mL ρ tgt L S M) (k2 : x ≤ y → Zj κ δ ad rt Q mL ρ (pc + 3) L S M) : Zj κ δ ad rt Q mL ρ pc L (iv y :: iv x :: S) M :=
  fun H locs ls hw hs hl => lv_icmp_gt hk.1 hk.2.1 hd ht (fun h => k1 ((zI_lt y1 y2 x1 x2).mp h) H locs ls hw hs hl) (fun h => k2 (Int.not_lt.mp (fun q => h ((zI_lt y1 y2 x1 x2).mpr q))) H locs ls hw hs hl)
theorem Z_if_gt (hk : okK κ δ cc own mL ret rm) {x off : Int} {tgt : Nat} (hd : decode cc pc = .ok (.ifCond .gt off, 3)) (ht : (pc : Int) + off = (tgt : Int)) (x1 : -2147483648 ≤ x) (x2 : x ≤ 2147483647) (k1 : 0 < x → Zj κ δ ad rt Q mL ρ tgt L S M) (k2 : x ≤ 0 → Zj κ δ ad rt Q mL ρ (pc + 3) L S M) : Zj κ δ ad rt Q mL ρ pc L (iv x :: S) M :=
  have y1 : (-2147483648 : Int) ≤ 0 := by decide
  have y2 : (0 : Int) ≤ 2147483647 := by decide
  fun H locs ls hw hs hl => lv_if_gt hk.1 hk.2.1 hd ht (fun h => k1 ((zI_lt y1 y2 x1 x2).mp h) H locs ls hw hs hl) (fun h => k2 (Int.not_lt.mp (fun q => h ((zI_lt y1 y2 x1 x2).mpr q))) H locs ls hw hs hl)
theorem Z_icmp_le (hk : okK κ δ cc own mL ret rm) {x y off : Int} {tgt : Nat} (hd : decode cc pc = .ok (.if_icmp .le off, 3)) (ht : (pc : Int) + off = (tgt : Int)) (x1 : -2147483648 ≤ x) (x2 : x ≤ 2147483647) (y1 : -2147483648 ≤ y) (y2 : y ≤ 2147483647) (k1 : x ≤ y → Zj κ δ ad rt Q mL ρ tgt L S M) (k2 : y < x → Zj κ δ ad rt Q mL ρ (pc + 3) L S M) : Zj κ δ ad rt Q mL ρ pc L (iv y :: iv x :: S) M :=
  fun H locs ls hw hs hl => lv_icmp_le hk.1 hk.2.1 hd ht (fun h => k1 ((zI_le x1 x2 y1 y2).mp h) H locs ls hw hs hl) (fun h => k2 (Int.not_le.mp (fun q => h ((zI_le x1 x2 y1 y2).mpr q))) H locs ls hw hs hl)
theorem Z_if_le (hk : okK κ δ cc own mL ret rm) {x off : Int} {tgt : Nat} (hd : decode cc pc = .ok (.ifCond .le off, 3)) (ht : (pc : Int) + off = (tgt : Int)) (x1 : -2147483648 ≤ x) (x2 : x ≤ 2147483647) (k1 : x ≤ 0 → Zj κ δ ad rt Q mL ρ tgt L S M) (k2 : 0 < x → Zj κ δ ad rt Q mL ρ (pc + 3) L S M) : Zj κ δ ad rt Q mL ρ pc L (iv x :: S) M :=
  have y1 : (-2147483648 : Int) ≤ 0 := by decide
  have y2 : (0 : Int) ≤ 2147483647 := by decide
  fun H locs ls hw hs hl => lv_if_le hk.1 hk.2.1 hd ht (fun h => k1 ((zI_le x1 x2 y1 y2).mp h) H locs ls hw hs hl) (fun h => k2 (Int.not_le.mp (fun q => h ((zI_le x1 x2 y1 y2).mpr q))) H locs ls hw hs hl)
theorem Z_icmp_eq (hk : okK κ δ cc own mL ret rm) {x y off : Int} {tgt : Nat} (hd : decode cc pc = .ok (.if_icmp .eq off, 3)) (ht : (pc : Int) + off = (tgt : Int)) (x1 : -2147483648 ≤ x) (x2 : x ≤ 2147483647) (y1 : -2147483648 ≤ y) (y2 : y ≤ 2147483647) (k1 : x = y → Zj κ δ ad rt Q mL ρ tgt L S M) (k2 : x ≠ y → Zj κ δ ad rt Q mL ρ (pc + 3) L S M) : Zj κ δ ad rt Q mL ρ pc L (iv y :: iv x :: S) M :=
  fun H locs ls hw hs hl => lv_icmp_eq hk.1 hk.2.1 hd ht (fun h => k1 ((zI_eq x1 x2 y1 y2).mp h) H locs ls hw hs hl) (fun h => k2 (fun q => h ((zI_eq x1 x2 y1 y2).mpr q)) H locs ls hw hs hl)
theorem Z_if_eq (hk : okK κ δ cc own mL ret rm) {x off : Int} {tgt : Nat} (hd : decode cc pc = .ok (.ifCond .eq off, 3)) (ht : (pc : Int) + off = (tgt : Int)) (x1 : -2147483648 ≤ x) (x2 : x ≤ 2147483647) (k1 : x = 0 → Zj κ δ ad rt Q mL ρ tgt L S M) (k2 : x ≠ 0 → Zj κ δ ad rt Q mL ρ (pc + 3) L S M) : Zj κ δ ad rt Q mL ρ pc L (iv x :: S) M :=
  have y1 : (-2147483648 : Int) ≤ 0 := by decide
  have y2 : (0 : Int) ≤ 2147483647 := by decide
  fun H locs ls hw hs hl => lv_if_eq hk.1 hk.2.1 hd ht (fun h => k1 ((zI_eq x1 x2 y1 y2).mp h) H locs ls hw hs hl) (fun h => k2 (fun q => h ((zI_eq x1 x2 y1 y2).mpr q)) H locs ls hw hs hl)
theorem Z_icmp_ne (hk : okK κ δ cc own mL ret rm) {x y off : Int} {tgt : Nat} (hd : decode cc pc = .ok (.if_icmp .ne off, 3)) (ht : (pc : Int) + off = (tgt : Int)) (x1 : -2147483648 ≤ x) (x2 : x ≤ 2147483647) (y1 : -2147483648 ≤ y) (y2 : y ≤ 2147483647) (k1 : x ≠ y → Zj κ δ ad rt Q mL ρ tgt L S M) (k2 : x = y → Zj κ δ ad rt Q mL ρ (pc + 3) L S M) : Zj κ δ ad rt Q mL ρ pc L (iv y :: iv x :: S) M :=
  fun H locs ls hw hs hl => lv_icmp_ne hk.1 hk.2.1 hd ht (fun h => k1 (fun q => h ((zI_eq x1 x2 y1 y2).mpr q)) H locs ls hw hs hl) (fun h => k2 ((zI_eq x1 x2 y1 y2).mp h) H locs ls hw hs hl)
theorem Z_if_ne (hk : okK κ δ cc own mL ret rm) {x off : Int} {tgt : Nat} (hd : decode cc pc = .ok (.ifCond .ne off, 3)) (ht : (pc : Int) + off = (tgt : Int)) (x1 : -2147483648 ≤ x) (x2 : x ≤ 2147483647) (k1 : x ≠ 0 → Zj κ δ ad rt Q mL ρ tgt L S M) (k2 : x = 0 → Zj κ δ ad rt Q mL ρ (pc + 3) L S M) : Zj κ δ ad rt Q mL ρ pc L (iv x :: S) M :=
  have y1 : (-2147483648 : Int) ≤ 0 := by decide
  have y2 : (0 : Int) ≤ 2147483647 := by decide
  fun H locs ls hw hs hl => lv_if_ne hk.1 hk.2.1 hd ht (fun h => k1 (fun q => h ((zI_eq x1 x2 y1 y2).mpr q)) H locs ls hw hs hl) (fun h => k2 ((zI_eq x1 x2 y1 y2).mp h) H locs ls hw hs hl)
theorem Z_goto (hk : okK κ δ cc own mL ret rm) {off : Int} {tgt : Nat} (hd : decode cc pc = .ok (.goto off, 3)) (ht : (pc : Int) + off = (tgt : Int)) (k : Zj κ δ ad rt Q mL ρ tgt L S M) : Zj κ δ ad rt Q mL ρ pc L S M := fun H locs ls hw hs hl => lv_goto hk.1 hk.2.1 hd ht (k H locs ls hw hs hl)
theorem Z_iconst (hk : okK κ δ cc own mL ret rm) {n : Int} (hd : decode cc pc = .ok (.iconst n, 1)) (k : Zj κ δ ad rt Q mL ρ (pc + 1) L (iv n :: S) M) : Zj κ δ ad rt Q mL ρ pc L S M := fun H locs ls hw hs hl => lv_iconst hk.1 hk.2.1 hd rfl (k H locs ls hw hs hl)
theorem Z_bipush (hk : okK κ δ cc own mL ret rm) {n : Int} (hd : decode cc pc = .ok (.bipush n, 2)) (hn : (Int8.ofInt n).toInt32 = Int32.ofInt n) (k : Zj κ δ ad rt Q mL ρ (pc + 2) L (iv n :: S) M) : Zj κ δ ad rt Q mL ρ pc L S M := fun H locs ls hw hs hl => lv_bipush hk.1 hk.2.1 hd hn (k H locs ls hw hs hl)
theorem Z_sipush (hk : okK κ δ cc own mL ret rm) {n : Int} (hd : decode cc pc = .ok (.sipush n, 3)) (hn : (Int16.ofInt n).toInt32 = Int32.ofInt n) (k : Zj κ δ ad rt Q mL ρ (pc + 3) L (iv n :: S) M) : Zj κ δ ad rt Q mL ρ pc L S M := fun H locs ls hw hs hl => lv_sipush hk.1 hk.2.1 hd hn (k H locs ls hw hs hl)
theorem Z_dup1 (hk : okK κ δ cc own mL ret rm) {v : Value} (hv : v.category = 1) (hd : decode cc pc = .ok (.dup, 1)) (k : Zj κ δ ad rt Q mL ρ (pc + 1) L (v :: v :: S) M) : Zj κ δ ad rt Q mL ρ pc L (v :: S) M := fun H locs ls hw hs hl => lv_dup hk.1 hk.2.1 hd hv (k H locs ls hw hs hl)
theorem Z_pop1 (hk : okK κ δ cc own mL ret rm) {v : Value} (hv : v.category = 1) (hd : decode cc pc = .ok (.pop, 1)) (k : Zj κ δ ad rt Q mL ρ (pc + 1) L S M) : Zj κ δ ad rt Q mL ρ pc L (v :: S) M := fun H locs ls hw hs hl => lv_pop hk.1 hk.2.1 hd hv (k H locs ls hw hs hl)
end ZROWS
