section KROW
variable {κ : Kp} {δ : Dp} {ad : Nat → Nat} {rt : Rt} {Q : State → Prop} {mL : Nat} {ρ : Nat × Nat × Nat} {pc : Nat} {L : List (Option Value)} {S S0 : List Value} {M : Mem} {cc : ByteArray} {own : String} {ret : Option FieldType} {rm : Room}
theorem Z_putVF (hk : okK κ δ cc own mL ret rm) (hin2 : κ.2.2.2.2.2.2.2.2.1.name = "<init>") {idx k i c N : Nat} {v : Value} {x : Int} {rt1 : Rt} (hA : okA δ ad) (hf : FL own idx k i true) (hdec : ∀ q : vw_C, vwCl[k]? = some q → (q.2.1 i).1 = own) (hl : lay c = (k, N)) (hk10 : k < 10) (hc : c < ρ.1) (hN : ∀ q : vw_C, vwCl[k]? = some q → q.2.2 = N) (hd : decode cc pc = .ok (.putfield idx, 3)) (hn : narrow (fty k i) v = v) (hfit : fits (fty k i) v = true) (hv : sv ad rt1 (fty k i) c i x = v) (hx : inT (fty k i) x) (hr : ∀ d j, (d ≠ c ∨ j ≠ i) → rt1 d j = rt d j)
    (kk : Zj κ δ ad rt1 Q mL ρ (pc + 3) L S (up M c i x)) : Zj κ δ ad rt Q mL ρ pc L (v :: .ref (ad c) :: S) M := by
  intro H locs ls hw hs hlo
  obtain ⟨q, hq, hi, hlk, hfin⟩ := hf
  have hNe := hN q hq
  obtain ⟨hin, hty, hnm⟩ := cl_all k hk10 q hq
  have hcell := hw.2 c hc
  rw [hl] at hcell
  dsimp only at hcell
  obtain ⟨⟨cell, q1, q2, q3, q4⟩, hT⟩ := hcell.1 (by omega)
  have hap := va_apart (own := own) (s := κ.2.2.2.2.1) hk.2.2.2.2.1 hin (fty k) hty hnm hk.2.2.2.2.2.1 hq
  obtain ⟨hS, hfc, kC, hkC, hkind⟩ := hk.2.2.2.2.2.1.1 k q hq
  obtain ⟨cf, kf, fi, f, hfi, hsl⟩ := hS i hi
  have hlay := hk.2.2.2.2.1 _ (hin _ (u_in_lay hi))
  unfold u_lay at hlay
  rw [if_pos hfin] at hlay
  have hst := (u_facts hfc hkC (u_lays hk.2.2.2.2.1 hin hi) hfi).1
  have hcf : κ.2.2.2.2.2.1.cls = cf := by
    obtain ⟨_, _, c', _, _, _, -, -, hf', -, -, -, hown2, -⟩ := Cond.laysFinal_spec hlay
    have e1 : c' = cf := by have := hfi.symm.trans hf'; simp at this; exact this.1.symm
    rw [hdec q hq] at hown2
    rw [← e1]; exact Option.some.inj (hk.2.2.2.1.symm.trans hown2)
  have h6 := u_fits hfc hkC hkind (Or.inr hlay) hfi (hty i hi) hn hfit
  have hiN : i < N := by omega
  refine W.putFinK hk.1 hk.2.1 hk.2.2.2.1 (hk.2.2.2.2.1 _ hlk) hfi hst hcf hin2 (by rw [q2]; exact h6) q1 q3 (by rw [hsl]; exact k2_hasslot (q4 i hiN)) rfl rfl hd fun H' e1 e2 e3 => ?_
  rw [hsl] at e1
  have hSv : ∀ d j (z : Int) (ty : FieldType), (d ≠ c ∨ j ≠ i) → sv ad rt1 ty d j z = sv ad rt ty d j z := fun d j z ty h => by
    unfold sv; rw [hr d j h]
  have hw1 : wd δ ad rt1 ρ.1 M H → wd δ ad rt1 ρ.1 M H := id
  refine kk H' _ ls ⟨by rw [e2]; exact hw.1, fun d hdn => ?_⟩ (hs.put e2 e3 (hA.2 c)) hlo
  by_cases e : d = c
  · subst e
    rw [up_eq, hl]
    dsimp only
    refine ⟨fun _ => ⟨⟨_, e1, q2, q3, fun j hj => ?_⟩, fun j hj => ?_⟩, fun h => absurd (show k < 100 by omega) h⟩
    · have h9 := t_set (V := fun j => sv ad rt (fty k j) d j (M d j)) q4 (fun a b ha hb => hap a b (by omega) (by omega)) hiN v j hj
      rw [h9]
      by_cases ej : j = i
      · subst ej
        simp [updV, upr, hv]
      · simp only [updV, upr, if_neg ej]
        rw [hSv d j _ _ (Or.inr ej)]
    · by_cases ej : j = i
      · subst ej; rw [upr_eq]; exact hx
      · rw [upr_ne ej]; exact hT j hj
  · rw [up_ne e]
    have h9 := hw.2 d hdn
    have h8 := h9.kept (e3 _ (cell_ne hA e))
    refine ⟨fun h => ⟨(h8.1 h).1.to (fun j _ => (hSv d j _ _ (Or.inl e)).symm), (h8.1 h).2⟩, fun h => ⟨?_, (h8.2 h).2⟩⟩
    rw [(h8.2 h).1]
    congr 2
    funext j
    exact (hSv d j _ _ (Or.inl e)).symm
theorem up_same (M : Mem) (c i : Nat) : up M c i (M c i) = M := by
  funext a b
  unfold up upr
  by_cases e : a = c
  · subst e
    rw [if_pos rfl]
    by_cases e2 : b = i
    · subst e2; rw [if_pos rfl]
    · rw [if_neg e2]
  · rw [if_neg e]
theorem Z_putR (hk : okK κ δ cc own mL ret rm) {idx k i c d N : Nat} {rt1 : Rt} (hA : okA δ ad) (hf : FL own idx k i false) (hd : decode cc pc = .ok (.putfield idx, 3)) (hl : lay c = (k, N)) (hk10 : k < 10) (hc : c < ρ.1) (hN : ∀ q : vw_C, vwCl[k]? = some q → q.2.2 = N) (ht : (∃ n, fty k i = .object n) ∨ ∃ n, fty k i = .array n) (hr : rt1 c i = some d) (ho : ∀ a b, (a ≠ c ∨ b ≠ i) → rt1 a b = rt a b) (kk : Zj κ δ ad rt1 Q mL ρ (pc + 3) L S M) : Zj κ δ ad rt Q mL ρ pc L (.ref (ad d) :: .ref (ad c) :: S) M := by
  refine Z_putV hk hA hf hl hk10 hc hN hd (v := .ref (ad d)) (x := M c i) (rt1 := rt1) ?_ ?_ ?_ ?_ ho ?_
  · rcases ht with ⟨n, e⟩ | ⟨n, e⟩ <;> (rw [e]; rfl)
  · rcases ht with ⟨n, e⟩ | ⟨n, e⟩ <;> (rw [e]; rfl)
  · rcases ht with ⟨n, e⟩ | ⟨n, e⟩ <;> (rw [e]; simp [sv, hr])
  · rcases ht with ⟨n, e⟩ | ⟨n, e⟩ <;> (rw [e]; trivial)
  · rw [up_same]; exact kk
theorem Z_putRF (hk : okK κ δ cc own mL ret rm) (hin2 : κ.2.2.2.2.2.2.2.2.1.name = "<init>") {idx k i c d N : Nat} {rt1 : Rt} (hA : okA δ ad) (hf : FL own idx k i true) (hdec : ∀ q : vw_C, vwCl[k]? = some q → (q.2.1 i).1 = own) (hd : decode cc pc = .ok (.putfield idx, 3)) (hl : lay c = (k, N)) (hk10 : k < 10) (hc : c < ρ.1) (hN : ∀ q : vw_C, vwCl[k]? = some q → q.2.2 = N) (ht : (∃ n, fty k i = .object n) ∨ ∃ n, fty k i = .array n) (hr : rt1 c i = some d) (ho : ∀ a b, (a ≠ c ∨ b ≠ i) → rt1 a b = rt a b) (kk : Zj κ δ ad rt1 Q mL ρ (pc + 3) L S M) : Zj κ δ ad rt Q mL ρ pc L (.ref (ad d) :: .ref (ad c) :: S) M := by
  refine Z_putVF hk hin2 hA hf hdec hl hk10 hc hN hd (v := .ref (ad d)) (x := M c i) (rt1 := rt1) ?_ ?_ ?_ ?_ ho ?_
  · rcases ht with ⟨n, e⟩ | ⟨n, e⟩ <;> (rw [e]; rfl)
  · rcases ht with ⟨n, e⟩ | ⟨n, e⟩ <;> (rw [e]; rfl)
  · rcases ht with ⟨n, e⟩ | ⟨n, e⟩ <;> (rw [e]; simp [sv, hr])
  · rcases ht with ⟨n, e⟩ | ⟨n, e⟩ <;> (rw [e]; trivial)
  · rw [up_same]; exact kk
def okTb (ty : FieldType) : Bool := match ty with
  | .float => false
  | .double => false
  | _ => true
theorem sv_dv {ty : FieldType} {c j : Nat} (h : okTb ty = true) (hr : rt c j = none) : sv ad rt ty c j 0 = defaultValue ty := by
  cases ty <;> first | (exact absurd h (by decide)) | rfl | (simp [sv, hr]; rfl) | (simp [sv, hr, defaultValue])
theorem inT0 (ty : FieldType) : inT ty 0 := by cases ty <;> first | trivial | (exact ⟨by decide, by decide⟩)
theorem fty_ok : ∀ k, k < 10 → ∀ j, j < 113 → okTb (fty k j) = true := by decide +kernel
theorem Z_new (hk : okK κ δ cc own mL ret rm) {nc cells slots idx k N : Nat} {C : String} (hnc : lay nc = (k, N)) (hk10 : k < 10) (hN113 : N ≤ 113) (hcl : Cond.classLink own idx C ∈ lw_g) (hins : Cond.instantiable C N ∈ lw_g) (hini : Cond.initialized C ∈ lw_g) (hq : ∃ T, vwCl[k]? = some (C, T, N)) (had : ad nc = δ.2.2.1 + nc) (hd : decode cc pc = .ok (.new idx, 3)) (hM : ∀ j, M nc j = 0) (hrt : ∀ j, rt nc j = none) (hR : cells + 1 ≤ rm.cells ∧ slots + N ≤ rm.slots)
    (kk : Zj κ δ ad rt Q mL (nc + 1, cells + 1, slots + N) (pc + 3) L (.ref (ad nc) :: S) M) : Zj κ δ ad rt Q mL (nc, cells, slots) pc L S M := by
  intro H locs ls hw hs hlo
  obtain ⟨T, hq⟩ := hq
  have ht := hk.2.2.2.2.1
  have hRm := hk.2.2.2.2.2.2.2.2.1
  have hKn := hk.2.2.2.2.2.1.1 k _ hq
  obtain ⟨hin, hty, hnm⟩ := cl_all k hk10 _ hq
  have hsz : H.size = δ.2.2.1 + nc := hw.1
  refine W.newcK hk.1 hk.2.1 hk.2.2.2.1 (ht _ hcl) (ht _ hins) (ht _ hini) rfl hd (by rw [hRm]; exact hR.1) (by rw [hRm]; exact hR.2) hKn.2.1 hsz fun H1 kC hkC e1 z1 o1 => ?_
  rw [← had] at e1 ⊢
  refine kk H1 locs ls ⟨by rw [z1]; show _ = δ.2.2.1 + (nc + 1); omega, fun d hd2 => ?_⟩ ⟨Nat.le_trans hs.1 (by omega), fun q h1 h2 => (o1 q (by have := hs.1; omega)).trans (hs.2.1 q h1 h2), hs.2.2⟩ hlo
  by_cases e : d = nc
  · subst e
    rw [hnc]
    dsimp only
    refine ⟨fun _ => ⟨(u_born (fty k) ht hin hKn hkC e1 hty).to (fun j hj => ?_), fun j _ => by rw [hM]; exact inT0 _⟩, fun h => absurd (show k < 100 by omega) h⟩
    rw [hM]
    exact (sv_dv (fty_ok k hk10 j (Nat.lt_of_lt_of_le hj hN113)) (hrt j)).symm
  · have hd3 : d < nc := by have : d < nc + 1 := hd2; omega
    have hc := hw.2 d hd3
    have hlt : ad d < H.size := by
      rcases Nat.lt_or_ge (lay d).1 100 with h | h
      · obtain ⟨⟨cell, q1, -⟩, -⟩ := hc.1 h
        exact (Array.getElem?_eq_some_iff.mp q1).1
      · obtain ⟨q1, -⟩ := hc.2 (by omega)
        exact (Array.getElem?_eq_some_iff.mp q1).1
    exact hc.kept (o1 _ (by omega))
theorem Z_newa (hk : okK κ δ cc own mL ret rm) {nc cells slots k N t0 : Nat} {x : Int} {atype : ArrayType} (hx : x = (N : Int)) (hnc : lay nc = (k, N)) (hty : newarray.typeOf atype = elTy k) (ht0 : (tysL δ)[t0]? = some (δ.2.1 k, elTy k)) (harr : Cond.arrayClass (elTy k) ∈ lw_g) (hk4 : k = 100 ∨ k = 101 ∨ k = 102 ∨ k = 103) (hok : okTb (elTy k) = true) (hb : N * componentBytes (elTy k) ≤ 536870912) (hN : N < 2147483648) (had : ad nc = δ.2.2.1 + nc) (hd : decode cc pc = .ok (.newarray atype, 2)) (hM : ∀ j, M nc j = 0) (hrt : ∀ j, rt nc j = none) (hR : cells + 1 ≤ rm.cells ∧ slots + N ≤ rm.slots)
    (kk : Zj κ δ ad rt Q mL (nc + 1, cells + 1, slots + N) (pc + 2) L (.ref (ad nc) :: S) M) : Zj κ δ ad rt Q mL (nc, cells, slots) pc L (iv x :: S) M := by
  intro H locs ls hw hs hlo
  subst hx
  have ht := hk.2.2.2.2.1
  have hRm := hk.2.2.2.2.2.2.2.2.1
  have hsz : H.size = δ.2.2.1 + nc := hw.1
  have hti := zI_toInt (a := (N : Int)) (by omega) (by omega)
  refine va_newaK (N := N) hk.1 hk.2.1 (atype := atype) (by rw [hty]; exact ht _ harr) rfl hd (n := Int32.ofInt (N : Int)) rfl (by rw [Int32.lt_iff_toInt_lt, hti]; show ¬ ((N : Int) < 0); omega) (by rw [Int32.toNatClampNeg, hti]; rfl) (by rw [hty]; exact hb) (by rw [hRm]; exact hR.1) (by rw [hRm]; exact hR.2) hsz fun H1 cA e1 z1 o1 hAr hNm => ?_
  have hcA : cA = δ.2.1 k := by
    have h2 := (hk.2.2.2.2.2.1.2 t0 _ ht0).2
    rw [hty] at hNm
    rcases hk4 with rfl | rfl | rfl | rfl <;> exact Option.some.inj (hNm.symm.trans h2)
  rw [hty, hcA] at e1
  rw [← had] at e1 ⊢
  refine kk H1 locs ls ⟨by rw [z1]; show _ = δ.2.2.1 + (nc + 1); omega, fun d hd2 => ?_⟩ ⟨Nat.le_trans hs.1 (by omega), fun q h1 h2 => (o1 q (by have := hs.1; omega)).trans (hs.2.1 q h1 h2), hs.2.2⟩ hlo
  by_cases e : d = nc
  · subst e
    rw [hnc]
    dsimp only
    refine ⟨fun h => absurd h (by omega), fun _ => ⟨?_, fun j _ => by rw [hM]; exact inT0 _⟩⟩
    rw [e1]
    congr 2
    funext j
    rw [hM]
    exact (sv_dv hok (hrt j)).symm
  · have hd3 : d < nc := by have : d < nc + 1 := hd2; omega
    have hc := hw.2 d hd3
    have hlt : ad d < H.size := by
      rcases Nat.lt_or_ge (lay d).1 100 with h | h
      · obtain ⟨⟨cell, q1, -⟩, -⟩ := hc.1 h
        exact (Array.getElem?_eq_some_iff.mp q1).1
      · obtain ⟨q1, -⟩ := hc.2 (by omega)
        exact (Array.getElem?_eq_some_iff.mp q1).1
    exact hc.kept (o1 _ (by omega))
theorem Z_obj (hk : okK κ δ cc own mL ret rm) {idx a : Nat} (hlk : Cond.methodLink own idx Lib.objectInit ∈ lw_g) (hd : decode cc pc = .ok (.invokespecial idx, 3)) (hi : Cond.instanceMethod Lib.objectInit ∈ lw_g) (hc : Cond.code Lib.objectInit ⟨#[0xb1]⟩ 1 none ∈ lw_g) (hf : 1 ≤ rm.frames ∧ 20 ≤ rm.locals) (hsum : (S.map fun v => v.category).sum ≤ 8) (kk : Zj κ δ ad rt Q mL ρ (pc + 3) L S M) : Zj κ δ ad rt Q mL ρ pc L (.ref a :: S) M := by
  intro H locs ls hw hs hlo
  have ht := hk.2.2.2.2.1
  have hRm := hk.2.2.2.2.2.2.2.2.1
  refine W.objInit hk.1 hk.2.1 hk.2.2.2.1 (ht _ hlk) (ht _ hi) (ht _ hc) rfl (by show ls.size = _; rw [hlo.1, hk.2.2.1]) rfl hd (by rw [hRm]; exact hf.1) (by rw [hRm]; show 2 * 0 + _ + 12 ≤ _; omega) (kk H locs ls hw hs hlo)
theorem Z_callI (hk : okK κ δ cc own mL ret rm) {y : MethodName} {bytes : ByteArray} {mL' n idx b nc' : Nat} {rm' : Room} {As : List Value} {post : Pg} (hM : Mg κ.2.1 δ y bytes mL' none rm' ρ.1 nc' ad rt (.ref (ad b) :: As) M post) (h1 : Cond.code y bytes mL' none ∈ lw_g) (h2 : Cond.initialized y.cls ∈ lw_g) (h3 : Cond.instanceMethod y ∈ lw_g) (hy : y.name = "<init>") (h5 : y.cls ≠ "java/lang/invoke/MethodHandle" ∧ y.cls ≠ "java/lang/invoke/VarHandle" ∧ (parseMethodDescriptor y.desc).map (fun d => d.parameters.length) = some n) (hlk : Cond.methodLink own idx y ∈ lw_g) (hd : decode cc pc = .ok (.invokespecial idx, 3)) (hn : As.length = n) (hR : rm'.frames + 1 ≤ rm.frames ∧ 8 + (mL' + 11) + rm'.locals ≤ rm.locals) (hst : S0 = As.reverse ++ .ref (ad b) :: S) (hsum : (S.map fun v => v.category).sum ≤ 8) (hf : ρ.2.1 + rm'.cells ≤ rm.cells ∧ ρ.2.2 + rm'.slots ≤ rm.slots)
    (kk : ∀ (v : Option Value) (ad' : Nat → Nat) (rt' : Rt) (M' : Mem), okA δ ad' → post v ad' rt' M' → Zj κ δ ad' rt' Q mL (nc', ρ.2.1 + rm'.cells, ρ.2.2 + rm'.slots) (pc + 3) L (v.toList ++ S) M') : Zj κ δ ad rt Q mL ρ pc L S0 M := by
  refine Z_run (a := (Value.ref (ad b) :: As).toArray) (fun H locs ls hw hs hls => ?_) kk
  have ht := hk.2.2.2.2.1
  have hRm := hk.2.2.2.2.2.2.2.2.1
  exact va_runI (As := As) (rest := S) ⟨hk.1, hk.2.1, hk.2.2.1, hk.2.2.2.1, ht⟩ hM
    (cwI n ht (good_code h1) rfl rfl rfl (ht _ h2) (ht _ hlk) (ht _ h3) hy h5 (by rw [hRm]; exact hR))
    ⟨blindPcg, fun U hU hW => ⟨rfl, by rw [hU]; exact hw, va_K.moved hW.alike hk.2.2.2.2.2.1, lowS_on hk hs hU hW⟩⟩
    rfl hn hls hst (lv_room hsum) hd (by rw [hRm]; exact hf)
theorem Z_callIN (hk : okK κ δ cc own mL ret rm) (hz : NS δ) {y : MethodName} {bytes : ByteArray} {mL' n idx b nc' : Nat} {rm' : Room} {As : List Value} {post : Pg} {host : String} (hM : Mg κ.2.1 δ y bytes mL' none rm' ρ.1 nc' ad rt (.ref (ad b) :: As) M post) (h1 : Cond.code y bytes mL' none ∈ lw_g) (h2 : Cond.initialized y.cls ∈ lw_g) (h3 : Cond.instanceMethod y ∈ lw_g) (hy : y.name = "<init>") (h5 : y.cls ≠ "java/lang/invoke/MethodHandle" ∧ y.cls ≠ "java/lang/invoke/VarHandle" ∧ (parseMethodDescriptor y.desc).map (fun d => d.parameters.length) = some n) (hlk : Cond.methodLinkNest own idx y host ∈ tables_1) (hd : decode cc pc = .ok (.invokespecial idx, 3)) (hn : As.length = n) (hR : rm'.frames + 1 ≤ rm.frames ∧ 8 + (mL' + 11) + rm'.locals ≤ rm.locals) (hst : S0 = As.reverse ++ .ref (ad b) :: S) (hsum : (S.map fun v => v.category).sum ≤ 8) (hf : ρ.2.1 + rm'.cells ≤ rm.cells ∧ ρ.2.2 + rm'.slots ≤ rm.slots)
    (kk : ∀ (v : Option Value) (ad' : Nat → Nat) (rt' : Rt) (M' : Mem), okA δ ad' → post v ad' rt' M' → Zj κ δ ad' rt' Q mL (nc', ρ.2.1 + rm'.cells, ρ.2.2 + rm'.slots) (pc + 3) L (v.toList ++ S) M') : Zj κ δ ad rt Q mL ρ pc L S0 M := by
  refine Z_run (a := (Value.ref (ad b) :: As).toArray) (fun H locs ls hw hs hls => ?_) kk
  have ht := hk.2.2.2.2.1
  have hRm := hk.2.2.2.2.2.2.2.2.1
  obtain ⟨a0, hz1, -⟩ := hz
  have hnw : va_Nw (.methodLinkNest own idx y host) κ.2.2.2.2.1 := va_Nw.warmM hk.2.2.2.2.2.2.2.2.2.1 (va_Nw.of rfl (hz1 _ hlk))
  exact va_runIN (As := As) (rest := S) ⟨hk.1, hk.2.1, hk.2.2.1, hk.2.2.2.1, ht⟩ hM
    ⟨va_cnB n ht (good_code h1) rfl rfl rfl hnw (ht _ h2) h5 (by rw [hRm]; exact hR), hy, ht _ h3⟩
    ⟨blindPcg, fun U hU hW => ⟨rfl, by rw [hU]; exact hw, va_K.moved hW.alike hk.2.2.2.2.2.1, lowS_on hk hs hU hW⟩⟩
    rfl hn hls hst (lv_room hsum) hd (by rw [hRm]; exact hf)
end KROW
