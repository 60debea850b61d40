section ZMEM
variable {κ : Kp} {δ : Dp} {ad : Nat → Nat} {rt : Rt} {Q : State → Prop} {mL : Nat} {ρ : Nat × Nat × Nat} {pc : Nat} {L : List (Option Value)} {S : List Value} {M : Mem} {cc : ByteArray} {own : String} {ret : Option FieldType} {rm : Room}
theorem cell_ne {c d : Nat} (hA : okA δ ad) (h : d ≠ c) : ad d ≠ ad c := fun e => h (hA.1 _ _ e)
theorem cellIs.kept {c k N : Nat} {f : Nat → Int} {H H1 : Heap} (h : cellIs δ ad rt c k N f H) (e : H1[ad c]? = H[ad c]?) : cellIs δ ad rt c k N f H1 :=
  ⟨fun hk => ⟨(h.1 hk).1.kept e, (h.1 hk).2⟩, fun hk => ⟨by rw [e]; exact (h.2 hk).1, (h.2 hk).2⟩⟩
theorem wd.set {nc c : Nat} {H H1 : Heap} {g : Nat → Int} (hA : okA δ ad) (h : wd δ ad rt nc M H) (hz : H1.size = H.size) (ho : ∀ q : Nat, q ≠ ad c → H1[q]? = H[q]?) (hc : cellIs δ ad rt c (lay c).1 (lay c).2 g H1) (M1 : Mem) (e1 : M1 c = g) (e2 : ∀ d, d ≠ c → M1 d = M d) : wd δ ad rt nc M1 H1 := by
  refine ⟨by rw [hz]; exact h.1, fun d hd => ?_⟩
  by_cases e : d = c
  · subst e; rw [e1]; exact hc
  · rw [e2 d e]; exact (h.2 d hd).kept (ho _ (cell_ne hA e))
theorem Z_getV (hk : okK κ δ cc own mL ret rm) {idx k i c N : Nat} {fin : Bool} {v : Value} (hf : FL own idx k i fin) (hl : lay c = (k, N)) (hk10 : k < 10) (hc : c < ρ.1) (hN : ∀ q : vw_C, vwCl[k]? = some q → q.2.2 = N) (hd : decode cc pc = .ok (.getfield idx, 3)) (hv : sv ad rt (fty k i) c i (M c i) = v) (kk : inT (fty k i) (M c i) → Zj κ δ ad rt Q mL ρ (pc + 3) L (v :: S) M) : Zj κ δ ad rt Q mL ρ pc L (.ref (ad c) :: S) M := by
  intro H locs ls hw hs hlo
  obtain ⟨q, hq, hi, hlk, -⟩ := hf
  have hNe := hN q hq
  obtain ⟨hin, -, -⟩ := cl_all k hk10 q hq
  have hcell := hw.2 c hc
  rw [hl] at hcell
  dsimp only at hcell
  obtain ⟨⟨cell, q1, q2, q3, q4⟩, hT⟩ := hcell.1 (by omega)
  obtain ⟨hS, hfc, kC, hkC, hkind⟩ := hk.2.2.2.2.2.1.1 k q hq
  obtain ⟨cf, kf, fi, f, hfi, hsl⟩ := hS i hi
  refine W.getf hk.1 hk.2.1 hk.2.2.2.1 (hk.2.2.2.2.1 _ hlk) hfi (u_facts hfc hkC (u_lays hk.2.2.2.2.1 hin hi) hfi).1 q1 (by rw [q3]; exact fun h => by cases h) (v := v) ?_ rfl rfl hd (kk (hT i (by omega)) H locs ls hw hs hlo)
  rw [hsl, q4 i (by omega)]
  exact congrArg some hv
theorem Z_getI (hk : okK κ δ cc own mL ret rm) {idx k i c N : Nat} {fin : Bool} (hf : FL own idx k i fin) (hd : decode cc pc = .ok (.getfield idx, 3)) (hl : lay c = (k, N)) (hk10 : k < 10) (hc : c < ρ.1) (hN : ∀ q : vw_C, vwCl[k]? = some q → q.2.2 = N) (ht : fty k i = .int) (kk : ∀ v, v = M c i → -2147483648 ≤ v → v ≤ 2147483647 → Zj κ δ ad rt Q mL ρ (pc + 3) L (iv v :: S) M) : Zj κ δ ad rt Q mL ρ pc L (.ref (ad c) :: S) M :=
  Z_getV hk hf hl hk10 hc hN hd (by rw [ht]; try rfl) (fun h => by rw [ht] at h; exact kk _ rfl h.1 h.2)
theorem Z_getZ (hk : okK κ δ cc own mL ret rm) {idx k i c N : Nat} {fin : Bool} (hf : FL own idx k i fin) (hd : decode cc pc = .ok (.getfield idx, 3)) (hl : lay c = (k, N)) (hk10 : k < 10) (hc : c < ρ.1) (hN : ∀ q : vw_C, vwCl[k]? = some q → q.2.2 = N) (ht : fty k i = .boolean) (kk : ∀ v, v = M c i → 0 ≤ v → v ≤ 1 → Zj κ δ ad rt Q mL ρ (pc + 3) L (iv v :: S) M) : Zj κ δ ad rt Q mL ρ pc L (.ref (ad c) :: S) M :=
  Z_getV hk hf hl hk10 hc hN hd (by rw [ht]; try rfl) (fun h => by rw [ht] at h; exact kk _ rfl h.1 h.2)
theorem Z_getJ (hk : okK κ δ cc own mL ret rm) {idx k i c N : Nat} {fin : Bool} (hf : FL own idx k i fin) (hd : decode cc pc = .ok (.getfield idx, 3)) (hl : lay c = (k, N)) (hk10 : k < 10) (hc : c < ρ.1) (hN : ∀ q : vw_C, vwCl[k]? = some q → q.2.2 = N) (ht : fty k i = .long) (kk : ∀ v, v = M c i → -9223372036854775808 ≤ v → v ≤ 9223372036854775807 → Zj κ δ ad rt Q mL ρ (pc + 3) L (jv v :: S) M) : Zj κ δ ad rt Q mL ρ pc L (.ref (ad c) :: S) M :=
  Z_getV hk hf hl hk10 hc hN hd (by rw [ht]; try rfl) (fun h => by rw [ht] at h; exact kk _ rfl h.1 h.2)
theorem Z_getR (hk : okK κ δ cc own mL ret rm) {idx k i c d N : Nat} {fin : Bool} (hf : FL own idx k i fin) (hd : decode cc pc = .ok (.getfield idx, 3)) (hl : lay c = (k, N)) (hk10 : k < 10) (hc : c < ρ.1) (hN : ∀ q : vw_C, vwCl[k]? = some q → q.2.2 = N) (ht : (∃ n, fty k i = .object n) ∨ ∃ n, fty k i = .array n) (hr : rt c i = some d) (kk : Zj κ δ ad rt Q mL ρ (pc + 3) L (.ref (ad d) :: S) M) : Zj κ δ ad rt Q mL ρ pc L (.ref (ad c) :: S) M :=
  Z_getV hk hf hl hk10 hc hN hd (by rcases ht with ⟨n, e⟩ | ⟨n, e⟩ <;> (rw [e]; simp [sv, hr])) (fun _ => kk)
theorem Z_putV (hk : okK κ δ cc own mL ret rm) {idx k i c N : Nat} {v : Value} {x : Int} {rt1 : Rt} (hA : okA δ ad) (hf : FL own idx k i false) (hl : lay c = (k, N)) (hk10 : k < 10) (hc : c < ρ.1) (hN : ∀ q : vw_C, vwCl[k]? = some q → q.2.2 = N) (hd : decode cc pc = .ok (.putfield idx, 3)) (hn : narrow (fty k i) v = v) (hfit : fits (fty k i) v = true) (hv : sv ad rt1 (fty k i) c i x = v) (hx : inT (fty k i) x) (hr : ∀ d j, (d ≠ c ∨ j ≠ i) → rt1 d j = rt d j)
    (kk : Zj κ δ ad rt1 Q mL ρ (pc + 3) L S (up M c i x)) : Zj κ δ ad rt Q mL ρ pc L (v :: .ref (ad c) :: S) M := by
  intro H locs ls hw hs hlo
  obtain ⟨q, hq, hi, hlk, hfin⟩ := hf
  have hNe := hN q hq
  obtain ⟨hin, hty, hnm⟩ := cl_all k hk10 q hq
  have hcell := hw.2 c hc
  rw [hl] at hcell
  dsimp only at hcell
  obtain ⟨⟨cell, q1, q2, q3, q4⟩, hT⟩ := hcell.1 (by omega)
  have hap := va_apart (own := own) (s := κ.2.2.2.2.1) hk.2.2.2.2.1 hin (fty k) hty hnm hk.2.2.2.2.2.1 hq
  obtain ⟨hS, hfc, kC, hkC, hkind⟩ := hk.2.2.2.2.2.1.1 k q hq
  obtain ⟨cf, kf, fi, f, hfi, hsl⟩ := hS i hi
  have hlay := hk.2.2.2.2.1 _ (hin _ (u_in_lay hi))
  unfold u_lay at hlay
  rw [if_neg (by rw [hfin]; decide)] at hlay
  have hst := (u_facts hfc hkC (u_lays hk.2.2.2.2.1 hin hi) hfi).1
  have h6 := u_store hfc hkC hkind hlay hfi (hty i hi) hn hfit
  have hiN : i < N := by omega
  refine W.putK hk.1 hk.2.1 (f := f) ⟨hk.2.2.2.1, hk.2.2.2.2.1 _ hlk, ⟨_, _, _, hfi⟩, hst⟩ (by rw [q2]; exact h6) q1 q3 (by rw [hsl]; exact k2_hasslot (q4 i hiN)) rfl rfl hd fun H' e1 e2 e3 => ?_
  rw [hsl] at e1
  have hSv : ∀ d j (z : Int) (ty : FieldType), (d ≠ c ∨ j ≠ i) → sv ad rt1 ty d j z = sv ad rt ty d j z := fun d j z ty h => by
    unfold sv; rw [hr d j h]
  have hw1 : wd δ ad rt1 ρ.1 M H → wd δ ad rt1 ρ.1 M H := id
  refine kk H' _ ls ⟨by rw [e2]; exact hw.1, fun d hdn => ?_⟩ (hs.put e2 e3 (hA.2 c)) hlo
  by_cases e : d = c
  · subst e
    rw [up_eq, hl]
    dsimp only
    refine ⟨fun _ => ⟨⟨_, e1, q2, q3, fun j hj => ?_⟩, fun j hj => ?_⟩, fun h => absurd (show k < 100 by omega) h⟩
    · have h9 := t_set (V := fun j => sv ad rt (fty k j) d j (M d j)) q4 (fun a b ha hb => hap a b (by omega) (by omega)) hiN v j hj
      rw [h9]
      by_cases ej : j = i
      · subst ej
        simp [updV, upr, hv]
      · simp only [updV, upr, if_neg ej]
        rw [hSv d j _ _ (Or.inr ej)]
    · by_cases ej : j = i
      · subst ej; rw [upr_eq]; exact hx
      · rw [upr_ne ej]; exact hT j hj
  · rw [up_ne e]
    have h9 := hw.2 d hdn
    have h8 := h9.kept (e3 _ (cell_ne hA e))
    refine ⟨fun h => ⟨(h8.1 h).1.to (fun j _ => (hSv d j _ _ (Or.inl e)).symm), (h8.1 h).2⟩, fun h => ⟨?_, (h8.2 h).2⟩⟩
    rw [(h8.2 h).1]
    congr 2
    funext j
    exact (hSv d j _ _ (Or.inl e)).symm
theorem n_int (x : Int) : narrow .int (iv x) = iv x := rfl
theorem n_long (x : Int) : narrow .long (jv x) = jv x := rfl
theorem z01 {x : Int} (h0 : 0 ≤ x) (h1 : x ≤ 1) : x = 0 ∨ x = 1 := by omega
theorem n_bool {x : Int} (h0 : 0 ≤ x) (h1 : x ≤ 1) : narrow .boolean (iv x) = iv x := by rcases z01 h0 h1 with rfl | rfl <;> rfl
theorem f_bool {x : Int} (h0 : 0 ≤ x) (h1 : x ≤ 1) : fits .boolean (iv x) = true := by rcases z01 h0 h1 with rfl | rfl <;> rfl
theorem Z_putI (hk : okK κ δ cc own mL ret rm) {idx k i c N : Nat} {x : Int} (hA : okA δ ad) (hf : FL own idx k i false) (hd : decode cc pc = .ok (.putfield idx, 3)) (hl : lay c = (k, N)) (hk10 : k < 10) (hc : c < ρ.1) (hN : ∀ q : vw_C, vwCl[k]? = some q → q.2.2 = N) (ht : fty k i = .int) (x1 : -2147483648 ≤ x) (x2 : x ≤ 2147483647) (kk : Zj κ δ ad rt Q mL ρ (pc + 3) L S (up M c i x)) : Zj κ δ ad rt Q mL ρ pc L (iv x :: .ref (ad c) :: S) M :=
  Z_putV hk hA hf hl hk10 hc hN hd (by rw [ht]; exact n_int x) (by rw [ht]; exact rfl) (by rw [ht]; try rfl) (by rw [ht]; exact ⟨x1, x2⟩) (fun _ _ _ => rfl) kk
theorem Z_putZ (hk : okK κ δ cc own mL ret rm) {idx k i c N : Nat} {x : Int} (hA : okA δ ad) (hf : FL own idx k i false) (hd : decode cc pc = .ok (.putfield idx, 3)) (hl : lay c = (k, N)) (hk10 : k < 10) (hc : c < ρ.1) (hN : ∀ q : vw_C, vwCl[k]? = some q → q.2.2 = N) (ht : fty k i = .boolean) (x1 : 0 ≤ x) (x2 : x ≤ 1) (kk : Zj κ δ ad rt Q mL ρ (pc + 3) L S (up M c i x)) : Zj κ δ ad rt Q mL ρ pc L (iv x :: .ref (ad c) :: S) M :=
  Z_putV hk hA hf hl hk10 hc hN hd (by rw [ht]; exact n_bool x1 x2) (by rw [ht]; exact f_bool x1 x2) (by rw [ht]; try rfl) (by rw [ht]; exact ⟨x1, x2⟩) (fun _ _ _ => rfl) kk
theorem Z_putJ (hk : okK κ δ cc own mL ret rm) {idx k i c N : Nat} {x : Int} (hA : okA δ ad) (hf : FL own idx k i false) (hd : decode cc pc = .ok (.putfield idx, 3)) (hl : lay c = (k, N)) (hk10 : k < 10) (hc : c < ρ.1) (hN : ∀ q : vw_C, vwCl[k]? = some q → q.2.2 = N) (ht : fty k i = .long) (x1 : -9223372036854775808 ≤ x) (x2 : x ≤ 9223372036854775807) (kk : Zj κ δ ad rt Q mL ρ (pc + 3) L S (up M c i x)) : Zj κ δ ad rt Q mL ρ pc L (jv x :: .ref (ad c) :: S) M :=
  Z_putV hk hA hf hl hk10 hc hN hd (by rw [ht]; exact n_long x) (by rw [ht]; exact rfl) (by rw [ht]; try rfl) (by rw [ht]; exact ⟨x1, x2⟩) (fun _ _ _ => rfl) kk
theorem Z_iald (hk : okK κ δ cc own mL ret rm) {c N : Nat} {i : Int} (hd : decode cc pc = .ok (.iaload, 1)) (hl : lay c = (100, N)) (hc : c < ρ.1) (hN : N < 2147483648) (h0 : 0 ≤ i) (h1 : i < N) (kk : ∀ v, v = M c i.toNat → -2147483648 ≤ v → v ≤ 2147483647 → Zj κ δ ad rt Q mL ρ (pc + 1) L (iv v :: S) M) : Zj κ δ ad rt Q mL ρ pc L (iv i :: .ref (ad c) :: S) M := by
  intro H locs ls hw hs hlo
  have hcell := hw.2 c hc
  rw [hl] at hcell
  dsimp only at hcell
  obtain ⟨h2, h3⟩ := hcell.2 (by decide)
  have hin : vp_in (Int32.ofInt i) N := zI_vin h0 h1 hN
  have hnat : (Int32.ofInt i).toNatClampNeg = i.toNat := zI_nat h0 (by omega)
  have hlt : i.toNat < N := by omega
  have h4 := h3 i.toNat hlt
  refine W.iald (v := iv (M c i.toNat)) hk.1 hk.2.1 h2 ((hk.2.2.2.2.2.1.2 0 _ rfl).1 N _) (fun q => by cases q) (by rw [arrV_size]; exact hin) (by rw [hnat, arrV_read _ _ hlt]; rfl) rfl rfl hd (kk _ rfl h4.1 h4.2 H locs ls hw hs hlo)
theorem Z_zald (hk : okK κ δ cc own mL ret rm) {c N : Nat} {i : Int} (hd : decode cc pc = .ok (.baload, 1)) (hl : lay c = (102, N)) (hc : c < ρ.1) (hN : N < 2147483648) (h0 : 0 ≤ i) (h1 : i < N) (kk : ∀ v, v = M c i.toNat → 0 ≤ v → v ≤ 1 → Zj κ δ ad rt Q mL ρ (pc + 1) L (iv v :: S) M) : Zj κ δ ad rt Q mL ρ pc L (iv i :: .ref (ad c) :: S) M := by
  intro H locs ls hw hs hlo
  have hcell := hw.2 c hc
  rw [hl] at hcell
  dsimp only at hcell
  obtain ⟨h2, h3⟩ := hcell.2 (by decide)
  have hin : vp_in (Int32.ofInt i) N := zI_vin h0 h1 hN
  have hnat : (Int32.ofInt i).toNatClampNeg = i.toNat := zI_nat h0 (by omega)
  have hlt : i.toNat < N := by omega
  have h4 := h3 i.toNat hlt
  refine W.zald (v := iv (M c i.toNat)) hk.1 hk.2.1 h2 ((hk.2.2.2.2.2.1.2 2 _ rfl).1 N _) (fun q => by cases q) (by rw [arrV_size]; exact hin) (by rw [hnat, arrV_read _ _ hlt]; rfl) rfl rfl hd (kk _ rfl h4.1 h4.2 H locs ls hw hs hlo)
theorem Z_cald (hk : okK κ δ cc own mL ret rm) {c N : Nat} {i : Int} (hd : decode cc pc = .ok (.caload, 1)) (hl : lay c = (103, N)) (hc : c < ρ.1) (hN : N < 2147483648) (h0 : 0 ≤ i) (h1 : i < N) (kk : ∀ v, v = M c i.toNat → 0 ≤ v → v ≤ 65535 → Zj κ δ ad rt Q mL ρ (pc + 1) L (iv v :: S) M) : Zj κ δ ad rt Q mL ρ pc L (iv i :: .ref (ad c) :: S) M := by
  intro H locs ls hw hs hlo
  have hcell := hw.2 c hc
  rw [hl] at hcell
  dsimp only at hcell
  obtain ⟨h2, h3⟩ := hcell.2 (by decide)
  have hin : vp_in (Int32.ofInt i) N := zI_vin h0 h1 hN
  have hnat : (Int32.ofInt i).toNatClampNeg = i.toNat := zI_nat h0 (by omega)
  have hlt : i.toNat < N := by omega
  have h4 := h3 i.toNat hlt
  refine W.cald (v := iv (M c i.toNat)) hk.1 hk.2.1 h2 ((hk.2.2.2.2.2.1.2 3 _ rfl).1 N _) (fun q => by cases q) (by rw [arrV_size]; exact hin) (by rw [hnat, arrV_read _ _ hlt]; rfl) rfl rfl hd (kk _ rfl h4.1 h4.2 H locs ls hw hs hlo)
theorem Z_lald (hk : okK κ δ cc own mL ret rm) {c N : Nat} {i : Int} (hd : decode cc pc = .ok (.laload, 1)) (hl : lay c = (101, N)) (hc : c < ρ.1) (hN : N < 2147483648) (h0 : 0 ≤ i) (h1 : i < N) (kk : ∀ v, v = M c i.toNat → -9223372036854775808 ≤ v → v ≤ 9223372036854775807 → Zj κ δ ad rt Q mL ρ (pc + 1) L (jv v :: S) M) : Zj κ δ ad rt Q mL ρ pc L (iv i :: .ref (ad c) :: S) M := by
  intro H locs ls hw hs hlo
  have hcell := hw.2 c hc
  rw [hl] at hcell
  dsimp only at hcell
  obtain ⟨h2, h3⟩ := hcell.2 (by decide)
  have hin : vp_in (Int32.ofInt i) N := zI_vin h0 h1 hN
  have hnat : (Int32.ofInt i).toNatClampNeg = i.toNat := zI_nat h0 (by omega)
  have hlt : i.toNat < N := by omega
  have h4 := h3 i.toNat hlt
  refine W.lald (v := jv (M c i.toNat)) hk.1 hk.2.1 h2 ((hk.2.2.2.2.2.1.2 1 _ rfl).1 N _) (fun q => by cases q) (by rw [arrV_size]; exact hin) (by rw [hnat, arrV_read _ _ hlt]; rfl) rfl rfl hd (kk _ rfl h4.1 h4.2 H locs ls hw hs hlo)
theorem n_char {x : Int} (h0 : 0 ≤ x) (h1 : x ≤ 65535) : narrow .char (iv x) = iv x := by
  have e : iv x = .int (nI x.toNat) := congrArg Value.int (Int32.toInt_inj.mp (by rw [zI_toInt (by omega) (by omega), nI_toInt (by omega)]; omega))
  rw [e]; exact (pk_charN (by omega)).1
theorem Z_iast (hk : okK κ δ cc own mL ret rm) {c N : Nat} {i x : Int} (hA : okA δ ad) (hd : decode cc pc = .ok (.iastore, 1)) (hl : lay c = (100, N)) (hc : c < ρ.1) (hN : N < 2147483648) (h0 : 0 ≤ i) (h1 : i < N) (x1 : -2147483648 ≤ x) (x2 : x ≤ 2147483647) (kk : Zj κ δ ad rt Q mL ρ (pc + 1) L S (up M c i.toNat x)) : Zj κ δ ad rt Q mL ρ pc L (iv x :: iv i :: .ref (ad c) :: S) M := by
  intro H locs ls hw hs hlo
  have hcell := hw.2 c hc
  rw [hl] at hcell
  dsimp only at hcell
  obtain ⟨h2, h3⟩ := hcell.2 (by decide)
  have hin : vp_in (Int32.ofInt i) N := zI_vin h0 h1 hN
  have hnat : (Int32.ofInt i).toNatClampNeg = i.toNat := zI_nat h0 (by omega)
  refine W.iast hk.1 hk.2.1 h2 ((hk.2.2.2.2.2.1.2 0 _ rfl).1 N _) (fun q => by cases q) (by rw [arrV_size]; exact hin) rfl rfl hd fun H1 e z oq => ?_
  rw [hnat] at e
  refine kk H1 _ ls (hw.set hA z oq (g := upr (M c) i.toNat x) ?_ _ up_eq (fun d hd => up_ne hd)) (hs.put z oq (hA.2 c)) hlo
  rw [hl]
  dsimp only
  refine ⟨fun h => absurd h (by decide), fun _ => ⟨?_, fun j hj => ?_⟩⟩
  · rw [e, arrV_store]
    congr 2
    funext j
    by_cases ej : j = i.toNat
    · subst ej
      simp only [updV, upr, if_true]
      exact rfl
    · simp only [updV, upr, if_neg ej]
  · by_cases ej : j = i.toNat
    · subst ej; rw [upr_eq]; exact ⟨x1, x2⟩
    · rw [upr_ne ej]; exact h3 j hj
theorem Z_zast (hk : okK κ δ cc own mL ret rm) {c N : Nat} {i x : Int} (hA : okA δ ad) (hd : decode cc pc = .ok (.bastore, 1)) (hl : lay c = (102, N)) (hc : c < ρ.1) (hN : N < 2147483648) (h0 : 0 ≤ i) (h1 : i < N) (x1 : 0 ≤ x) (x2 : x ≤ 1) (kk : Zj κ δ ad rt Q mL ρ (pc + 1) L S (up M c i.toNat x)) : Zj κ δ ad rt Q mL ρ pc L (iv x :: iv i :: .ref (ad c) :: S) M := by
  intro H locs ls hw hs hlo
  have hcell := hw.2 c hc
  rw [hl] at hcell
  dsimp only at hcell
  obtain ⟨h2, h3⟩ := hcell.2 (by decide)
  have hin : vp_in (Int32.ofInt i) N := zI_vin h0 h1 hN
  have hnat : (Int32.ofInt i).toNatClampNeg = i.toNat := zI_nat h0 (by omega)
  refine W.zast hk.1 hk.2.1 h2 ((hk.2.2.2.2.2.1.2 2 _ rfl).1 N _) (fun q => by cases q) (by rw [arrV_size]; exact hin) rfl rfl hd fun H1 e z oq => ?_
  rw [hnat] at e
  refine kk H1 _ ls (hw.set hA z oq (g := upr (M c) i.toNat x) ?_ _ up_eq (fun d hd => up_ne hd)) (hs.put z oq (hA.2 c)) hlo
  rw [hl]
  dsimp only
  refine ⟨fun h => absurd h (by decide), fun _ => ⟨?_, fun j hj => ?_⟩⟩
  · rw [e, arrV_store]
    congr 2
    funext j
    by_cases ej : j = i.toNat
    · subst ej
      simp only [updV, upr, if_true]
      exact n_bool x1 x2
    · simp only [updV, upr, if_neg ej]
  · by_cases ej : j = i.toNat
    · subst ej; rw [upr_eq]; exact ⟨x1, x2⟩
    · rw [upr_ne ej]; exact h3 j hj
theorem Z_cast (hk : okK κ δ cc own mL ret rm) {c N : Nat} {i x : Int} (hA : okA δ ad) (hd : decode cc pc = .ok (.castore, 1)) (hl : lay c = (103, N)) (hc : c < ρ.1) (hN : N < 2147483648) (h0 : 0 ≤ i) (h1 : i < N) (x1 : 0 ≤ x) (x2 : x ≤ 65535) (kk : Zj κ δ ad rt Q mL ρ (pc + 1) L S (up M c i.toNat x)) : Zj κ δ ad rt Q mL ρ pc L (iv x :: iv i :: .ref (ad c) :: S) M := by
  intro H locs ls hw hs hlo
  have hcell := hw.2 c hc
  rw [hl] at hcell
  dsimp only at hcell
  obtain ⟨h2, h3⟩ := hcell.2 (by decide)
  have hin : vp_in (Int32.ofInt i) N := zI_vin h0 h1 hN
  have hnat : (Int32.ofInt i).toNatClampNeg = i.toNat := zI_nat h0 (by omega)
  refine W.cast hk.1 hk.2.1 h2 ((hk.2.2.2.2.2.1.2 3 _ rfl).1 N _) (fun q => by cases q) (by rw [arrV_size]; exact hin) rfl rfl hd fun H1 e z oq => ?_
  rw [hnat] at e
  refine kk H1 _ ls (hw.set hA z oq (g := upr (M c) i.toNat x) ?_ _ up_eq (fun d hd => up_ne hd)) (hs.put z oq (hA.2 c)) hlo
  rw [hl]
  dsimp only
  refine ⟨fun h => absurd h (by decide), fun _ => ⟨?_, fun j hj => ?_⟩⟩
  · rw [e, arrV_store]
    congr 2
    funext j
    by_cases ej : j = i.toNat
    · subst ej
      simp only [updV, upr, if_true]
      exact n_char x1 x2
    · simp only [updV, upr, if_neg ej]
  · by_cases ej : j = i.toNat
    · subst ej; rw [upr_eq]; exact ⟨x1, x2⟩
    · rw [upr_ne ej]; exact h3 j hj
theorem Z_last (hk : okK κ δ cc own mL ret rm) {c N : Nat} {i x : Int} (hA : okA δ ad) (hd : decode cc pc = .ok (.lastore, 1)) (hl : lay c = (101, N)) (hc : c < ρ.1) (hN : N < 2147483648) (h0 : 0 ≤ i) (h1 : i < N) (x1 : -9223372036854775808 ≤ x) (x2 : x ≤ 9223372036854775807) (kk : Zj κ δ ad rt Q mL ρ (pc + 1) L S (up M c i.toNat x)) : Zj κ δ ad rt Q mL ρ pc L (jv x :: iv i :: .ref (ad c) :: S) M := by
  intro H locs ls hw hs hlo
  have hcell := hw.2 c hc
  rw [hl] at hcell
  dsimp only at hcell
  obtain ⟨h2, h3⟩ := hcell.2 (by decide)
  have hin : vp_in (Int32.ofInt i) N := zI_vin h0 h1 hN
  have hnat : (Int32.ofInt i).toNatClampNeg = i.toNat := zI_nat h0 (by omega)
  refine W.last hk.1 hk.2.1 h2 ((hk.2.2.2.2.2.1.2 1 _ rfl).1 N _) (fun q => by cases q) (by rw [arrV_size]; exact hin) rfl rfl hd fun H1 e z oq => ?_
  rw [hnat] at e
  refine kk H1 _ ls (hw.set hA z oq (g := upr (M c) i.toNat x) ?_ _ up_eq (fun d hd => up_ne hd)) (hs.put z oq (hA.2 c)) hlo
  rw [hl]
  dsimp only
  refine ⟨fun h => absurd h (by decide), fun _ => ⟨?_, fun j hj => ?_⟩⟩
  · rw [e, arrV_store]
    congr 2
    funext j
    by_cases ej : j = i.toNat
    · subst ej
      simp only [updV, upr, if_true]
      exact rfl
    · simp only [updV, upr, if_neg ej]
  · by_cases ej : j = i.toNat
    · subst ej; rw [upr_eq]; exact ⟨x1, x2⟩
    · rw [upr_ne ej]; exact h3 j hj
end ZMEM
