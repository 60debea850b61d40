/-- what the start says: every word of the tables, what is told of the script and of the statics; where the new cells begin -/
def NS (δ : Dp) : Prop := ∃ a : Array Value, (∀ w ∈ tables_1, w.before a δ.2.2.2 = true) ∧ (Jvm.Cond.and given_1 narrow_1).before a δ.2.2.2 = true ∧ δ.2.2.1 = δ.2.2.2.heap.size
section SFOR
variable {κ : Kp} {δ : Dp} {ad : Nat → Nat} {rt : Rt} {Q : State → Prop} {mL : Nat} {ρ : Nat × Nat × Nat} {pc : Nat} {L : List (Option Value)} {S S0 : List Value} {M : Mem} {cc : ByteArray} {own : String} {ret : Option FieldType} {rm : Room}
theorem lowT (hk : okK κ δ cc own mL ret rm) {ty : FieldType} {t N : Nat} {f : Nat → Value} (h : va_T ty t N f (fun q => δ.2.2.1 ≤ q) δ.2.2.2 δ.2.2.2.heap) : va_T ty t N f (fun q => δ.2.2.1 ≤ q) κ.2.2.2.2.1 κ.2.2.2.2.1.heap := (va_T.moved hk.2.2.2.2.2.2.2.2.2.1.alike h).kept (fun a _ hA => hk.2.2.2.2.2.2.2.2.2.2.2 a (Nat.not_le.mp hA))
theorem lowZ (hk : okK κ δ cc own mL ret rm) {C n d : String} {v : Value} (h : va_Z C n d v (fun q => δ.2.2.1 ≤ q) δ.2.2.2 δ.2.2.2.heap) : va_Z C n d v (fun q => δ.2.2.1 ≤ q) κ.2.2.2.2.1 κ.2.2.2.2.1.heap := (va_Z.moved hk.2.2.2.2.2.2.2.2.2.1.alike h).kept (fun a _ hA => hk.2.2.2.2.2.2.2.2.2.2.2 a (Nat.not_le.mp hA))
theorem Z_gsN (hk : okK κ δ cc own mL ret rm) (hz : NS δ) {C n d host : String} {v : Value} {idx : Nat} (hZ : va_Z C n d v (fun q => δ.2.2.1 ≤ q) δ.2.2.2 δ.2.2.2.heap) (hl : Cond.fieldLinkNest own idx C n d host ∈ tables_1) (hd : decode cc pc = .ok (.getstatic idx, 3)) (kk : Zj κ δ ad rt Q mL ρ (pc + 3) L (v :: S) M) : Zj κ δ ad rt Q mL ρ pc L S M := by
  intro H locs ls hw hs hlo
  obtain ⟨a0, hz1, -⟩ := hz
  exact va_getsN hk.1 hk.2.1 (lowZ hk hZ) hs hk.2.2.2.1 (va_Nw.use rfl (va_Nw.warmF hk.2.2.2.2.2.2.2.2.2.1 (va_Nw.of rfl (hz1 _ hl)))) (fun _ h => h) hd (kk H locs ls hw hs hlo)
theorem Z_gs (hk : okK κ δ cc own mL ret rm) {C n d : String} {v : Value} {idx : Nat} (hZ : va_Z C n d v (fun q => δ.2.2.1 ≤ q) δ.2.2.2 δ.2.2.2.heap) (hl : Cond.fieldLink own idx C n d ∈ lw_g) (hd : decode cc pc = .ok (.getstatic idx, 3)) (kk : Zj κ δ ad rt Q mL ρ (pc + 3) L (v :: S) M) : Zj κ δ ad rt Q mL ρ pc L S M := by
  intro H locs ls hw hs hlo
  exact va_gets hk.1 hk.2.1 (lowZ hk hZ) hs hk.2.2.2.1 (hk.2.2.2.2.1 _ hl) (fun _ h => h) hd (kk H locs ls hw hs hlo)
theorem Z_flen (hk : okK κ δ cc own mL ret rm) {ty : FieldType} {t N : Nat} {f : Nat → Value} (hT : va_T ty t N f (fun q => δ.2.2.1 ≤ q) δ.2.2.2 δ.2.2.2.heap) (hN : N < 2147483648) (hd : decode cc pc = .ok (.arraylength, 1)) (kk : Zj κ δ ad rt Q mL ρ (pc + 1) L (iv N :: S) M) : Zj κ δ ad rt Q mL ρ pc L (.ref t :: S) M := by
  intro H locs ls hw hs hlo
  refine va_tlen hk.1 hk.2.1 (lowT hk hT) hs (v := Int32.ofInt N) ?_ hd (kk H locs ls hw hs hlo)
  rw [zI_nI (x := (N : Int)) (by omega) (by omega)]
  rfl
theorem Z_fild (hk : okK κ δ cc own mL ret rm) {t N : Nat} {g : Nat → Int32} (hT : va_T .int t N (fun j => .int (g j)) (fun q => δ.2.2.1 ≤ q) δ.2.2.2 δ.2.2.2.heap) {i : Int} (h0 : 0 ≤ i) (h1 : i < N) (hN : N < 2147483648) (hd : decode cc pc = .ok (.iaload, 1)) (kk : ∀ v : Int, v = (g i.toNat).toInt → -2147483648 ≤ v → v ≤ 2147483647 → Zj κ δ ad rt Q mL ρ (pc + 1) L (iv v :: S) M) : Zj κ δ ad rt Q mL ρ pc L (iv i :: .ref t :: S) M := by
  intro H locs ls hw hs hlo
  refine va_ti hk.1 hk.2.1 (lowT hk hT) hs (zI_vin h0 h1 hN) (v := iv (g i.toNat).toInt) ?_ hd (kk _ rfl (zI_lo _) (zI_hi _) H locs ls hw hs hlo)
  rw [zI_nat h0 (by omega)]
  unfold iv
  rw [zI_of]
theorem Z_fbld (hk : okK κ δ cc own mL ret rm) {t N : Nat} {g : Nat → Int32} (hT : va_T .byte t N (fun j => .int (g j)) (fun q => δ.2.2.1 ≤ q) δ.2.2.2 δ.2.2.2.heap) {i : Int} (h0 : 0 ≤ i) (h1 : i < N) (hN : N < 2147483648) (hd : decode cc pc = .ok (.baload, 1)) (kk : ∀ v : Int, v = (g i.toNat).toInt → -2147483648 ≤ v → v ≤ 2147483647 → Zj κ δ ad rt Q mL ρ (pc + 1) L (iv v :: S) M) : Zj κ δ ad rt Q mL ρ pc L (iv i :: .ref t :: S) M := by
  intro H locs ls hw hs hlo
  refine va_tb hk.1 hk.2.1 (lowT hk hT) hs (zI_vin h0 h1 hN) (v := iv (g i.toNat).toInt) ?_ hd (kk _ rfl (zI_lo _) (zI_hi _) H locs ls hw hs hlo)
  rw [zI_nat h0 (by omega)]
  unfold iv
  rw [zI_of]
end SFOR
def triL : List Int32 := [1, 1, 2, 1, 2, 1, 2, 1, 1, 2, 2, 1, 2, 1, 2, 1, 2, 2]
def parL : List Int32 := [1, 2, 2, 1]
theorem ns_tri {δ : Dp} (hz : NS δ) : ∃ t : Nat, va_T .int t 18 (fun j => .int (triL.getD j 0)) (fun q => δ.2.2.1 ≤ q) δ.2.2.2 δ.2.2.2.heap ∧ va_Z "TastingHouse" "TRIANGLE_ORDERS" "[I" (.ref t) (fun q => δ.2.2.1 ≤ q) δ.2.2.2 δ.2.2.2.heap := by
  obtain ⟨a, h1, h2, h3⟩ := hz
  have hs := flat_of_before _ h2
  have hA : ∀ q : Nat, q < δ.2.2.2.heap.size → ¬ δ.2.2.1 ≤ q := fun q hq => by rw [h3]; omega
  have hel : ∀ j, j < 18 → Cond.eq (.elem (.static "TastingHouse" "TRIANGLE_ORDERS" "[I") (.int (Int32.ofNat j))) (.int (triL.getD j 0)) ∈ flatC (Jvm.Cond.and given_1 narrow_1) := by decide +kernel
  obtain ⟨t, ht, hT⟩ := va_Tof (N := 18) (f := fun j => .int (triL.getD j 0)) (A := fun q => δ.2.2.1 ≤ q) (by decide) (hs (Cond.arrayOf (.static "TastingHouse" "TRIANGLE_ORDERS" "[I") .int) (by decide +kernel)) (va_eqt (hs (Cond.eq (.length (.static "TastingHouse" "TRIANGLE_ORDERS" "[I")) (.int 18)) (by decide +kernel))) (fun j hj => va_eqt (hs _ (hel j hj))) hA
  exact ⟨t, hT, va_Zref (h1 _ (List.mem_of_getElem? (i := 683) (by decide +kernel))) (h1 _ (List.mem_of_getElem? (i := 1) (by decide +kernel))) ht hA⟩
theorem ns_par {δ : Dp} (hz : NS δ) : ∃ t : Nat, va_T .int t 4 (fun j => .int (parL.getD j 0)) (fun q => δ.2.2.1 ≤ q) δ.2.2.2 δ.2.2.2.heap ∧ va_Z "TastingHouse" "PAIR_ORDERS" "[I" (.ref t) (fun q => δ.2.2.1 ≤ q) δ.2.2.2 δ.2.2.2.heap := by
  obtain ⟨a, h1, h2, h3⟩ := hz
  have hs := flat_of_before _ h2
  have hA : ∀ q : Nat, q < δ.2.2.2.heap.size → ¬ δ.2.2.1 ≤ q := fun q hq => by rw [h3]; omega
  have hel : ∀ j, j < 4 → Cond.eq (.elem (.static "TastingHouse" "PAIR_ORDERS" "[I") (.int (Int32.ofNat j))) (.int (parL.getD j 0)) ∈ flatC (Jvm.Cond.and given_1 narrow_1) := by decide +kernel
  obtain ⟨t, ht, hT⟩ := va_Tof (N := 4) (f := fun j => .int (parL.getD j 0)) (A := fun q => δ.2.2.1 ≤ q) (by decide) (hs (Cond.arrayOf (.static "TastingHouse" "PAIR_ORDERS" "[I") .int) (by decide +kernel)) (va_eqt (hs (Cond.eq (.length (.static "TastingHouse" "PAIR_ORDERS" "[I")) (.int 4)) (by decide +kernel))) (fun j hj => va_eqt (hs _ (hel j hj))) hA
  exact ⟨t, hT, va_Zref (h1 _ (List.mem_of_getElem? (i := 685) (by decide +kernel))) (h1 _ (List.mem_of_getElem? (i := 1) (by decide +kernel))) ht hA⟩
