section ZMEM
variable {κ : Kp} {δ : Dp} {ad : Nat → Nat} {rt : Rt} {Q : State → Prop} {mL : Nat} {ρ : Nat × Nat × Nat} {pc : Nat} {L : List (Option Value)} {S : List Value} {M : Mem} {cc : ByteArray} {own : String} {ret : Option FieldType} {rm : Room}
theorem mem_g {w : Cond} (h : w ∈ lw_tbl ∧ goodWord w = true) : w ∈ lw_g := List.mem_filter.mpr h
def FL (own : String) (idx k i : Nat) (fin : Bool) : Prop := ∃ q : vw_C, vwCl[k]? = some q ∧ i < q.2.2 ∧ Cond.fieldLink own idx (q.2.1 i).1 (q.2.1 i).2.1 (q.2.1 i).2.2.1 ∈ lw_g ∧ (q.2.1 i).2.2.2 = fin
def CL (k : Nat) : Prop := ∀ q : vw_C, vwCl[k]? = some q → (∀ w ∈ u_ws q.1 q.2.1 q.2.2, w ∈ lw_g) ∧ (∀ i, i < q.2.2 → parseFieldDescriptor (q.2.1 i).2.2.1 = some (fty k i)) ∧ (∀ a, a < q.2.2 → ∀ b, b < q.2.2 → a ≠ b → (q.2.1 a).2.1 ≠ (q.2.1 b).2.1)
end ZMEM
theorem iwX0 : ∀ w ∈ u_ws RX0 TX0 1, w ∈ lw_g := fun w h => mem_g ((by decide +kernel : ∀ w ∈ u_ws RX0 TX0 1, w ∈ lw_tbl ∧ goodWord w = true) w h)
theorem iwX1 : ∀ w ∈ u_ws RX1 TX1 4, w ∈ lw_g := fun w h => mem_g ((by decide +kernel : ∀ w ∈ u_ws RX1 TX1 4, w ∈ lw_tbl ∧ goodWord w = true) w h)
theorem iwX2 : ∀ w ∈ u_ws RX2 TX2 7, w ∈ lw_g := fun w h => mem_g ((by decide +kernel : ∀ w ∈ u_ws RX2 TX2 7, w ∈ lw_tbl ∧ goodWord w = true) w h)
theorem iwX3 : ∀ w ∈ u_ws RX3 TX3 16, w ∈ lw_g := fun w h => mem_g ((by decide +kernel : ∀ w ∈ u_ws RX3 TX3 16, w ∈ lw_tbl ∧ goodWord w = true) w h)
theorem iwX4 : ∀ w ∈ u_ws RX4 TX4 10, w ∈ lw_g := fun w h => mem_g ((by decide +kernel : ∀ w ∈ u_ws RX4 TX4 10, w ∈ lw_tbl ∧ goodWord w = true) w h)
theorem iwX5 : ∀ w ∈ u_ws RX5 TX5 6, w ∈ lw_g := fun w h => mem_g ((by decide +kernel : ∀ w ∈ u_ws RX5 TX5 6, w ∈ lw_tbl ∧ goodWord w = true) w h)
theorem iwX6 : ∀ w ∈ u_ws RX6 TX6 7, w ∈ lw_g := fun w h => mem_g ((by decide +kernel : ∀ w ∈ u_ws RX6 TX6 7, w ∈ lw_tbl ∧ goodWord w = true) w h)
theorem iwX7 : ∀ w ∈ u_ws RX7 TX7 11, w ∈ lw_g := fun w h => mem_g ((by decide +kernel : ∀ w ∈ u_ws RX7 TX7 11, w ∈ lw_tbl ∧ goodWord w = true) w h)
theorem iwX8 : ∀ w ∈ u_ws RX8 TX8 11, w ∈ lw_g := fun w h => mem_g ((by decide +kernel : ∀ w ∈ u_ws RX8 TX8 11, w ∈ lw_tbl ∧ goodWord w = true) w h)
theorem iwX9 : ∀ w ∈ u_ws RX9 TX9 113, w ∈ lw_g := fun w h => mem_g ((by decide +kernel : ∀ w ∈ u_ws RX9 TX9 113, w ∈ lw_tbl ∧ goodWord w = true) w h)
theorem clX0 : CL 0 := fun q h => by cases (Option.some.inj h : (RX0, TX0, 1) = q); exact ⟨iwX0, tyX0_ok, nmX0⟩
theorem clX1 : CL 1 := fun q h => by cases (Option.some.inj h : (RX1, TX1, 4) = q); exact ⟨iwX1, tyX1_ok, nmX1⟩
theorem clX2 : CL 2 := fun q h => by cases (Option.some.inj h : (RX2, TX2, 7) = q); exact ⟨iwX2, tyX2_ok, nmX2⟩
theorem clX3 : CL 3 := fun q h => by cases (Option.some.inj h : (RX3, TX3, 16) = q); exact ⟨iwX3, tyX3_ok, nmX3⟩
theorem clX4 : CL 4 := fun q h => by cases (Option.some.inj h : (RX4, TX4, 10) = q); exact ⟨iwX4, tyX4_ok, nmX4⟩
theorem clX5 : CL 5 := fun q h => by cases (Option.some.inj h : (RX5, TX5, 6) = q); exact ⟨iwX5, tyX5_ok, nmX5⟩
theorem clX6 : CL 6 := fun q h => by cases (Option.some.inj h : (RX6, TX6, 7) = q); exact ⟨iwX6, tyX6_ok, nmX6⟩
theorem clX7 : CL 7 := fun q h => by cases (Option.some.inj h : (RX7, TX7, 11) = q); exact ⟨iwX7, tyX7_ok, nmX7⟩
theorem clX8 : CL 8 := fun q h => by cases (Option.some.inj h : (RX8, TX8, 11) = q); exact ⟨iwX8, tyX8_ok, nmX8⟩
theorem clX9 : CL 9 := fun q h => by cases (Option.some.inj h : (RX9, TX9, 113) = q); exact ⟨iwX9, tyX9_ok, nmX9⟩
theorem cl_all : ∀ k, k < 10 → CL k := by
  intro k hk
  match k, hk with
  | 0, _ => exact clX0
  | 1, _ => exact clX1
  | 2, _ => exact clX2
  | 3, _ => exact clX3
  | 4, _ => exact clX4
  | 5, _ => exact clX5
  | 6, _ => exact clX6
  | 7, _ => exact clX7
  | 8, _ => exact clX8
  | 9, _ => exact clX9
