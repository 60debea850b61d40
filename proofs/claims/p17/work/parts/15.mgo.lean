theorem St.ofDrop {M M' : Mem} {a : Nat} {s : Int} (h : St M a s) (r : RP M' a s) (e5 : M' 48 79 = M 48 79) (e3 : M' 83 = M 83) (W : M' 48 45 ≤ M 48 45) : St M' a s :=
  ⟨r, fun j h1 h2 => by rw [e3]; exact h.2 j (by omega) (by omega)⟩
theorem St.pop {M M' : Mem} {a : Nat} {s : Int} (h : St M a s) (h1 : 1 ≤ M 48 45) (e1 : M' 48 43 = M 48 43) (e4 : M' 48 45 = M 48 45 - 1) (e5 : M' 48 79 = M 48 79) (e2 : M' 82 = M 82) (e3 : M' 83 = M 83) : St M' a (s + bn (M 83 (M 48 45 - 1).toNat)) :=
  ⟨h.1.waitPop h1 e1 e2 e3 e4, fun j h1 h2 => by rw [e3]; exact h.2 j (by omega) (by omega)⟩
theorem St.dropA {M M' : Mem} {a : Nat} {s : Int} (h : St M a s) (h1 : 1 ≤ M 48 45) (e1 : M' 48 43 = M 48 43 + 1) (e4 : M' 48 45 = M 48 45 - 1) (e5 : M' 48 79 = M 48 79) (e2 : M' 82 = upr (M 82) (M 48 43).toNat (M 83 (M 48 45 - 1).toNat)) (e3 : M' 83 = M 83) (hs : 1 ≤ s) (hc : bn (M 83 (M 48 45 - 1).toNat) = 1) : St M' a s :=
  ⟨h.1.drop h1 e1 e2 e3 e4 hs (Or.inl hc), fun j h1 h2 => by rw [e3]; exact h.2 j (by omega) (by omega)⟩
theorem St.bump {M M' : Mem} {a : Nat} {s : Int} (h : St M a s) (h1 : 1 ≤ M 48 45) (hc : M 83 (M 48 45 - 1).toNat = 21 ∨ M 83 (M 48 45 - 1).toNat = 22) (e1 : M' 48 43 = M 48 43) (e4 : M' 48 45 = M 48 45) (e5 : M' 48 79 = M 48 79) (e2 : M' 82 = M 82) (e3 : M' 83 = upr (M 83) (M 48 45 - 1).toNat (M 83 (M 48 45 - 1).toNat + 2)) : St M' a (s - 1) := by
  refine ⟨?_, fun j h1 h2 => ?_⟩
  · obtain ⟨h3, h4, h5, h6, h7⟩ := h.1
    refine ⟨by rw [e1]; exact h3, by rw [e4]; exact h4, by rw [e1]; exact h5, by rw [e1, e2]; exact h6, ?_⟩
    have hn : (M 48 45).toNat = (M 48 45 - 1).toNat + 1 := by omega
    rw [e1, e2, h7, e4, e3, hn]
    show Bc _ _ + bn _ + s = Bc _ _ + bn _ + (s - 1)
    rw [Bc_up _ (Nat.le_refl _), upr_eq]
    rcases hc with q | q <;> rw [q] <;> simp only [bn] <;> omega
  · rw [e3]
    by_cases ej : j = (M 48 45 - 1).toNat
    · rw [ej, upr_eq]; right; unfold isMk; omega
    · rw [upr_ne ej]; exact h.2 j (by omega) (by omega)
theorem TopM.same {M M' : Mem} {r : Int} (h : TopM M r) (e4 : M' 48 45 = M 48 45) (e5 : M' 48 79 = M 48 79) (e3 : M' 83 = M 83) : TopM M' r := by
  unfold TopM at *
  rw [e3, e4, e5]
  exact h
theorem TopM.at {M M' : Mem} {r : Int} (h : TopM M r) (hr : r ≠ -1) (h0 : 0 ≤ M 48 79) (W : M' 48 45 ≤ M 48 45) (hb : M 48 79 ≤ M' 48 45) (g : ∀ j : Nat, M' 48 45 ≤ j → (j : Int) < M 48 45 → ¬ isMk (M 83 j)) (e : M' 48 45 = M 48 79 ∨ isMk (M 83 (M' 48 45 - 1).toNat)) : M 48 79 < M' 48 45 ∧ M 83 (M' 48 45 - 1).toNat = r := by
  rcases h with h | ⟨hm, k, h1, h2, h3, h4⟩
  · exact absurd h.1 hr
  · have hk : (k : Int) < M' 48 45 := by
      rcases Int.lt_or_le (k : Int) (M' 48 45) with z | z
      · exact z
      · exact absurd (by rw [h3]; exact hm) (g k z h2)
    have he := e.resolve_left (by omega)
    have : k = (M' 48 45 - 1).toNat := by
      rcases Nat.lt_or_ge k (M' 48 45 - 1).toNat with z | z
      · exact absurd he (h4 _ z (by omega))
      · omega
    exact ⟨by omega, by rw [← this]; exact h3⟩
/-- what waits below the base stays -/
def KepB (M M' : Mem) : Prop := ∀ j : Nat, (j : Int) < M 48 79 → M' 83 j = M 83 j
theorem KepB.rf (M : Mem) : KepB M M := fun _ _ => rfl
theorem KepB.same {M M1 M' : Mem} (h : KepB M M1) (e : M' 83 = M1 83) : KepB M M' := fun j hj => by rw [e]; exact h j hj
theorem KepB.push {M M1 M' : Mem} {k : Nat} {v : Int} (h : KepB M M1) (hk : M 48 79 ≤ k) (e : M' 83 = upr (M1 83) k v) : KepB M M' := fun j hj => by rw [e, upr_ne (by omega)]; exact h j hj
/-- below the base no signs of arithmetic wait -/
def WT (M : Mem) : Prop := ∀ j : Nat, (j : Int) < M 48 79 → 14 ≤ M 83 j
theorem bn_pl {c : Int} (h : c = 1 ∨ c = 2 ∨ c = 3 ∨ c = 4) : bn c = 1 := by unfold bn; rw [if_pos (by omega)]
