def sm (f : Nat → Int) : Nat → Int
  | 0 => 0
  | n + 1 => sm f n + f n
theorem sm_s (f : Nat → Int) (n : Nat) : sm f (n + 1) = sm f n + f n := rfl
theorem sm_congr {f g : Nat → Int} : ∀ n, (∀ j, j < n → f j = g j) → sm f n = sm g n := by
  intro n
  induction n with
  | zero => intro _; rfl
  | succ n ih => intro h; rw [sm_s, sm_s, ih (fun j hj => h j (by omega)), h n (by omega)]
theorem sm_add (f g : Nat → Int) : ∀ n, sm (fun j => f j + g j) n = sm f n + sm g n := by
  intro n
  induction n with
  | zero => rfl
  | succ n ih => rw [sm_s, sm_s, sm_s, ih]; omega
theorem sm_zero : ∀ n, sm (fun _ => 0) n = 0 := by
  intro n
  induction n with
  | zero => rfl
  | succ n ih => rw [sm_s, ih]; rfl
theorem sm_mul (f : Nat → Int) (c : Int) : ∀ n, sm f n * c = sm (fun j => f j * c) n := by
  intro n
  induction n with
  | zero => exact Int.zero_mul c
  | succ n ih => rw [sm_s, sm_s, Int.add_mul, ih]
theorem sm_none {f : Nat → Int} {x : Nat} : ∀ n, n ≤ x → sm (fun j => if j = x then f j else 0) n = 0 := by
  intro n
  induction n with
  | zero => intro _; rfl
  | succ n ih => intro h; rw [sm_s, ih (by omega), if_neg (by omega)]; rfl
theorem sm_one {f : Nat → Int} {x : Nat} : ∀ n, x < n → sm (fun j => if j = x then f j else 0) n = f x := by
  intro n
  induction n with
  | zero => intro h; omega
  | succ n ih =>
    intro h
    rw [sm_s]
    by_cases e : n = x
    · subst e; rw [sm_none n (Nat.le_refl n), if_pos rfl]; omega
    · rw [ih (by omega), if_neg e]; omega
theorem sm_comm (F : Nat → Nat → Int) (w : Nat) : ∀ n, sm (fun a => sm (fun b => F a b) w) n = sm (fun b => sm (fun a => F a b) n) w := by
  intro n
  induction n with
  | zero => show (0 : Int) = sm (fun _ => 0) w; rw [sm_zero]
  | succ n ih =>
    rw [sm_s, ih, ← sm_add]
    exact sm_congr w (fun j _ => rfl)
def gn (t n s : Int) : Int := t * (2 * (s * t) - 2 * n + t)
theorem sq_dl {s s' t n : Int} (h : s' = s ∨ s' = s + 1) : sq (s' * t - n) = sq (s * t - n) + (s' - s) * gn t n s := by
  rcases h with h | h
  · subst h
    rw [Int.sub_self, Int.zero_mul]
    omega
  · subst h
    rw [sq_up, show s + 1 - s = 1 from by omega, Int.one_mul]
    rfl
theorem U2_dl {S A S' A' : Nat → Int} {t n : Int} {a : Nat} : ∀ w, (∀ b, b < w → S' (5 * a + b) = S (5 * a + b) ∨ S' (5 * a + b) = S (5 * a + b) + 1) → (∀ b, b < w → A' (5 * a + b) = A (5 * a + b) ∨ A' (5 * a + b) = A (5 * a + b) + 1) →
    U2 S' A' t n a w = U2 S A t n a w + sm (fun b => (S' (5 * a + b) - S (5 * a + b)) * gn t n (S (5 * a + b)) + (if a = b then 0 else (A' (5 * a + b) - A (5 * a + b)) * gn t n (A (5 * a + b)))) w := by
  intro w
  induction w with
  | zero => intro _ _; rfl
  | succ w ih =>
    intro h1 h2
    have i := ih (fun b hb => h1 b (by omega)) (fun b hb => h2 b (by omega))
    show U2 S' A' t n a w + sq (S' (5 * a + w) * t - n) + (if a = w then 0 else sq (A' (5 * a + w) * t - n)) = U2 S A t n a w + sq (S (5 * a + w) * t - n) + (if a = w then 0 else sq (A (5 * a + w) * t - n)) + (sm _ w + _)
    rw [i, sq_dl (h1 w (by omega))]
    dsimp only
    by_cases c : a = w
    · rw [if_pos c, if_pos c, if_pos c]; omega
    · rw [if_neg c, if_neg c, if_neg c, sq_dl (h2 w (by omega))]; omega
theorem U1_dl {S A S' A' : Nat → Int} {t n : Int} {w : Nat} : ∀ v, (∀ a b, a < v → b < w → S' (5 * a + b) = S (5 * a + b) ∨ S' (5 * a + b) = S (5 * a + b) + 1) → (∀ a b, a < v → b < w → A' (5 * a + b) = A (5 * a + b) ∨ A' (5 * a + b) = A (5 * a + b) + 1) →
    U1 S' A' t n w v = U1 S A t n w v + sm (fun a => sm (fun b => (S' (5 * a + b) - S (5 * a + b)) * gn t n (S (5 * a + b)) + (if a = b then 0 else (A' (5 * a + b) - A (5 * a + b)) * gn t n (A (5 * a + b)))) w) v := by
  intro v
  induction v with
  | zero => intro _ _; rfl
  | succ v ih =>
    intro h1 h2
    have i := ih (fun a b ha hb => h1 a b (by omega) hb) (fun a b ha hb => h2 a b (by omega) hb)
    show U1 S' A' t n w v + U2 S' A' t n v w = U1 S A t n w v + U2 S A t n v w + (sm _ v + _)
    rw [i, U2_dl w (fun b hb => h1 v b (by omega) hb) (fun b hb => h2 v b (by omega) hb)]
    dsimp only
    omega
/-- b stands just behind a at the place q -/
def cB (d : Nat → Nat) (a b q : Nat) : Int := if 1 ≤ q ∧ d (q - 1) = a ∧ d q = b then 1 else 0
theorem cB_in {d : Nat → Nat} {a b t : Nat} (hi : ∀ p q, p < t → q < t → d p = d q → p = q) : ∀ n, n ≤ t → sm (cB d a b) n = 0 ∨ (sm (cB d a b) n = 1 ∧ ∃ q, q < n ∧ d q = b) := by
  intro n
  induction n with
  | zero => intro _; left; rfl
  | succ n ih =>
    intro hn
    rw [sm_s]
    by_cases c : 1 ≤ n ∧ d (n - 1) = a ∧ d n = b
    · have e : cB d a b n = 1 := if_pos c
      rw [e]
      rcases ih (by omega) with h | ⟨h, q, hq, hb⟩
      · right; exact ⟨by omega, n, by omega, c.2.2⟩
      · exact absurd (hi q n (by omega) (by omega) (by rw [hb, c.2.2])) (by omega)
    · have e : cB d a b n = 0 := if_neg c
      rw [e]
      rcases ih (by omega) with h | ⟨h, q, hq, hb⟩
      · left; omega
      · right; exact ⟨by omega, q, by omega, hb⟩
theorem br_S {g : Nat → Nat → Int} {d : Nat → Nat} {t : Nat} (hd : ∀ p, p < t → d p < t) : sm (fun a => sm (fun b => (if d b = a then 1 else 0) * g a b) t) t = sm (fun p => g (d p) p) t := by
  rw [sm_comm]
  apply sm_congr
  intro p hp
  rw [sm_congr (g := fun a => if a = d p then g a p else 0) t (fun a _ => by
    by_cases c : d p = a
    · rw [if_pos c, if_pos c.symm, Int.one_mul]
    · rw [if_neg c, if_neg (fun z => c z.symm), Int.zero_mul])]
  exact sm_one (f := fun a => g a p) t (hd p hp)
theorem br_A {g : Nat → Nat → Int} {d : Nat → Nat} {t : Nat} (hd : ∀ p, p < t → d p < t) (hi : ∀ p q, p < t → q < t → d p = d q → p = q) : sm (fun a => sm (fun b => if a = b then 0 else sm (cB d a b) t * g a b) t) t = sm (fun p => if 1 ≤ p then g (d (p - 1)) (d p) else 0) t := by
  have e1 : ∀ a b, (if a = b then 0 else sm (cB d a b) t * g a b) = sm (fun q => if a = b then 0 else cB d a b q * g a b) t := by
    intro a b
    by_cases c : a = b
    · rw [if_pos c, sm_congr (g := fun _ => 0) t (fun j _ => if_pos c), sm_zero]
    · rw [if_neg c, sm_mul, sm_congr t (fun j _ => (if_neg c).symm)]
  rw [sm_congr t (fun a _ => sm_congr t (fun b _ => e1 a b))]
  rw [sm_congr t (fun a _ => sm_comm (fun b q => if a = b then 0 else cB d a b q * g a b) t t)]
  rw [sm_comm (fun a q => sm (fun b => if a = b then 0 else cB d a b q * g a b) t)]
  apply sm_congr
  intro q hq
  by_cases c : 1 ≤ q
  · rw [if_pos c]
    have hne : d (q - 1) ≠ d q := fun z => by have := hi _ _ (by omega) hq z; omega
    have e2 : ∀ a, a < t → sm (fun b => if a = b then 0 else cB d a b q * g a b) t = if a = d (q - 1) then g a (d q) else 0 := by
      intro a ha
      by_cases ca : a = d (q - 1)
      · rw [if_pos ca, sm_congr (g := fun b => if b = d q then g a b else 0) t (fun b _ => by
          by_cases cb : b = d q
          · have : cB d a b q = 1 := if_pos ⟨c, ca.symm, cb.symm⟩
            rw [if_pos cb, if_neg (fun z => hne (by rw [← ca, z, cb])), this, Int.one_mul]
          · have : cB d a b q = 0 := if_neg (fun z => cb z.2.2.symm)
            rw [if_neg cb, this, Int.zero_mul]
            split <;> rfl)]
        exact sm_one (f := fun b => g a b) t (hd q hq)
      · rw [if_neg ca, sm_congr (g := fun _ => 0) t (fun b _ => by
          have : cB d a b q = 0 := if_neg (fun z => ca z.2.1.symm)
          rw [this, Int.zero_mul]
          split <;> rfl), sm_zero]
    rw [sm_congr t e2]
    exact sm_one (f := fun a => g a (d q)) t (hd _ (by omega))
  · rw [if_neg c, sm_congr (g := fun _ => 0) t (fun a _ => by
      rw [sm_congr (g := fun _ => 0) t (fun b _ => by
        have : cB d a b q = 0 := if_neg (fun z => c z.1)
        rw [this, Int.zero_mul]
        split <;> rfl), sm_zero]), sm_zero]
theorem br {S A S' A' : Nat → Int} {d : Nat → Nat} {t : Nat} {n : Int} (hd : ∀ p, p < t → d p < t) (hi : ∀ p q, p < t → q < t → d p = d q → p = q) (hS : ∀ a b, a < t → b < t → S' (5 * a + b) = S (5 * a + b) + if d b = a then 1 else 0) (hA : ∀ a b, a < t → b < t → A' (5 * a + b) = A (5 * a + b) + sm (cB d a b) t) :
    U1 S' A' t n t t = U1 S A t n t t + (sm (fun p => gn t n (S (5 * d p + p))) t + sm (fun p => if 1 ≤ p then gn t n (A (5 * d (p - 1) + d p)) else 0) t) := by
  rw [U1_dl (S := S) (A := A) t (fun a b ha hb => by rw [hS a b ha hb]; split <;> omega) (fun a b ha hb => by rw [hA a b ha hb]; rcases cB_in (a := a) (b := b) hi t (Nat.le_refl t) with h | ⟨h, -⟩ <;> omega)]
  congr 1
  rw [← br_S (g := fun a b => gn t n (S (5 * a + b))) hd, ← br_A (g := fun a b => gn t n (A (5 * a + b))) hd hi, ← sm_add]
  apply sm_congr
  intro a ha
  rw [← sm_add]
  apply sm_congr
  intro b hb
  have e1 : S' (5 * a + b) - S (5 * a + b) = if d b = a then 1 else 0 := by rw [hS a b ha hb]; omega
  have e2 : A' (5 * a + b) - A (5 * a + b) = sm (cB d a b) t := by rw [hA a b ha hb]; omega
  rw [e1, e2]
/-- the sum of the counts that the row d would raise -/
def sg (S A : Nat → Int) (d : Nat → Nat) (t : Nat) : Int := sm (fun p => S (5 * d p + p) + (if 1 ≤ p then A (5 * d (p - 1) + d p) else 0)) t
theorem br2 {S A : Nat → Int} {d : Nat → Nat} {t : Nat} {n : Int} (ht : t = 2 ∨ t = 3 ∨ t = 4 ∨ t = 5) : sm (fun p => gn t n (S (5 * d p + p))) t + sm (fun p => if 1 ≤ p then gn t n (A (5 * d (p - 1) + d p)) else 0) t = 2 * t * t * sg S A d t + (2 * t - 1) * t * (t - 2 * n) := by
  unfold sg
  rw [← sm_add]
  rcases ht with rfl | rfl | rfl | rfl <;> simp [sm, gn] <;> omega
