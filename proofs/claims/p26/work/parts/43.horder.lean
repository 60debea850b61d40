/-- place p of the row that the number v spells, of t things -/
def dg (t v p : Nat) : Nat := v / t ^ (t - 1 - p) % t
def pm (t v : Nat) : Bool := (List.range t).all (fun a => (List.range t).any (fun p => dg t v p == a))
/-- the next number above v that spells a row with each thing once; t^t if there is none (f: how far to look) -/
def nkF (t : Nat) : Nat → Nat → Nat
  | 0, v => v
  | f + 1, v => if t ^ t ≤ v + 1 then t ^ t else if pm t (v + 1) then v + 1 else nkF t f (v + 1)
def nk (t v : Nat) : Nat := nkF t 400 v
theorem nkF_none {t : Nat} : ∀ f v w, v < w → w < nkF t f v → pm t w = false := by
  intro f
  induction f with
  | zero => intro v w h1 h2; exact absurd h2 (by show ¬ w < v; omega)
  | succ f ih =>
    intro v w h1 h2
    have e : nkF t (f + 1) v = if t ^ t ≤ v + 1 then t ^ t else if pm t (v + 1) then v + 1 else nkF t f (v + 1) := rfl
    rw [e] at h2
    by_cases c1 : t ^ t ≤ v + 1
    · rw [if_pos c1] at h2; omega
    · rw [if_neg c1] at h2
      by_cases c2 : pm t (v + 1) = true
      · rw [if_pos c2] at h2; omega
      · rw [if_neg c2] at h2
        by_cases c3 : w = v + 1
        · subst c3
          exact Bool.eq_false_iff.mpr c2
        · exact ih (v + 1) w (by omega) h2
/-- true of all of 2^d numbers from lo on: by halves -/
def allR (f : Nat → Bool) : Nat → Nat → Bool
  | 0, lo => f lo
  | d + 1, lo => allR f d lo && allR f d (lo + 2 ^ d)
theorem allR_of {f : Nat → Bool} : ∀ d lo, allR f d lo = true → ∀ v, lo ≤ v → v < lo + 2 ^ d → f v = true := by
  intro d
  induction d with
  | zero => intro lo h v h1 h2; have : v = lo := by omega
            subst this
            exact h
  | succ d ih =>
    intro lo h v h1 h2
    have h : (allR f d lo && allR f d (lo + 2 ^ d)) = true := h
    rw [Bool.and_eq_true] at h
    have e : 2 ^ (d + 1) = 2 ^ d + 2 ^ d := by rw [Nat.pow_succ]; omega
    by_cases c : v < lo + 2 ^ d
    · exact ih lo h.1 v h1 c
    · exact ih (lo + 2 ^ d) h.2 v (by omega) (by omega)
def trn (l : List Nat) : Nat → Option Nat
  | 0 => none
  | j + 1 => if l.getD j 0 ≤ l.getD (j + 1) 0 then some j else trn l j
def abv (l : List Nat) (u : Nat) : Nat → Nat
  | 0 => 0
  | j + 1 => if u < j + 1 ∧ l.getD (j + 1) 0 < l.getD u 0 then abv l u j else j + 1
def nxD (l : List Nat) (t : Nat) : Option (List Nat) := match trn l (t - 1) with
  | none => none
  | some u => some ((List.range t).map (fun j =>
      let ab := abv l u (t - 1)
      let k := if j ≤ u then j else t - 1 - (j - (u + 1))
      if k = u then l.getD ab 0 else if k = ab then l.getD u 0 else l.getD k 0))
def dgs (t v : Nat) : List Nat := (List.range t).map (dg t v)
def nxOk (t v : Nat) : Bool := !pm t v || decide (t ^ t ≤ v) || (decide (v < nk t v) && (match nxD (dgs t v) t with
  | none => nk t v == t ^ t
  | some l => decide (nk t v < t ^ t) && pm t (nk t v) && l == dgs t (nk t v)))
theorem nx_2 : allR (nxOk 2) 2 0 = true := by decide +kernel
theorem nx_3 : allR (nxOk 3) 5 0 = true := by decide +kernel
theorem nx_4 : allR (nxOk 4) 8 0 = true := by decide +kernel
theorem nx_5 : allR (nxOk 5) 12 0 = true := by decide +kernel
theorem nx_ok {t v : Nat} (ht : t = 2 ∨ t = 3 ∨ t = 4 ∨ t = 5) (hv : v < t ^ t) : nxOk t v = true := by
  rcases ht with rfl | rfl | rfl | rfl
  · exact allR_of _ _ nx_2 v (Nat.zero_le _) (by show v < 0 + 2 ^ 2; omega)
  · exact allR_of _ _ nx_3 v (Nat.zero_le _) (by show v < 0 + 2 ^ 5; omega)
  · exact allR_of _ _ nx_4 v (Nat.zero_le _) (by show v < 0 + 2 ^ 8; omega)
  · exact allR_of _ _ nx_5 v (Nat.zero_le _) (by show v < 0 + 2 ^ 12; omega)
def sq (x : Int) : Int := x * x
theorem sq_up (s t n : Int) : sq ((s + 1) * t - n) = sq (s * t - n) + t * (2 * (s * t) - 2 * n + t) := by
  unfold sq
  have e : (s + 1) * t = s * t + t := by rw [Int.add_mul, Int.one_mul]
  rw [e]
  generalize s * t = y
  have h : y + t - n = (y - n) + t := by omega
  rw [h, Int.add_mul, Int.mul_add, Int.mul_add]
  generalize hx : y - n = x
  have h2 : 2 * y - 2 * n + t = 2 * x + t := by omega
  rw [h2, Int.mul_add]
  have h3 : t * (2 * x) = x * t + t * x := by rw [Int.mul_left_comm, Int.mul_comm t x]; omega
  rw [h3]
  omega
/-- the unevenness out of two arrays of 25 -/
def U2 (S A : Nat → Int) (t n : Int) (a : Nat) : Nat → Int
  | 0 => 0
  | b + 1 => U2 S A t n a b + sq (S (5 * a + b) * t - n) + (if a = b then 0 else sq (A (5 * a + b) * t - n))
def U1 (S A : Nat → Int) (t n : Int) (w : Nat) : Nat → Int
  | 0 => 0
  | a + 1 => U1 S A t n w a + U2 S A t n a w
/-- how many of the first rows have a at the place p -/
def cS (f : Nat → Int) (a p : Nat) : Nat → Int
  | 0 => 0
  | i + 1 => cS f a p i + (if f (5 * i + p) = a then 1 else 0)
/-- in row i: at how many of the places 1 .. p - 1 stands b, just behind a -/
def cA1 (f : Nat → Int) (i a b : Nat) : Nat → Int
  | 0 => 0
  | p + 1 => cA1 f i a b p + (if 1 ≤ p ∧ f (5 * i + p - 1) = a ∧ f (5 * i + p) = b then 1 else 0)
def cA (f : Nat → Int) (t a b : Nat) : Nat → Int
  | 0 => 0
  | i + 1 => cA f t a b i + cA1 f i a b t
