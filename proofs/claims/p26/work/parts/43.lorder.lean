def injB (t v : Nat) : Bool := !pm t v || (List.range t).all (fun p => (List.range t).all (fun q => !(dg t v p == dg t v q) || p == q))
theorem ij_2 : allR (injB 2) 2 0 = true := by decide +kernel
theorem ij_3 : allR (injB 3) 5 0 = true := by decide +kernel
theorem ij_4 : allR (injB 4) 8 0 = true := by decide +kernel
theorem ij_5 : allR (injB 5) 12 0 = true := by decide +kernel
theorem ij_ok {t v : Nat} (ht : t = 2 ∨ t = 3 ∨ t = 4 ∨ t = 5) (hv : v < t ^ t) : injB t v = true := by
  rcases ht with rfl | rfl | rfl | rfl
  · exact allR_of _ _ ij_2 v (Nat.zero_le _) (by show v < 0 + 2 ^ 2; omega)
  · exact allR_of _ _ ij_3 v (Nat.zero_le _) (by show v < 0 + 2 ^ 5; omega)
  · exact allR_of _ _ ij_4 v (Nat.zero_le _) (by show v < 0 + 2 ^ 8; omega)
  · exact allR_of _ _ ij_5 v (Nat.zero_le _) (by show v < 0 + 2 ^ 12; omega)
theorem dg_inj {t v : Nat} (ht : t = 2 ∨ t = 3 ∨ t = 4 ∨ t = 5) (hv : v < t ^ t) (hp : pm t v = true) : ∀ p q, p < t → q < t → dg t v p = dg t v q → p = q := by
  intro p q h1 h2 h3
  have h := ij_ok ht hv
  unfold injB at h
  rw [hp] at h
  simp only [Bool.not_true, Bool.false_or, List.all_eq_true, List.mem_range] at h
  have h := h p h1 q h2
  rw [h3] at h
  simp only [beq_self_eq_true, Bool.not_true, Bool.false_or, beq_iff_eq] at h
  exact h
def SF (f : Nat → Int) (i : Nat) : Nat → Int := fun j => cS f (j / 5) (j % 5) i
def AF (f : Nat → Int) (t i : Nat) : Nat → Int := fun j => cA f t (j / 5) (j % 5) i
theorem SF_at (f : Nat → Int) (i a b : Nat) (hb : b < 5) : SF f i (5 * a + b) = cS f a b i := by
  unfold SF
  rw [show (5 * a + b) / 5 = a from by omega, show (5 * a + b) % 5 = b from by omega]
theorem AF_at (f : Nat → Int) (t i a b : Nat) (hb : b < 5) : AF f t i (5 * a + b) = cA f t a b i := by
  unfold AF
  rw [show (5 * a + b) / 5 = a from by omega, show (5 * a + b) % 5 = b from by omega]
theorem cS_congr {f g : Nat → Int} {a p : Nat} : ∀ n, (∀ i, i < n → f (5 * i + p) = g (5 * i + p)) → cS f a p n = cS g a p n := by
  intro n
  induction n with
  | zero => intro _; rfl
  | succ n ih =>
    intro h
    show cS f a p n + (if f (5 * n + p) = a then 1 else 0) = cS g a p n + (if g (5 * n + p) = a then 1 else 0)
    rw [ih (fun i hi => h i (by omega)), h n (by omega)]
theorem cA1_congr {f g : Nat → Int} {i j a b : Nat} : ∀ n, (∀ p, p < n → f (5 * i + p) = g (5 * j + p)) → cA1 f i a b n = cA1 g j a b n := by
  intro n
  induction n with
  | zero => intro _; rfl
  | succ n ih =>
    intro h
    show cA1 f i a b n + (if 1 ≤ n ∧ f (5 * i + n - 1) = a ∧ f (5 * i + n) = b then 1 else 0) = cA1 g j a b n + (if 1 ≤ n ∧ g (5 * j + n - 1) = a ∧ g (5 * j + n) = b then 1 else 0)
    rw [ih (fun p hp => h p (by omega)), h n (by omega)]
    congr 1
    by_cases c : 1 ≤ n
    · rw [show 5 * i + n - 1 = 5 * i + (n - 1) from by omega, show 5 * j + n - 1 = 5 * j + (n - 1) from by omega, h (n - 1) (by omega)]
    · rw [if_neg (fun z => c z.1), if_neg (fun z => c z.1)]
theorem cA_congr {f g : Nat → Int} {t a b : Nat} : ∀ n, (∀ i p, i < n → p < t → f (5 * i + p) = g (5 * i + p)) → cA f t a b n = cA g t a b n := by
  intro n
  induction n with
  | zero => intro _; rfl
  | succ n ih =>
    intro h
    show cA f t a b n + cA1 f n a b t = cA g t a b n + cA1 g n a b t
    rw [ih (fun i p hi hp => h i p (by omega) hp), cA1_congr t (fun p hp => h n p (by omega) hp)]
theorem cA1_cB {f : Nat → Int} {d : Nat → Nat} {i a b : Nat} : ∀ n, (∀ p, p < n → f (5 * i + p) = (d p : Nat)) → cA1 f i a b n = sm (cB d a b) n := by
  intro n
  induction n with
  | zero => intro _; rfl
  | succ n ih =>
    intro h
    show cA1 f i a b n + (if 1 ≤ n ∧ f (5 * i + n - 1) = a ∧ f (5 * i + n) = b then 1 else 0) = sm (cB d a b) n + (if 1 ≤ n ∧ d (n - 1) = a ∧ d n = b then 1 else 0)
    rw [ih (fun p hp => h p (by omega))]
    congr 1
    by_cases c : 1 ≤ n
    · rw [show 5 * i + n - 1 = 5 * i + (n - 1) from by omega, h (n - 1) (by omega), h n (by omega)]
      by_cases c2 : d (n - 1) = a ∧ d n = b
      · rw [if_pos ⟨c, by omega, by omega⟩, if_pos ⟨c, c2⟩]
      · rw [if_neg (fun z => c2 ⟨by omega, by omega⟩), if_neg (fun z => c2 z.2)]
    · rw [if_neg (fun z => c z.1), if_neg (fun z => c z.1)]
theorem U2_congr {S A S' A' : Nat → Int} {t n : Int} {a : Nat} : ∀ w, (∀ b, b < w → S (5 * a + b) = S' (5 * a + b)) → (∀ b, b < w → A (5 * a + b) = A' (5 * a + b)) → U2 S A t n a w = U2 S' A' t n a w := by
  intro w
  induction w with
  | zero => intro _ _; rfl
  | succ w ih =>
    intro h1 h2
    show U2 S A t n a w + sq (S (5 * a + w) * t - n) + (if a = w then 0 else sq (A (5 * a + w) * t - n)) = U2 S' A' t n a w + sq (S' (5 * a + w) * t - n) + (if a = w then 0 else sq (A' (5 * a + w) * t - n))
    rw [ih (fun b hb => h1 b (by omega)) (fun b hb => h2 b (by omega)), h1 w (by omega), h2 w (by omega)]
theorem U1_congr {S A S' A' : Nat → Int} {t n : Int} {w : Nat} : ∀ v, (∀ a b, a < v → b < w → S (5 * a + b) = S' (5 * a + b)) → (∀ a b, a < v → b < w → A (5 * a + b) = A' (5 * a + b)) → U1 S A t n w v = U1 S' A' t n w v := by
  intro v
  induction v with
  | zero => intro _ _; rfl
  | succ v ih =>
    intro h1 h2
    show U1 S A t n w v + U2 S A t n v w = U1 S' A' t n w v + U2 S' A' t n v w
    rw [ih (fun a b ha hb => h1 a b (by omega) hb) (fun a b ha hb => h2 a b (by omega) hb), U2_congr w (fun b hb => h1 v b (by omega) hb) (fun b hb => h2 v b (by omega) hb)]
theorem sq_in {x c : Int} (h0 : -c ≤ x) (h1 : x ≤ c) : 0 ≤ sq x ∧ sq x ≤ c * c := by
  unfold sq
  by_cases h : 0 ≤ x
  · exact ⟨Int.mul_nonneg h h, Int.mul_le_mul h1 h1 h (by omega)⟩
  · have e : x * x = (-x) * (-x) := by rw [Int.neg_mul_neg]
    rw [e]
    exact ⟨Int.mul_nonneg (by omega) (by omega), Int.mul_le_mul (by omega) (by omega) (by omega) (by omega)⟩
theorem mul_in {x t : Int} (h0 : 0 ≤ x) (h1 : x ≤ 150) (t0 : 2 ≤ t) (t1 : t ≤ 5) : 0 ≤ x * t ∧ x * t ≤ 750 := by
  rcases (show t = 2 ∨ t = 3 ∨ t = 4 ∨ t = 5 from by omega) with e | e | e | e <;> rw [e] <;> omega
theorem U2_in {S A : Nat → Int} {t n : Int} {a : Nat} (t0 : 2 ≤ t) (t1 : t ≤ 5) (n0 : 0 ≤ n) (n1 : n ≤ 30) : ∀ w : Nat, (∀ b, b < w → 0 ≤ S (5 * a + b) ∧ S (5 * a + b) ≤ 150) → (∀ b, b < w → 0 ≤ A (5 * a + b) ∧ A (5 * a + b) ≤ 150) → 0 ≤ U2 S A t n a w ∧ U2 S A t n a w ≤ 1125000 * w := by
  intro w
  induction w with
  | zero => intro _ _; exact ⟨Int.le_refl 0, Int.le_refl 0⟩
  | succ w ih =>
    intro h1 h2
    have i := ih (fun b hb => h1 b (by omega)) (fun b hb => h2 b (by omega))
    have a1 := mul_in (h1 w (by omega)).1 (h1 w (by omega)).2 t0 t1
    have a2 := mul_in (h2 w (by omega)).1 (h2 w (by omega)).2 t0 t1
    have b1 := sq_in (x := S (5 * a + w) * t - n) (c := 750) (by omega) (by omega)
    have b2 := sq_in (x := A (5 * a + w) * t - n) (c := 750) (by omega) (by omega)
    show 0 ≤ U2 S A t n a w + sq (S (5 * a + w) * t - n) + (if a = w then 0 else sq (A (5 * a + w) * t - n)) ∧ U2 S A t n a w + sq (S (5 * a + w) * t - n) + (if a = w then 0 else sq (A (5 * a + w) * t - n)) ≤ 1125000 * ((w + 1 : Nat) : Int)
    push_cast
    split <;> omega
theorem U1_in {S A : Nat → Int} {t n : Int} {w : Nat} (hw : w ≤ 5) (t0 : 2 ≤ t) (t1 : t ≤ 5) (n0 : 0 ≤ n) (n1 : n ≤ 30) : ∀ v : Nat, (∀ a b, a < v → b < w → 0 ≤ S (5 * a + b) ∧ S (5 * a + b) ≤ 150) → (∀ a b, a < v → b < w → 0 ≤ A (5 * a + b) ∧ A (5 * a + b) ≤ 150) → 0 ≤ U1 S A t n w v ∧ U1 S A t n w v ≤ 5625000 * v := by
  intro v
  induction v with
  | zero => intro _ _; exact ⟨Int.le_refl 0, Int.le_refl 0⟩
  | succ v ih =>
    intro h1 h2
    have i := ih (fun a b ha hb => h1 a b (by omega) hb) (fun a b ha hb => h2 a b (by omega) hb)
    have u := U2_in (a := v) t0 t1 n0 n1 w (fun b hb => h1 v b (by omega) hb) (fun b hb => h2 v b (by omega) hb)
    show 0 ≤ U1 S A t n w v + U2 S A t n v w ∧ U1 S A t n w v + U2 S A t n v w ≤ 5625000 * ((v + 1 : Nat) : Int)
    push_cast
    omega
def UN (t n : Nat) (f : Nat → Int) : Int := U1 (SF f n) (AF f t n) t n t t
theorem UN_in {t n : Nat} {f : Nat → Int} (t0 : 2 ≤ t) (t1 : t ≤ 5) (n1 : n ≤ 30) : 0 ≤ UN t n f ∧ UN t n f ≤ 28125000 := by
  have := U1_in (S := SF f n) (A := AF f t n) (t := t) (n := n) (w := t) t1 (by omega) (by omega) (by omega) (by omega) t (fun a b _ hb => by rw [SF_at f n a b (by omega)]; have := cS_in f a b n; omega) (fun a b _ hb => by rw [AF_at f t n a b (by omega)]; have := cA_in f t1 a b n; omega)
  unfold UN
  omega
/-- the counts are those of the rows -/
def CC (S A f : Nat → Int) (t n : Nat) : Prop := ∀ a b, a < t → b < t → S (5 * a + b) = cS f a b n ∧ A (5 * a + b) = cA f t a b n
theorem UN_of {S A f : Nat → Int} {t n : Nat} (t1 : t ≤ 5) (h : CC S A f t n) : U1 S A t n t t = UN t n f := by
  unfold UN
  exact U1_congr t (fun a b ha hb => by rw [(h a b ha hb).1, SF_at f n a b (by omega)]) (fun a b ha hb => by rw [(h a b ha hb).2, AF_at f t n a b (by omega)])
theorem CC_F {f : Nat → Int} {t n : Nat} (t1 : t ≤ 5) : CC (SF f n) (AF f t n) f t n := fun a b _ hb => ⟨SF_at f n a b (by omega), AF_at f t n a b (by omega)⟩
/-- two fillings agree on the first n rows -/
def AG (t n : Nat) (f g : Nat → Int) : Prop := ∀ i p, i < n → p < t → f (5 * i + p) = g (5 * i + p)
theorem AG.of {t n : Nat} {f g : Nat → Int} (t1 : t ≤ 5) (h : ∀ j, j < 5 * n → f j = g j) : AG t n f g := fun i p hi hp => h _ (by omega)
theorem CC.ag {S A f g : Nat → Int} {t n : Nat} (h : CC S A f t n) (e : AG t n f g) : CC S A g t n := fun a b ha hb => ⟨by rw [(h a b ha hb).1]; exact cS_congr n (fun i hi => e i b hi hb), by rw [(h a b ha hb).2]; exact cA_congr n e⟩
theorem UN_congr {t n : Nat} {f g : Nat → Int} (t1 : t ≤ 5) (e : AG t n f g) : UN t n f = UN t n g := UN_of t1 ((CC_F t1).ag e)
theorem CC_step {S A S' A' f f' g : Nat → Int} {t i : Nat} (h : CC S A f t i) (e : AG t i f f') (hg : ∀ p, p < t → f' (5 * i + p) = g p) (hS : ∀ a b : Nat, a < t → b < t → S' (5 * a + b) = S (5 * a + b) + if g b = a then 1 else 0) (hA : ∀ a b : Nat, a < t → b < t → A' (5 * a + b) = A (5 * a + b) + cA1 g 0 a b t) : CC S' A' f' t (i + 1) := by
  intro a b ha hb
  have k := h.ag e a b ha hb
  constructor
  · show _ = cS f' a b i + (if f' (5 * i + b) = a then 1 else 0)
    rw [hS a b ha hb, k.1, hg b hb]
  · show _ = cA f' t a b i + cA1 f' i a b t
    rw [hA a b ha hb, k.2, cA1_congr (f := f') (g := g) (i := i) (j := 0) t (fun p hp => by rw [hg p hp]; congr 1; omega)]
theorem sg_congr {S A S' A' : Nat → Int} {d d' : Nat → Nat} {t : Nat} (hd : ∀ p, p < t → d p < t) (hdd : ∀ p, p < t → d p = d' p) (hS : ∀ a b, a < t → b < t → S (5 * a + b) = S' (5 * a + b)) (hA : ∀ a b, a < t → b < t → A (5 * a + b) = A' (5 * a + b)) : sg S A d t = sg S' A' d' t := by
  unfold sg
  apply sm_congr
  intro p hp
  rw [hS (d p) p (hd p hp) hp, hdd p hp]
  congr 1
  by_cases c : 1 ≤ p
  · rw [if_pos c, if_pos c, ← hdd p hp, hA _ _ (hd (p - 1) (by omega)) (hd p hp), hdd p hp, hdd (p - 1) (by omega)]
  · rw [if_neg c, if_neg c]
/-- of the numbers below b that spell a row, k has the least s, and is the smallest of these -/
def BB (s : Nat → Int) (t b k : Nat) : Prop := k < b ∧ pm t k = true ∧ ∀ w, w < b → pm t w = true → s k < s w ∨ (s k = s w ∧ k ≤ w)
theorem BB.same {s s' : Nat → Int} {t b k : Nat} (h : BB s t b k) (e : ∀ w, s w = s' w) : BB s' t b k := by
  rw [← show s = s' from funext e]
  exact h
theorem BB.mono {s s' : Nat → Int} {t b k : Nat} (h : BB s t b k) (e : ∀ v w, s v < s w → s' v < s' w) (e2 : ∀ v w, s v = s w → s' v = s' w) : BB s' t b k :=
  ⟨h.1, h.2.1, fun w h1 h2 => (h.2.2 w h1 h2).elim (fun z => Or.inl (e _ _ z)) (fun z => Or.inr ⟨e2 _ _ z.1, z.2⟩)⟩
theorem BB.eq {s : Nat → Int} {t b k k' : Nat} (h : BB s t b k) (h' : BB s t b k') : k = k' := by
  have a := h.2.2 k' h'.1 h'.2.1
  have c := h'.2.2 k h.1 h.2.1
  omega
theorem BB.skip {s : Nat → Int} {t b b' k : Nat} (h : BB s t b k) (hb : b ≤ b') (hn : ∀ w, b ≤ w → w < b' → pm t w = false) : BB s t b' k := by
  refine ⟨by have := h.1; omega, h.2.1, fun w h1 h2 => ?_⟩
  by_cases c : w < b
  · exact h.2.2 w c h2
  · rw [hn w (by omega) h1] at h2; cases h2
theorem BB.first {s : Nat → Int} {t b : Nat} (hp : pm t b = true) (hn : ∀ w, w < b → pm t w = false) : BB s t (b + 1) b := by
  refine ⟨by omega, hp, fun w h1 h2 => ?_⟩
  by_cases c : w < b
  · rw [hn w c] at h2; cases h2
  · right; have : w = b := by omega
    subst this
    exact ⟨rfl, Nat.le_refl _⟩
theorem BB.better {s : Nat → Int} {t b k : Nat} (h : BB s t b k) (hp : pm t b = true) (hs : s b < s k) : BB s t (b + 1) b := by
  refine ⟨by omega, hp, fun w h1 h2 => ?_⟩
  by_cases c : w < b
  · left; have := h.2.2 w c h2; omega
  · right; have : w = b := by omega
    subst this
    exact ⟨rfl, Nat.le_refl _⟩
theorem BB.keep {s : Nat → Int} {t b k : Nat} (h : BB s t b k) (hs : s k ≤ s b) : BB s t (b + 1) k := by
  refine ⟨by have := h.1; omega, h.2.1, fun w h1 h2 => ?_⟩
  by_cases c : w < b
  · exact h.2.2 w c h2
  · have : w = b := by omega
    subst this
    have := h.1
    omega
def sgK (f : Nat → Int) (t i k : Nat) : Int := sg (SF f i) (AF f t i) (dg t k) t
theorem sgK_of {S A f : Nat → Int} {t i : Nat} (t0 : 2 ≤ t) (t1 : t ≤ 5) (h : CC S A f t i) (k : Nat) : sg S A (dg t k) t = sgK f t i k :=
  sg_congr (fun p _ => dg_lt (by omega)) (fun p _ => rfl) (fun a b ha hb => by rw [(h a b ha hb).1, SF_at f i a b (by omega)]) (fun a b ha hb => by rw [(h a b ha hb).2, AF_at f t i a b (by omega)])
theorem sgK_congr {f g : Nat → Int} {t i : Nat} (t0 : 2 ≤ t) (t1 : t ≤ 5) (e : AG t i f g) (k : Nat) : sgK f t i k = sgK g t i k := sgK_of t0 t1 ((CC_F t1).ag e) k
/-- each of the first n rows is the best one behind those before it -/
def LD (t n : Nat) (f : Nat → Int) : Prop := ∀ i, i < n → ∃ k, BB (sgK f t i) t (t ^ t) k ∧ ∀ p, p < t → f (5 * i + p) = (dg t k p : Nat)
theorem LD_eq {t n : Nat} {f g : Nat → Int} (t0 : 2 ≤ t) (t1 : t ≤ 5) (hf : LD t n f) (hg : LD t n g) : ∀ m, m ≤ n → AG t m f g := by
  intro m
  induction m with
  | zero => intro _ i p hi; omega
  | succ m ih =>
    intro hm i p hi hp
    have e := ih (by omega)
    by_cases c : i < m
    · exact e i p c hp
    · have : i = m := by omega
      subst this
      obtain ⟨k, hk, dk⟩ := hf i (by omega)
      obtain ⟨k', hk', dk'⟩ := hg i (by omega)
      have : k = k' := hk.eq (hk'.same (fun w => (sgK_congr t0 t1 e w).symm))
      rw [dk p hp, dk' p hp, this]
theorem LD_step {S A f f' : Nat → Int} {t i k : Nat} (t0 : 2 ≤ t) (t1 : t ≤ 5) (h : LD t i f) (e : AG t i f f') (hc : CC S A f t i) (hb : BB (fun k => sg S A (dg t k) t) t (t ^ t) k) (hd : ∀ p, p < t → f' (5 * i + p) = (dg t k p : Nat)) : LD t (i + 1) f' := by
  intro j hj
  by_cases c : j < i
  · obtain ⟨k, hk, dk⟩ := h j c
    exact ⟨k, hk.same (fun w => sgK_congr t0 t1 (fun a p ha hp => e a p (by omega) hp) w), fun p hp => by rw [← dk p hp, e j p c hp]⟩
  · have : j = i := by omega
    subst this
    exact ⟨k, hb.same (fun w => sgK_of t0 t1 (hc.ag e) w), hd⟩
def VK (f : Nat → Int) (t i k : Nat) : Int := U1 (SF f i) (AF f t i) t ((i + 1 : Nat) : Int) t t + (2 * t * t * sgK f t i k + (2 * t - 1) * t * (t - 2 * ((i + 1 : Nat) : Int)))
theorem t_in {t : Nat} (t0 : 2 ≤ t) (t1 : t ≤ 5) : t = 2 ∨ t = 3 ∨ t = 4 ∨ t = 5 := by omega
theorem VK_lt {f : Nat → Int} {t i v w : Nat} (t0 : 2 ≤ t) (t1 : t ≤ 5) : (VK f t i v < VK f t i w → sgK f t i v < sgK f t i w) ∧ (VK f t i v = VK f t i w → sgK f t i v = sgK f t i w) := by
  unfold VK
  rcases t_in t0 t1 with rfl | rfl | rfl | rfl <;> constructor <;> intro h <;> omega
theorem VK_eq {f g : Nat → Int} {t i k : Nat} (t0 : 2 ≤ t) (t1 : t ≤ 5) (e : AG t i f g) (hk : k < t ^ t) (hp : pm t k = true) (hd : ∀ p, p < t → g (5 * i + p) = (dg t k p : Nat)) : UN t (i + 1) g = VK f t i k := by
  unfold UN VK
  rw [br (S := SF f i) (A := AF f t i) (d := dg t k) (fun p _ => dg_lt (by omega)) (dg_inj (t_in t0 t1) hk hp) (fun a b ha hb => ?_) (fun a b ha hb => ?_), br2 (t_in t0 t1)]
  · rfl
  · rw [SF_at g (i + 1) a b (by omega), SF_at f i a b (by omega)]
    show cS g a b i + (if g (5 * i + b) = a then 1 else 0) = _
    rw [hd b hb, cS_congr (f := g) (g := f) i (fun j hj => (e j b hj hb).symm)]
    congr 1
    by_cases c : dg t k b = a
    · rw [if_pos c, if_pos (by omega)]
    · rw [if_neg c, if_neg (by omega)]
  · rw [AF_at g t (i + 1) a b (by omega), AF_at f t i a b (by omega)]
    show cA g t a b i + cA1 g i a b t = _
    rw [cA1_cB (d := dg t k) t hd, cA_congr (f := g) (g := f) i (fun j p hj hp => (e j p hj hp).symm)]
theorem LDV_step {f f' : Nat → Int} {t i k : Nat} (t0 : 2 ≤ t) (t1 : t ≤ 5) (h : LD t i f) (e : AG t i f f') (hb : BB (VK f t i) t (t ^ t) k) (hd : ∀ p, p < t → f' (5 * i + p) = (dg t k p : Nat)) : LD t (i + 1) f' ∧ UN t (i + 1) f' = VK f t i k :=
  ⟨LD_step t0 t1 h e (CC_F t1) (hb.mono (fun v w => (VK_lt t0 t1).1) (fun v w => (VK_lt t0 t1).2)) hd, VK_eq t0 t1 e hb.1 hb.2.1 hd⟩
/-- what the orders of t things in n rows are told as -/
def OA (t n r : Int) : Prop := (2 ≤ t ∧ t ≤ 5 ∧ 1 ≤ n ∧ n ≤ 30 ∧ ∃ f, LD t.toNat n.toNat f ∧ r = UN t.toNat n.toNat f) ∨ (¬ (2 ≤ t ∧ t ≤ 5 ∧ 1 ≤ n ∧ n ≤ 30) ∧ r = -1)
theorem OA_eq {t n r r' : Int} (h : OA t n r) (h' : OA t n r') : r = r' := by
  rcases h with ⟨a, b, c, d, f, lf, e⟩ | ⟨h, e⟩
  · rcases h' with ⟨-, -, -, -, g, lg, e'⟩ | ⟨h', e'⟩
    · rw [e, e']
      exact UN_congr (by omega) (LD_eq (by omega) (by omega) lf lg _ (Nat.le_refl _))
    · exact absurd ⟨a, b, c, d⟩ h'
  · rcases h' with ⟨a, b, c, d, g, lg, e'⟩ | ⟨h', e'⟩
    · exact absurd ⟨a, b, c, d⟩ h
    · rw [e, e']
theorem OA_in {t n r : Int} (h : OA t n r) : -1 ≤ r ∧ r ≤ 28125000 := by
  rcases h with ⟨a, b, c, d, f, lf, e⟩ | ⟨h, e⟩
  · have := UN_in (t := t.toNat) (n := n.toNat) (f := f) (by omega) (by omega) (by omega)
    omega
  · omega
theorem dgs_at {t v p : Nat} (hp : p < t) : (dgs t v).getD p 0 = dg t v p := by
  unfold dgs
  simp [List.getD, List.getElem?_range hp]
theorem nx_none {t v : Nat} (ht : t = 2 ∨ t = 3 ∨ t = 4 ∨ t = 5) (hv : v < t ^ t) (hp : pm t v = true) (h : trn (dgs t v) (t - 1) = none) : nk t v = t ^ t := by
  have o := nx_ok ht hv
  have e : nxD (dgs t v) t = none := by unfold nxD; rw [h]
  unfold nxOk at o
  rw [hp, e, decide_eq_false (Nat.not_le.mpr hv)] at o
  simp only [Bool.not_true, Bool.false_or, Bool.and_eq_true, decide_eq_true_eq, beq_iff_eq] at o
  exact o.2
theorem nx_some {t v u : Nat} (ht : t = 2 ∨ t = 3 ∨ t = 4 ∨ t = 5) (hv : v < t ^ t) (hp : pm t v = true) (h : trn (dgs t v) (t - 1) = some u) : nk t v < t ^ t ∧ pm t (nk t v) = true ∧ v < nk t v ∧ ∀ j, j < t → dg t (nk t v) j = (if (if j ≤ u then j else t - 1 - (j - (u + 1))) = u then (dgs t v).getD (abv (dgs t v) u (t - 1)) 0 else if (if j ≤ u then j else t - 1 - (j - (u + 1))) = abv (dgs t v) u (t - 1) then (dgs t v).getD u 0 else (dgs t v).getD (if j ≤ u then j else t - 1 - (j - (u + 1))) 0) := by
  have o := nx_ok ht hv
  obtain ⟨l, hl, el⟩ : ∃ l, l = (List.range t).map (fun j => (if (if j ≤ u then j else t - 1 - (j - (u + 1))) = u then (dgs t v).getD (abv (dgs t v) u (t - 1)) 0 else if (if j ≤ u then j else t - 1 - (j - (u + 1))) = abv (dgs t v) u (t - 1) then (dgs t v).getD u 0 else (dgs t v).getD (if j ≤ u then j else t - 1 - (j - (u + 1))) 0)) ∧ nxD (dgs t v) t = some l := ⟨_, rfl, by unfold nxD; rw [h]⟩
  unfold nxOk at o
  rw [hp, el, decide_eq_false (Nat.not_le.mpr hv)] at o
  simp only [Bool.not_true, Bool.false_or, Bool.and_eq_true, decide_eq_true_eq, beq_iff_eq] at o
  obtain ⟨o1, ⟨o2, o3⟩, o4⟩ := o
  refine ⟨o2, o3, o1, fun j hj => ?_⟩
  rw [hl] at o4
  exact (List.map_inj_left.mp o4 j (List.mem_range.mpr hj)).symm
theorem nk_none {t v w : Nat} (h1 : v < w) (h2 : w < nk t v) : pm t w = false := nkF_none 400 v w h1 h2
/-- the i-th number that spells a row -/
def itn (t : Nat) : Nat → Nat
  | 0 => nk t 0
  | i + 1 => nk t (itn t i)
theorem it_end {t : Nat} (ht : t = 2 ∨ t = 3 ∨ t = 4 ∨ t = 5) : itn t 120 = t ^ t := by
  rcases ht with rfl | rfl | rfl | rfl <;> decide +kernel
theorem it_0 {t : Nat} (ht : t = 2 ∨ t = 3 ∨ t = 4 ∨ t = 5) : nk t 0 < t ^ t ∧ pm t (nk t 0) = true ∧ ∀ p, p < t → dg t (nk t 0) p = p := by
  rcases ht with rfl | rfl | rfl | rfl <;> decide +kernel
theorem it_none {t : Nat} (ht : t = 2 ∨ t = 3 ∨ t = 4 ∨ t = 5) : ∀ w, w < nk t 0 → pm t w = false := by
  intro w hw
  by_cases c : w = 0
  · subst c
    rcases ht with rfl | rfl | rfl | rfl <;> decide +kernel
  · exact nk_none (by omega) hw
theorem pw_n {t : Nat} (ht : t = 2 ∨ t = 3 ∨ t = 4 ∨ t = 5) : 4 ≤ t ^ t ∧ t ^ t ≤ 3125 := by
  rcases ht with rfl | rfl | rfl | rfl <;> decide
def DG (t k : Nat) (f : Nat → Int) : Prop := ∀ p, p < t → f p = (dg t k p : Nat)
def FB (s : Nat → Int) (t i : Nat) (more least : Int) (row best : Nat → Int) : Prop :=
  (more = 1 → itn t i < t ^ t ∧ pm t (itn t i) = true ∧ DG t (itn t i) row) ∧ (more = 0 → itn t i = t ^ t) ∧
  ((i = 0 ∧ least = 2147483647 ∧ ∀ w, w < itn t i → pm t w = false) ∨ (1 ≤ i ∧ ∃ k, BB s t (itn t i) k ∧ least = s k ∧ DG t k best))
def FC (s : Nat → Int) (t i : Nat) (least : Int) (best : Nat → Int) : Prop := ∃ k, BB s t (itn t i + 1) k ∧ least = s k ∧ DG t k best
theorem FB_start {s : Nat → Int} {t : Nat} {row best : Nat → Int} (ht : t = 2 ∨ t = 3 ∨ t = 4 ∨ t = 5) (h : ∀ p : Nat, p < t → row p = p) : FB s t 0 1 2147483647 row best :=
  ⟨fun _ => ⟨(it_0 ht).1, (it_0 ht).2.1, fun p hp => by rw [h p hp]; show _ = ((dg t (nk t 0) p : Nat) : Int); rw [(it_0 ht).2.2 p hp]⟩, fun z => absurd z (by decide), Or.inl ⟨rfl, rfl, it_none ht⟩⟩
theorem FB_new {s : Nat → Int} {t i : Nat} {least : Int} {row best best' : Nat → Int} (h : FB s t i 1 least row best) (hs : s (itn t i) < least) (hb : ∀ p, p < t → best' p = row p) : FC s t i (s (itn t i)) best' := by
  obtain ⟨h1, -, h3⟩ := h
  obtain ⟨a, b, c⟩ := h1 rfl
  refine ⟨itn t i, ?_, rfl, fun p hp => by rw [hb p hp]; exact c p hp⟩
  rcases h3 with ⟨-, -, z⟩ | ⟨-, k, z1, z2, -⟩
  · exact BB.first b z
  · exact z1.better b (by omega)
theorem FB_old {s : Nat → Int} {t i : Nat} {more least : Int} {row best : Nat → Int} (h : FB s t i more least row best) (hs : least ≤ s (itn t i)) (hm : s (itn t i) < 2147483647) : FC s t i least best := by
  obtain ⟨-, -, h3⟩ := h
  rcases h3 with ⟨-, z, -⟩ | ⟨-, k, z1, z2, z3⟩
  · omega
  · exact ⟨k, z1.keep (by omega), z2, z3⟩
theorem FB_next {s : Nat → Int} {t i : Nat} {r least : Int} {row best : Nat → Int} (h : FC s t i least best) (hi : itn t i < nk t (itn t i)) (h1 : r = 1 → nk t (itn t i) < t ^ t ∧ pm t (nk t (itn t i)) = true ∧ DG t (nk t (itn t i)) row) (h0 : r = 0 → nk t (itn t i) = t ^ t) : FB s t (i + 1) r least row best := by
  obtain ⟨k, z1, z2, z3⟩ := h
  exact ⟨h1, h0, Or.inr ⟨by omega, k, z1.skip (by show _ ≤ nk t (itn t i); omega) (fun w a b => nk_none (by omega) b), z2, z3⟩⟩
theorem FB_end {s : Nat → Int} {t i : Nat} {more least : Int} {row best : Nat → Int} (ht : t = 2 ∨ t = 3 ∨ t = 4 ∨ t = 5) (h : FB s t i more least row best) (hm : more = 0 ∨ more = 1) (he : i = 120 ∨ (more = 0 ∧ 1 ≤ i)) : ∃ k, BB s t (t ^ t) k ∧ DG t k best := by
  obtain ⟨h1, h2, h3⟩ := h
  have e : itn t i = t ^ t := by
    rcases he with z | z
    · rw [z]; exact it_end ht
    · exact h2 z.1
  rcases h3 with ⟨z, -⟩ | ⟨-, k, z1, -, z3⟩
  · omega
  · rw [e] at z1
    exact ⟨k, z1, z3⟩
theorem nk_up {t v : Nat} (ht : t = 2 ∨ t = 3 ∨ t = 4 ∨ t = 5) (hv : v < t ^ t) (hp : pm t v = true) : v < nk t v := by
  have o := nx_ok ht hv
  unfold nxOk at o
  rw [hp, decide_eq_false (Nat.not_le.mpr hv)] at o
  simp only [Bool.not_true, Bool.false_or, Bool.and_eq_true, decide_eq_true_eq] at o
  exact o.1
