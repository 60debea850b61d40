abbrev Mem : Type := Nat → Nat → Int
abbrev Rt : Type := Nat → Nat → Option Nat
abbrev Dp : Type := va_G × (Nat → ClassId) × Nat × State
def lw_g : List Cond := lw_tbl.filter goodWord
def lowS (δ : Dp) (U : State) : Prop := δ.2.2.2.WarmedH U.vm ∧ δ.2.2.1 ≤ U.heap.size ∧ ∀ q, q < δ.2.2.1 → U.heap[q]? = δ.2.2.2.heap[q]?
abbrev Kp : Type := Program × Launch × Env × Room × State × MethodId × Array Value × List Frame × Method × Code
def iv (z : Int) : Value := .int (Int32.ofInt z)
def jv (z : Int) : Value := .long (Int64.ofInt z)
def upr (f : Nat → Int) (i : Nat) (v : Int) : Nat → Int := fun j => if j = i then v else f j
def up (M : Mem) (c i : Nat) (v : Int) : Mem := fun d => if d = c then upr (M c) i v else M d
theorem up_eq {M : Mem} {c i : Nat} {v : Int} : up M c i v c = upr (M c) i v := if_pos rfl
theorem up_ne {M : Mem} {c i d : Nat} {v : Int} (h : d ≠ c) : up M c i v d = M d := if_neg h
theorem upr_eq {f : Nat → Int} {i : Nat} {v : Int} : upr f i v i = v := if_pos rfl
theorem upr_ne {f : Nat → Int} {i j : Nat} {v : Int} (h : j ≠ i) : upr f i v j = f j := if_neg h
def fty : Nat → Nat → FieldType := fun k => match k with
  | 0 => tyX0
  | 1 => tyX1
  | 2 => tyX2
  | 3 => tyX3
  | 4 => tyX4
  | 5 => tyX5
  | 6 => tyX6
  | 7 => tyX7
  | 8 => tyX8
  | _ => tyX9
def elTy (k : Nat) : FieldType := if k = 100 then .int else if k = 101 then .long else if k = 102 then .boolean else .char
def layL : List (Nat × Nat) := [(8, 11), (2, 7), (100, 251), (100, 251), (100, 251), (100, 251), (100, 251), (100, 251), (0, 1), (101, 31), (7, 11), (100, 90), (102, 30), (5, 6), (100, 1800), (100, 30), (100, 30), (100, 10), (1, 4), (100, 64), (4, 10), (3, 16), (101, 14), (102, 4), (100, 4), (100, 20), (100, 20), (100, 20), (100, 360), (100, 700), (100, 8), (103, 700), (6, 7), (100, 150), (100, 25), (100, 25), (100, 5), (100, 5), (3, 16), (101, 14), (102, 4), (100, 4), (100, 20), (100, 20), (100, 20), (100, 360), (100, 700), (100, 8), (9, 113), (100, 700), (103, 7), (103, 8), (103, 7), (103, 4), (103, 4), (103, 5), (103, 2), (103, 4), (103, 4), (103, 4), (103, 4), (103, 5), (103, 3), (103, 3), (103, 9), (103, 5), (103, 4), (103, 2), (103, 3), (103, 3), (103, 4), (103, 5), (103, 5), (103, 4), (103, 6), (103, 5), (103, 4), (103, 4), (103, 5), (103, 3), (103, 3), (103, 7), (100, 1600), (100, 800), (101, 6), (102, 4), (100, 4), (100, 4), (100, 4), (100, 20), (100, 20), (100, 20), (101, 8), (100, 8), (102, 4), (100, 4), (100, 4), (100, 4), (100, 20), (100, 20), (100, 20), (100, 8), (100, 360), (102, 1000), (100, 251), (100, 251), (100, 251), (100, 251), (100, 251), (100, 251), (100, 90), (102, 30), (101, 32), (100, 1800), (100, 30), (100, 30), (100, 10), (101, 800), (100, 150), (100, 25), (100, 25)]
def lay (c : Nat) : Nat × Nat := layL.getD c (104, 0)
def tysL (δ : Dp) : List (ClassId × FieldType) := [(δ.2.1 100, .int), (δ.2.1 101, .long), (δ.2.1 102, .boolean), (δ.2.1 103, .char)]
def sv (ad : Nat → Nat) (rt : Rt) (ty : FieldType) (c i : Nat) (z : Int) : Value := match ty with
  | .long => jv z
  | .object _ => (match rt c i with | some d => .ref (ad d) | none => .null)
  | .array _ => (match rt c i with | some d => .ref (ad d) | none => .null)
  | _ => iv z
def inT (ty : FieldType) (z : Int) : Prop := match ty with
  | .int => -2147483648 ≤ z ∧ z ≤ 2147483647
  | .long => -9223372036854775808 ≤ z ∧ z ≤ 9223372036854775807
  | .boolean => 0 ≤ z ∧ z ≤ 1
  | .char => 0 ≤ z ∧ z ≤ 65535
  | _ => True
def cellIs (δ : Dp) (ad : Nat → Nat) (rt : Rt) (c k N : Nat) (f : Nat → Int) (H : Heap) : Prop :=
  (k < 100 → t_OB (ad c) (δ.1.1 k) N (δ.1.2 k) H (fun i => sv ad rt (fty k i) c i (f i)) ∧ ∀ i, i < N → inT (fty k i) (f i)) ∧
  (¬ k < 100 → H[ad c]? = some (arrV (δ.2.1 k) N (fun j => sv ad rt (elTy k) c j (f j))) ∧ ∀ j, j < N → inT (elTy k) (f j))
def wd (δ : Dp) (ad : Nat → Nat) (rt : Rt) (nc : Nat) (M : Mem) (H : Heap) : Prop :=
  H.size = δ.2.2.1 + nc ∧ ∀ c, c < nc → cellIs δ ad rt c (lay c).1 (lay c).2 (M c) H
def okA (δ : Dp) (ad : Nat → Nat) : Prop := (∀ a b, ad a = ad b → a = b) ∧ ∀ a, δ.2.2.1 ≤ ad a
def lcs (ls : Array Slot) (n : Nat) (L : List (Option Value)) : Prop := ls.size = n ∧ lv_wf ls ∧ ∀ (i : Nat) (v : Value), L[i]? = some (some v) → ls[i]? = some (.val v)
def Zj (κ : Kp) (δ : Dp) (ad : Nat → Nat) (rt : Rt) (Q : State → Prop) (mL : Nat) (ρ : Nat × Nat × Nat) (pc : Nat) (L : List (Option Value)) (S : List Value) (M : Mem) : Prop :=
  ∀ (H : Heap) (locs : List Loc) (ls : Array Slot), wd δ ad rt ρ.1 M H → va_S (fun q => δ.2.2.1 ≤ q) κ.2.2.2.2.1.heap H locs → lcs ls mL L →
    W κ.1 κ.2.1 κ.2.2.1 κ.2.2.2.1 κ.2.2.2.2.1 κ.2.2.2.2.2.1 κ.2.2.2.2.2.2.1 κ.2.2.2.2.2.2.2.1 κ.2.2.2.2.2.2.2.2.1 κ.2.2.2.2.2.2.2.2.2 H locs ρ.2.1 ρ.2.2 Q (F0 κ.2.2.2.2.2.1 pc ls S)
def okK (κ : Kp) (δ : Dp) (cc : ByteArray) (own : String) (mL : Nat) (ret : Option FieldType) (rm : Room) : Prop :=
  κ.1.tables.exec = Jvm.exec ∧ κ.2.2.2.2.2.2.2.2.2.code = cc ∧ κ.2.2.2.2.2.2.2.2.2.maxLocals = mL ∧ κ.2.2.2.2.1.vm.findClass own = some κ.2.2.2.2.2.1.cls ∧
  (∀ w ∈ lw_g, w.before κ.2.2.2.2.2.2.1 κ.2.2.2.2.1 = true) ∧ va_K δ.1 vwCl (tysL δ) κ.2.2.2.2.1 ∧ κ.2.2.2.2.2.2.2.2.1.sig.returnType = ret ∧ κ.2.2.2.2.2.2.2.2.1.locks = false ∧ κ.2.2.2.1 = rm ∧ lowS δ κ.2.2.2.2.1
theorem zI_add (a b : Int) : Int32.ofInt a + Int32.ofInt b = Int32.ofInt (a + b) := (Int32.ofInt_add a b).symm
theorem zI_sub (a b : Int) : Int32.ofInt a - Int32.ofInt b = Int32.ofInt (a - b) := (Int32.ofInt_sub a b).symm
theorem zI_mul (a b : Int) : Int32.ofInt a * Int32.ofInt b = Int32.ofInt (a * b) := (Int32.ofInt_mul a b).symm
theorem zJ_add (a b : Int) : Int64.ofInt a + Int64.ofInt b = Int64.ofInt (a + b) := (Int64.ofInt_add a b).symm
theorem zJ_sub (a b : Int) : Int64.ofInt a - Int64.ofInt b = Int64.ofInt (a - b) := (Int64.ofInt_sub a b).symm
theorem zJ_mul (a b : Int) : Int64.ofInt a * Int64.ofInt b = Int64.ofInt (a * b) := (Int64.ofInt_mul a b).symm
theorem zI_toInt {a : Int} (h1 : -2147483648 ≤ a) (h2 : a ≤ 2147483647) : (Int32.ofInt a).toInt = a := Int32.toInt_ofInt_of_le (by omega) (by omega)
theorem zJ_toInt {a : Int} (h1 : -9223372036854775808 ≤ a) (h2 : a ≤ 9223372036854775807) : (Int64.ofInt a).toInt = a := Int64.toInt_ofInt_of_le (by omega) (by omega)
theorem zI_lt {a b : Int} (a1 : -2147483648 ≤ a) (a2 : a ≤ 2147483647) (b1 : -2147483648 ≤ b) (b2 : b ≤ 2147483647) : Int32.ofInt a < Int32.ofInt b ↔ a < b := by
  rw [Int32.lt_iff_toInt_lt, zI_toInt a1 a2, zI_toInt b1 b2]
theorem zI_le {a b : Int} (a1 : -2147483648 ≤ a) (a2 : a ≤ 2147483647) (b1 : -2147483648 ≤ b) (b2 : b ≤ 2147483647) : Int32.ofInt a ≤ Int32.ofInt b ↔ a ≤ b := by
  rw [Int32.le_iff_toInt_le, zI_toInt a1 a2, zI_toInt b1 b2]
theorem zI_eq {a b : Int} (a1 : -2147483648 ≤ a) (a2 : a ≤ 2147483647) (b1 : -2147483648 ≤ b) (b2 : b ≤ 2147483647) : Int32.ofInt a = Int32.ofInt b ↔ a = b := by
  rw [← Int32.toInt_inj, zI_toInt a1 a2, zI_toInt b1 b2]
theorem zI_vin {i : Int} {n : Nat} (h0 : 0 ≤ i) (h1 : i < n) (hn : n < 2147483648) : vp_in (Int32.ofInt i) n := by
  rw [vp_in_iff, zI_toInt (by omega) (by omega)]; exact ⟨h0, h1⟩
theorem zI_nat {i : Int} (h0 : 0 ≤ i) (h1 : i ≤ 2147483647) : (Int32.ofInt i).toNatClampNeg = i.toNat := by
  rw [Int32.toNatClampNeg, zI_toInt (by omega) h1]
