/-! what both sides are held against: plain functions of numbers -/
def b2 (p : Prop) [Decidable p] : Int := if p then 1 else 0
theorem b2_1 {p : Prop} [Decidable p] (h : p) : (1 : Int) = b2 p := by unfold b2; rw [if_pos h]
theorem b2_0 {p : Prop} [Decidable p] (h : ¬ p) : (0 : Int) = b2 p := by unfold b2; rw [if_neg h]
theorem b2_t {p : Prop} [Decidable p] (h : p) : b2 p = 1 := (b2_1 h).symm
theorem b2_f {p : Prop} [Decidable p] (h : ¬ p) : b2 p = 0 := (b2_0 h).symm
theorem b2_e0 {p : Prop} [Decidable p] : b2 p = 0 ↔ ¬ p := by
  unfold b2
  split <;> simp_all
theorem b2_e1 {p : Prop} [Decidable p] : b2 p = 1 ↔ p := by
  unfold b2
  split <;> simp_all
theorem b2_in (p : Prop) [Decidable p] : 0 ≤ b2 p ∧ b2 p ≤ 1 := by
  unfold b2
  split <;> omega
theorem b2_c {p q : Prop} [Decidable p] [Decidable q] (h : p ↔ q) : b2 p = b2 q := by
  unfold b2
  by_cases hp : p
  · rw [if_pos hp, if_pos (h.mp hp)]
  · rw [if_neg hp, if_neg (fun z => hp (h.mpr z))]
theorem b2_y {p : Prop} [Decidable p] {z : Int} (h : z = b2 p) (c : ¬ z = 0) : p := Decidable.byContradiction (fun q => c (h.trans (b2_f q)))
/-- the sum of f 0 .. f (n - 1) -/
def sm (f : Nat → Int) : Nat → Int
  | 0 => 0
  | n + 1 => sm f n + f n
theorem sm_0 (f : Nat → Int) : sm f 0 = 0 := rfl
theorem sm_s (f : Nat → Int) (n : Nat) : sm f (n + 1) = sm f n + f n := rfl
theorem sm_c {f g : Nat → Int} {n : Nat} (h : ∀ j, j < n → f j = g j) : sm f n = sm g n := by
  induction n with
  | zero => rfl
  | succ n ih => rw [sm_s, sm_s, ih (fun j hj => h j (by omega)), h n (by omega)]
theorem sm_le {f : Nat → Int} {n : Nat} {b : Int} (h : ∀ j, j < n → f j ≤ b) : sm f n ≤ n * b := by
  induction n with
  | zero => simp [sm]
  | succ n ih =>
    have h1 := ih (fun j hj => h j (by omega))
    have h2 := h n (by omega)
    rw [sm_s, show ((n + 1 : Nat) : Int) * b = n * b + b by rw [Int.natCast_succ, Int.add_mul, Int.one_mul]]
    omega
theorem sm_ge {f : Nat → Int} {n : Nat} (h : ∀ j, j < n → 0 ≤ f j) : 0 ≤ sm f n := by
  induction n with
  | zero => simp [sm]
  | succ n ih =>
    have h1 := ih (fun j hj => h j (by omega))
    have h2 := h n (by omega)
    rw [sm_s]
    omega
theorem tn_s {i : Int} (h : 0 ≤ i) : (i + 1).toNat = i.toNat + 1 := by omega
theorem sm_i {f : Nat → Int} {i : Int} (h : 0 ≤ i) : sm f (i + 1).toNat = sm f i.toNat + f i.toNat := by rw [tn_s h, sm_s]
/-- x is the first of 0 .. n - 1 of which P, -1: none -/
def FST (P : Nat → Prop) (n : Nat) (x : Int) : Prop := (x = -1 ∧ ∀ a, a < n → ¬ P a) ∨ ∃ a : Nat, a < n ∧ x = (a : Int) ∧ P a ∧ ∀ b, b < a → ¬ P b
theorem all_s {P : Nat → Prop} {i : Int} (h : 0 ≤ i) (ha : ∀ a, a < i.toNat → P a) (hp : P i.toNat) : ∀ a, a < (i + 1).toNat → P a := by
  intro a h1
  rw [tn_s h] at h1
  by_cases e : a = i.toNat
  · rw [e]; exact hp
  · exact ha a (by omega)
theorem all_0 {P : Nat → Prop} : ∀ a, a < (0 : Int).toNat → P a := fun a h => absurd h (Nat.not_lt_zero a)
/-- two tales clash: one witness, towns farther than nights -/
abbrev AP (W T N : Nat → Int) (a b : Nat) : Prop := W a = W b ∧ max (N a - N b) (N b - N a) < max (T a - T b) (T b - T a)
theorem AP_comm {W T N : Nat → Int} {a b : Nat} : AP W T N a b ↔ AP W T N b a := by
  unfold AP
  omega
