/-! the reference's sheets -/
theorem CUT_sm0 : ∀ v, v < 41 → toB ((v : Nat) : Int) = ((v : Nat) : Int) ∧ toS ((v : Nat) : Int) = ((v : Nat) : Int) := by decide +kernel
theorem CUT_sm {f v : Int} (h : 0 ≤ v ∧ v ≤ 40) : CUT f v = v := by
  have q := CUT_sm0 v.toNat (by omega)
  rw [show ((v.toNat : Nat) : Int) = v by omega] at q
  unfold CUT
  split
  · exact q.1
  · split
    · exact q.2
    · rfl
def CPY (A : Nat → Int) (src dst n b : Nat) : Int := if dst ≤ b ∧ b < dst + n then A (src + (b - dst)) else A b
theorem CPY_0 {A : Nat → Int} {src dst : Nat} : CPY A src dst 0 = A := by
  funext b
  unfold CPY
  rw [if_neg (by omega)]
theorem CPY_s {A B : Nat → Int} {src dst n k : Nat} {v : Int} (hB : B = CPY A src dst n) (hk : k = dst + n) (hv : v = A (src + n)) : up1 B k v = CPY A src dst (n + 1) := by
  subst hB
  subst hk
  subst hv
  funext b
  unfold up1 CPY
  by_cases e : b = dst + n
  · rw [if_pos e, if_pos (by omega), show b - dst = n by omega]
  · rw [if_neg e]
    by_cases g : dst ≤ b ∧ b < dst + n
    · rw [if_pos g, if_pos (by omega)]
    · rw [if_neg g, if_neg (by omega)]
def WRT (f : Nat → Int) (base : Nat) (A : Nat → Int) (n b : Nat) : Int := if base ≤ b ∧ b < base + n then f (b - base) else A b
theorem WRT_0 {f A : Nat → Int} {base : Nat} : WRT f base A 0 = A := by
  funext b
  unfold WRT
  rw [if_neg (by omega)]
theorem WRT_s {f A B : Nat → Int} {base n k : Nat} {v : Int} (hB : B = WRT f base A n) (hk : k = base + n) (hv : v = f n) : up1 B k v = WRT f base A (n + 1) := by
  subst hB
  subst hk
  subst hv
  funext b
  unfold up1 WRT
  by_cases e : b = base + n
  · rw [if_pos e, if_pos (by omega), show b - base = n by omega]
  · rw [if_neg e]
    by_cases g : base ≤ b ∧ b < base + n
    · rw [if_pos g, if_pos (by omega)]
    · rw [if_neg g, if_neg (by omega)]
theorem up_rw {M N : Mem} {k j : Nat} {v : Int} (hM : N = up M k j v) : N k = up1 (M k) j v := by rw [hM, up_row]
theorem up_of {M N : Mem} {k j a : Nat} {v : Int} (hM : N = up M k j v) (h : a ≠ k) : N a = M a := by rw [hM, up_off h]
