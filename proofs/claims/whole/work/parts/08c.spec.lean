/-! a sheet read as events -/
def EVK (it : Nat → Int) (j : Nat) : Prop := 0 ≤ it (3 * j) ∧ it (3 * j) ≤ 2 ∧ 0 ≤ it (3 * j + 1) ∧ it (3 * j + 1) ≤ 23 ∧ 0 ≤ it (3 * j + 2) ∧ it (3 * j + 2) ≤ 9
def RDX (it : Nat → Int) (n : Nat) (sz x : Int) : Prop := 0 ≤ x ∧ (∀ j : Nat, (j : Int) < x → 3 * j + 2 < n ∧ EVK it j ∧ sz + j < 8) ∧ ((n : Int) ≤ 3 * x + 2 ∨ ¬ EVK it x.toNat ∨ sz + x = 8)
theorem RDX_u {it : Nat → Int} {n : Nat} {sz x y : Int} (hx : RDX it n sz x) (hy : RDX it n sz y) : x = y := by
  obtain ⟨x0, xa, xe⟩ := hx
  obtain ⟨y0, ya, ye⟩ := hy
  rcases Int.lt_trichotomy x y with h | h | h
  · have q := ya x.toNat (by omega)
    rcases xe with e | e | e
    · omega
    · exact absurd q.2.1 e
    · omega
  · exact h
  · have q := xa y.toNat (by omega)
    rcases ye with e | e | e
    · omega
    · exact absurd q.2.1 e
    · omega
def RDA (old it : Nat → Int) (sz x : Int) (o : Nat) : Nat → Int := fun e => if sz ≤ (e : Int) ∧ (e : Int) < sz + x then it (3 * (e - sz.toNat) + o) else old e
theorem RDA_0 {old it : Nat → Int} {sz : Int} {o : Nat} : RDA old it sz 0 o = old := by
  funext e
  unfold RDA
  rw [if_neg (by omega)]
theorem RDA_s {old it a : Nat → Int} {sz x v : Int} {o k : Nat} (hs : 0 ≤ sz) (hx : 0 ≤ x) (ha : a = RDA old it sz x o) (hk : k = (sz + x).toNat) (hv : v = it (3 * x.toNat + o)) : up1 a k v = RDA old it sz (x + 1) o := by
  subst ha
  subst hk
  subst hv
  funext e
  unfold up1 RDA
  by_cases h : e = (sz + x).toNat
  · rw [if_pos h, if_pos (by omega), show e - sz.toNat = x.toNat by omega]
  · rw [if_neg h]
    by_cases g : sz ≤ (e : Int) ∧ (e : Int) < sz + x
    · rw [if_pos g, if_pos (by omega)]
    · rw [if_neg g, if_neg (by omega)]
