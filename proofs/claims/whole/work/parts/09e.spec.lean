/-! the reference's countsAll: looked for downwards -/
def DWN (P : Nat → Prop) (k n y : Int) : Prop := (y = -1 ∧ ∀ a : Nat, k < (a : Int) → (a : Int) < n → ¬ P a) ∨ ∃ a : Nat, k < (a : Int) ∧ (a : Int) < n ∧ y = (a : Int) ∧ P a ∧ ∀ b : Nat, k < (b : Int) → b < a → ¬ P b
theorem DWN_0 {P : Nat → Prop} {k n : Int} (h : k = n - 1) : DWN P k n (-1) := Or.inl ⟨rfl, fun a h1 h2 => by omega⟩
theorem DWN_y {P : Nat → Prop} {k n y : Int} (h0 : 0 ≤ k) (hk : k < n) (hp : P k.toNat) : DWN P (k - 1) n k := Or.inr ⟨k.toNat, by omega, by omega, by omega, hp, fun b h1 h2 => by omega⟩
theorem DWN_n {P : Nat → Prop} {k n y : Int} (h0 : 0 ≤ k) (hp : ¬ P k.toNat) (h : DWN P k n y) : DWN P (k - 1) n y := by
  have e : ∀ b : Nat, k - 1 < (b : Int) → ¬ k < (b : Int) → ¬ P b := fun b h1 h2 => by
    rw [show b = k.toNat by omega]
    exact hp
  rcases h with ⟨h1, h2⟩ | ⟨a, h1, h2, h3, h4, h5⟩
  · refine Or.inl ⟨h1, fun b hb hn => ?_⟩
    by_cases q : k < (b : Int)
    · exact h2 b q hn
    · exact e b hb q
  · refine Or.inr ⟨a, by omega, h2, h3, h4, fun b hb hn => ?_⟩
    by_cases q : k < (b : Int)
    · exact h5 b q hn
    · exact e b hb q
theorem DWN_e {P : Nat → Prop} {k n y : Int} (hk : k = -1) (hn : 0 ≤ n) (h : DWN P k n y) : FST P n.toNat y := by
  rcases h with ⟨h1, h2⟩ | ⟨a, h1, h2, h3, h4, h5⟩
  · exact Or.inl ⟨h1, fun a ha => h2 a (by omega) (by omega)⟩
  · exact Or.inr ⟨a, by omega, h3, h4, fun b hb => h5 b (by omega) hb⟩
theorem CNT_s {lo : Int} {k m : Nat} {K EN EX N T W C C' : Nat → Int} (h : CNT lo k m K EN EX N T W C) (hs : ∀ i, i < k → C' i = C i) (hk : C' k = 1 ↔ ((k : Int) ≠ lo ∧ ¬ SPO K EN EX N T W m k ∧ ∀ a, a < k → ¬ (C a = 1 ∧ AP W T N a k))) : CNT lo (k + 1) m K EN EX N T W C' := by
  intro i hi
  by_cases q : i = k
  · subst q
    rw [hk]
    have e : (∀ a, a < i → ¬ (C' a = 1 ∧ AP W T N a i)) ↔ ∀ a, a < i → ¬ (C a = 1 ∧ AP W T N a i) := ⟨fun g a ha => by rw [← hs a ha]; exact g a ha, fun g a ha => by rw [hs a ha]; exact g a ha⟩
    rw [e]
  · have hi2 : i < k := by omega
    rw [hs i hi2, h i hi2]
    have e : (∀ a, a < i → ¬ (C' a = 1 ∧ AP W T N a i)) ↔ ∀ a, a < i → ¬ (C a = 1 ∧ AP W T N a i) := ⟨fun g a ha => by rw [← hs a (by omega)]; exact g a ha, fun g a ha => by rw [hs a (by omega)]; exact g a ha⟩
    rw [e]
theorem FST_none {P : Nat → Prop} {n : Nat} {x : Int} (h : FST P n x) : x = -1 ↔ ∀ a, a < n → ¬ P a := by
  rcases h with ⟨h1, h2⟩ | ⟨a, h1, h2, h3, h4⟩
  · exact ⟨fun _ => h2, fun _ => h1⟩
  · exact ⟨fun q => by omega, fun q => absurd h3 (q a h1)⟩
