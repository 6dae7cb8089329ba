/-! the next charge to ask -/
noncomputable def bC (p : Prop) : Int := @b2 p (Classical.propDecidable p)
theorem bC_t {p : Prop} (h : p) : bC p = 1 := @b2_t p (Classical.propDecidable p) h
theorem bC_f {p : Prop} (h : ¬ p) : bC p = 0 := @b2_f p (Classical.propDecidable p) h
theorem bC_in (p : Prop) : 0 ≤ bC p ∧ bC p ≤ 1 := @b2_in p (Classical.propDecidable p)
theorem bC_b (p : Prop) [Decidable p] : bC p = b2 p := by
  by_cases h : p
  · rw [bC_t h, b2_t h]
  · rw [bC_f h, b2_f h]
/-- how many of the witnesses that fit leave him cleared of charge c; how many fit -/
noncomputable def fTL (P : Nat → Prop) (cb : Nat → Int) (n c : Nat) : Int := sm (fun w => bC (P w ∧ BT (cb w) c)) n
noncomputable def fFT (P : Nat → Prop) (n : Nat) : Int := sm (fun w => bC (P w)) n
theorem fTL_in (P : Nat → Prop) (cb : Nat → Int) (n c : Nat) : 0 ≤ fTL P cb n c ∧ fTL P cb n c ≤ fFT P n ∧ fFT P n ≤ n := by
  unfold fTL fFT
  induction n with
  | zero => simp [sm]
  | succ n ih =>
    rw [sm_s, sm_s]
    have h2 := bC_in (P n)
    have h3 : bC (P n ∧ BT (cb n) c) ≤ bC (P n) := by
      by_cases q : P n ∧ BT (cb n) c
      · rw [bC_t q, bC_t q.1]
        exact Int.le_refl _
      · rw [bC_f q]
        exact h2.1
    have h4 := bC_in (P n ∧ BT (cb n) c)
    omega
noncomputable def fAL (P : Nat → Prop) (cb : Nat → Int) (c : Nat) : Int := max (fTL P cb 10 c) (fFT P 10 - fTL P cb 10 c)
/-- x the first of the least, y that -/
def AMN (f : Nat → Int) (n : Nat) (x y : Int) : Prop := ∃ a : Nat, a < n ∧ x = (a : Int) ∧ y = f a ∧ (∀ b, b < a → f a < f b) ∧ ∀ b, b < n → f a ≤ f b
theorem AMN_1 {f : Nat → Int} {i : Int} (hi : i = 0) : AMN f (i + 1).toNat i (f i.toNat) := by
  subst hi
  exact ⟨0, by decide, rfl, rfl, fun b h => absurd h (Nat.not_lt_zero b), fun b h => by rw [show b = 0 by have : b < 1 := h; omega]; exact Int.le_refl _⟩
theorem AMN_up {f : Nat → Int} {i x y : Int} (hi : 0 ≤ i) (h : AMN f i.toNat x y) (hg : f i.toNat < y) : AMN f (i + 1).toNat i (f i.toNat) := by
  rw [tn_s hi]
  obtain ⟨a, h1, h2, h3, h4, h5⟩ := h
  refine ⟨i.toNat, by omega, by omega, rfl, fun b hb => by have := h5 b hb; omega, fun b hb => ?_⟩
  by_cases e : b = i.toNat
  · rw [e]; exact Int.le_refl _
  · have := h5 b (by omega); omega
theorem AMN_no {f : Nat → Int} {i x y : Int} (hi : 0 ≤ i) (h : AMN f i.toNat x y) (hg : y ≤ f i.toNat) : AMN f (i + 1).toNat x y := by
  rw [tn_s hi]
  obtain ⟨a, h1, h2, h3, h4, h5⟩ := h
  refine ⟨a, by omega, h2, h3, h4, fun b hb => ?_⟩
  by_cases e : b = i.toNat
  · rw [e]; omega
  · exact h5 b (by omega)
theorem AMN_u {f : Nat → Int} {n : Nat} {x y x' y' : Int} (h : AMN f n x y) (h' : AMN f n x' y') : x = x' ∧ y = y' := by
  obtain ⟨a, h1, h2, h3, h4, h5⟩ := h
  obtain ⟨b, k1, k2, k3, k4, k5⟩ := h'
  have q1 := h5 b k1
  have q2 := k5 a h1
  rcases Nat.lt_trichotomy a b with q | q | q
  · have := k4 a q; omega
  · subst q; omega
  · have := h4 b q; omega
noncomputable def fWB (F : FG) (Q : QG) (k w : Nat) : Int := fCB (-1) (setW F k (w : Int)) Q
def fWP (F : FG) (Q : QG) (sn : Nat) (H I : Nat → Int) (k w : Nat) : Prop := SO sn H I (Q.2.1 : Int) (fWB F Q k w)
def aAsk (sz : Int) (F : FG) (Q : QG) (sn : Nat) (H I : Nat → Int) (k x : Int) : Prop := ((k < 0 ∨ sz ≤ k) ∧ x = -2) ∨ (0 ≤ k ∧ k < sz ∧ ∃ y, AMN (fAL (fWP F Q sn H I k.toNat) (fWB F Q k.toNat)) 8 x y)
theorem fTL_i {P : Nat → Prop} {cb : Nat → Int} {c : Nat} {i : Int} (h : 0 ≤ i) : fTL P cb (i + 1).toNat c = fTL P cb i.toNat c + bC (P i.toNat ∧ BT (cb i.toNat) c) := by
  unfold fTL
  exact sm_i h
theorem fFT_i {P : Nat → Prop} {i : Int} (h : 0 ≤ i) : fFT P (i + 1).toNat = fFT P i.toNat + bC (P i.toNat) := by
  unfold fFT
  exact sm_i h
