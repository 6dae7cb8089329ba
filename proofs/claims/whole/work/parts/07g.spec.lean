/-! clean, spare -/
def IND (n : Nat) (W T N : Nat → Int) (s : Int) : Prop := ∀ a, a < n → ∀ b, b < a → ¬ (BT s a ∧ BT s b ∧ AP W T N a b)
/-- x: of the numbers below lim the least with most bits of which I -/
def CLN (I : Int → Prop) (lim x : Int) : Prop := 0 ≤ x ∧ (x = 0 ∨ (I x ∧ x < lim)) ∧ (∀ s, 0 ≤ s → s < lim → I s → PCN s ≤ PCN x) ∧ ∀ s, 0 ≤ s → s < x → I s → PCN s < PCN x
theorem PCN_0 : PCN 0 = 0 := by decide
theorem CLN_1 (I : Int → Prop) : CLN I 1 0 := ⟨by omega, Or.inl rfl, fun s h1 h2 _ => by rw [show s = 0 by omega]; exact Int.le_refl _, fun s h1 h2 _ => by omega⟩
theorem CLN_y {I : Int → Prop} {i x : Int} (hi : 1 ≤ i) (h : CLN I i x) (hg : PCN x < PCN i) (hI : I i) : CLN I (i + 1) i := by
  obtain ⟨h1, h2, h3, h4⟩ := h
  refine ⟨by omega, Or.inr ⟨hI, by omega⟩, fun s g1 g2 g3 => ?_, fun s g1 g2 g3 => ?_⟩
  · by_cases e : s = i
    · rw [e]; exact Int.le_refl _
    · have := h3 s g1 (by omega) g3; omega
  · have := h3 s g1 (by omega) g3; omega
theorem CLN_n {I : Int → Prop} {i x : Int} (hi : 1 ≤ i) (h : CLN I i x) (hg : ¬ (PCN x < PCN i ∧ I i)) : CLN I (i + 1) x := by
  obtain ⟨h1, h2, h3, h4⟩ := h
  refine ⟨h1, h2.elim Or.inl (fun q => Or.inr ⟨q.1, by omega⟩), fun s g1 g2 g3 => ?_, h4⟩
  by_cases e : s = i
  · subst e
    exact Int.not_lt.mp (fun q => hg ⟨q, g3⟩)
  · exact h3 s g1 (by omega) g3
theorem PCN_pos : ∀ a, a < 64 → ∀ b, b < 64 → 0 < 64 * a + b → 0 < PCN ((64 * a + b : Nat) : Int) := by decide +kernel
theorem PCN_p {x : Int} (h : 0 < x ∧ x < 4096) : 0 < PCN x := by
  have := PCN_pos (x.toNat / 64) (by omega) (x.toNat % 64) (by omega) (by omega)
  rwa [show ((64 * (x.toNat / 64) + x.toNat % 64 : Nat) : Int) = x by omega] at this
theorem CLN_u {I : Int → Prop} {lim x x' : Int} (hl : lim ≤ 4096) (h : CLN I lim x) (h' : CLN I lim x') : x = x' := by
  obtain ⟨h1, h2, h3, h4⟩ := h
  obtain ⟨k1, k2, k3, k4⟩ := h'
  have pz := PCN_0
  rcases h2 with h2 | ⟨h2, h2b⟩ <;> rcases k2 with k2 | ⟨k2, k2b⟩
  · omega
  · by_cases e : x' = 0
    · omega
    · have q1 := h3 x' k1 k2b k2
      rw [h2, pz] at q1
      have := PCN_p (x := x') (by omega)
      omega
  · by_cases e : x = 0
    · omega
    · have q1 := k3 x h1 h2b h2
      rw [k2, pz] at q1
      have := PCN_p (x := x) (by omega)
      omega
  · rcases Int.lt_trichotomy x x' with q | q | q
    · have := k4 x h1 q h2; have := h3 x' k1 k2b k2; omega
    · exact q
    · have := h4 x' k1 q k2; have := k3 x h1 h2b h2; omega
def aClean (n : Nat) (W T N : Nat → Int) (what x : Int) : Prop := ((what < 0 ∨ 1 < what) ∧ x = -2) ∨ ∃ b, CLN (IND n W T N) ((2 ^ n : Nat) : Int) b ∧ ((what = 0 ∧ x = PCN b) ∨ (what = 1 ∧ x = b))
/-- how many bits below i -/
def BLW (b : Int) (i : Nat) : Int := sm (fun j => b2 (BT b j)) i
def NTH (b : Int) (n x : Int) : Prop := (∃ i : Nat, i < 8 ∧ x = (i : Int) ∧ BT b i ∧ BLW b i = n) ∨ (x = -1 ∧ ∀ i, i < 8 → BT b i → BLW b i ≠ n)
/-- he is cleared of all -/
def ALC (F : FG) (Q : QG) : Prop := fCB (-1) F Q = bShl 1 (Q.2.1 : Int) - 1
def sp1 (F : FG) (Q : QG) (a : Nat) : Prop := ALC (setK F (up1 (gK F) a (-1))) Q
def sp2 (F : FG) (Q : QG) (a b : Nat) : Prop := ALC (setK F (up1 (up1 (gK F) a (-1)) b (-1))) Q
/-- the fewest events that had better not be: how many (-1: none will do), the first, the second -/
def SPR (F : FG) (Q : QG) (num a b : Int) : Prop := (ALC F Q ∧ num = 0 ∧ a = -1 ∧ b = -1) ∨ (¬ ALC F Q ∧ ((∃ i : Nat, i < gm F ∧ sp1 F Q i ∧ (∀ j, j < i → ¬ sp1 F Q j) ∧ num = 1 ∧ a = (i : Int) ∧ b = -1) ∨ ((∀ j, j < gm F → ¬ sp1 F Q j) ∧ ((∃ i j : Nat, i < j ∧ j < gm F ∧ sp2 F Q i j ∧ (∀ i' j', i' < j' → j' < gm F → (i' < i ∨ (i' = i ∧ j' < j)) → ¬ sp2 F Q i' j') ∧ num = 2 ∧ a = (i : Int) ∧ b = (j : Int)) ∨ ((∀ i j, i < j → j < gm F → ¬ sp2 F Q i j) ∧ num = -1 ∧ a = -1 ∧ b = -1)))))
/-- the class's bits of it -/
def SPB (F : FG) (Q : QG) (x : Int) : Prop := ∃ num a b, SPR F Q num a b ∧ ((num = 0 ∧ x = 0) ∨ (num = 1 ∧ x = bShl 1 a) ∨ (num = 2 ∧ x = bOr (bShl 1 a) (bShl 1 b)) ∨ (num = -1 ∧ x = -1))
theorem KEF_off2 {m a b : Int} {K : Nat → Int} {e : Nat} (hm : 0 ≤ m ∧ m ≤ 8) (ha : 0 ≤ a ∧ a < m) (hb : 0 ≤ b ∧ b < m) (he : e < m.toNat) : KEF (bAnd (bShl 1 m - 1) (bXor (bOr (bShl 1 a) (bShl 1 b)) (-1))) K e = up1 (up1 K a.toNat (-1)) b.toNat (-1) e := by
  have h := all_bits hm
  have q := bShl_lt (k := a) (n := 8) (by omega) (by omega)
  have q2 := bShl_lt (k := b) (n := 8) (by omega) (by omega)
  have q3 := bOr_lt (x := bShl 1 a) (y := bShl 1 b) (n := 8) (by omega) (by omega) (by omega)
  have key : BT (bAnd (bShl 1 m - 1) (bXor (bOr (bShl 1 a) (bShl 1 b)) (-1))) e ↔ (e ≠ a.toNat ∧ e ≠ b.toNat) := by
    rw [BT_andn (by omega) (by omega), BT_or (by omega) (by omega), BT_shl (by omega), BT_shl (by omega), h.2.2 e]
    omega
  unfold KEF up1
  by_cases e1 : e = b.toNat
  · rw [if_pos e1, if_neg (by rw [key]; exact fun z => z.2 e1)]
  · rw [if_neg e1]
    by_cases e2 : e = a.toNat
    · rw [if_pos e2, if_neg (by rw [key]; exact fun z => z.1 e2)]
    · rw [if_neg e2, if_pos (by rw [key]; exact ⟨e2, e1⟩)]
theorem off2_in {m a b : Int} (hm : 0 ≤ m ∧ m ≤ 8) (ha : 0 ≤ a ∧ a < m) (hb : 0 ≤ b ∧ b < m) : 0 ≤ bAnd (bShl 1 m - 1) (bXor (bOr (bShl 1 a) (bShl 1 b)) (-1)) ∧ bAnd (bShl 1 m - 1) (bXor (bOr (bShl 1 a) (bShl 1 b)) (-1)) < 256 := by
  have h := all_bits hm
  have q := bShl_lt (k := a) (n := 8) (by omega) (by omega)
  have q2 := bShl_lt (k := b) (n := 8) (by omega) (by omega)
  have q3 := bOr_lt (x := bShl 1 a) (y := bShl 1 b) (n := 8) (by omega) (by omega) (by omega)
  exact bAndn_lt (n := 8) (by omega) (by omega) (by omega)
/-- the told tales' figure by some of the events -/
theorem held_f {M M1 : Mem} {held : Int} {K' : Nat → Int} (hfr : ∀ a, a ∈ [5, 6, 7, 8, 9, 18, 19, 20, 21] → M1 a = M a) (hk : ∀ e, e < (M 18 3).toNat → KEF held (M 19) e = K' e) : FGe (fgH M1 5 held) (setK (fgT M) K') := by
  have g5 := hfr 5 (by decide)
  have g18 := hfr 18 (by decide)
  refine ⟨?_, ?_, ?_, ?_⟩
  · show (M1 5 4).toNat = (M 5 4).toNat
    rw [g5]
  · show (M1 18 3).toNat = (M 18 3).toNat
    rw [g18]
  · intro e he
    have he2 : e < (M 18 3).toNat := by rw [← g18]; exact he
    refine ⟨?_, ?_, ?_⟩
    · show KEF _ (M1 19) e = K' e
      rw [hfr 19 (by decide)]; exact hk e he2
    · show M1 20 e = M 20 e
      rw [hfr 20 (by decide)]
    · show M1 21 e = M 21 e
      rw [hfr 21 (by decide)]
  · intro i hi
    exact ⟨by show M1 6 i = M 6 i; rw [hfr 6 (by decide)], by show M1 7 i = M 7 i; rw [hfr 7 (by decide)], by show M1 8 i = M 8 i; rw [hfr 8 (by decide)], by show M1 9 i = M 9 i; rw [hfr 9 (by decide)]⟩
