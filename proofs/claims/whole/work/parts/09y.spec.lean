/-! spare, clean, ask in the reference -/
def NWX (M N : Mem) : Prop := N 32 15 = M 5 4 ∧ N 32 20 = -1 ∧ ∀ i, i < (M 5 4).toNat → N 44 i = M 6 i ∧ N 45 i = M 7 i ∧ N 46 i = M 8 i ∧ N 47 i = M 9 i
theorem NWX_of {M N : Mem} (h : NOW M N) : NWX M N := ⟨h.1, h.2.1, h.2.2.2⟩
theorem NWX_fx {M M1 M2 : Mem} {cs fs : List Nat} (h : NWX M M1) (hf : FX cs fs M1 M2) (hd : (∀ a ∈ [44, 45, 46, 47], a ∉ cs ∧ a ≠ 32) ∧ 32 ∉ cs ∧ 15 ∉ fs ∧ 20 ∉ fs) : NWX M M2 := by
  unfold NWX at h ⊢
  rw [hf.at 44 (hd.1 44 (by decide)), hf.at 45 (hd.1 45 (by decide)), hf.at 46 (hd.1 46 (by decide)), hf.at 47 (hd.1 47 (by decide)), hf.fd 15 ⟨hd.2.1, hd.2.2.1⟩, hf.fd 20 ⟨hd.2.1, hd.2.2.2⟩]
  exact h
/-- the reference has run by the told tales, without the events no -/
theorem no_rnf {M N N2 : Mem} {K' : Nat → Int} {no : Int} (hj : JQ M) (fx : FX RC RF M N) (hrd : RD N) (hnw : NWX M N) (h44 : ∀ j, 0 ≤ N 44 j) (h7 : N 32 7 ≤ 8) (hK : ∀ e, e < (M 18 3).toNat → KEN no (M 19) e = K' e) (hr : RUNS (up N 32 21 no) N2) : RNF (-1) (setK (fgT M) K') (qgT M) N2 := by
  have f1 : FX [] [21] N (up N 32 21 no) := FX.rf.put rfl (by decide)
  have hn2 := NWX_fx hnw f1 (by decide)
  refine now_g hj (fx.tr f1 (by decide) (by decide)) (RD_fx hrd f1 (by decide)) hn2.2.1 (by rw [hn2.1]; rfl) rfl ?_ rfl rfl hn2.2.2 (fun j => by rw [f1.at 44 (by decide)]; exact h44 j) (by rw [f1.fd 7 (by decide)]; exact h7) hr
  intro e he
  rw [up_eq (M := N) (k := 32) (j := 21) (v := no) rfl]
  exact hK e he
theorem no_alc {M N N2 : Mem} {K' : Nat → Int} (hrd : RD N) (fx : FX RC RF M N) (hc : 0 ≤ M 15 2) (h : RNF (-1) (setK (fgT M) K') (qgT M) N2) : N2 32 28 = bShl 1 (N 32 7) - 1 ↔ ALC (setK (fgT M) K') (qgT M) := by
  have e : N 32 7 = (((qgT M).2.1 : Nat) : Int) := by
    show _ = (((M 15 2).toNat : Nat) : Int)
    rw [hrd.2.2.1, fx.at 15 (by decide)]
    omega
  rw [h.2.2.2.2.2.1, e]
  exact Iff.rfl
def SPW (F : FG) (Q : QG) (N : Mem) (x : Int) : Prop := ∃ a b, SPR F Q x a b ∧ (1 ≤ x → N 56 0 = a) ∧ (x = 2 → N 56 1 = b)
theorem SPR_v {F : FG} {Q : QG} {n a b : Int} (h : SPR F Q n a b) : (n = 0 ∧ a = -1 ∧ b = -1) ∨ (n = 1 ∧ b = -1) ∨ n = 2 ∨ (n = -1 ∧ a = -1 ∧ b = -1) := by
  rcases h with ⟨-, g2, g3, g4⟩ | ⟨-, ⟨i, -, -, -, g2, g3, g4⟩ | ⟨-, ⟨i, j, -, -, -, -, g2, g3, g4⟩ | ⟨-, g2, g3, g4⟩⟩⟩ <;> omega
theorem SPW_row {F : FG} {Q : QG} {N : Mem} {n i x : Int} (h : SPW F Q N n) (hi : -1 ≤ i ∧ i ≤ 1) (hx : (i = -1 ∧ x = n) ∨ (i ≠ -1 ∧ i < n ∧ x = N 56 i.toNat) ∨ (i ≠ -1 ∧ n ≤ i ∧ x = -1)) : aSpare F Q i x := by
  obtain ⟨a, b, h1, h2, h3⟩ := h
  refine Or.inr ⟨hi.1, hi.2, n, a, b, h1, ?_⟩
  have hv := SPR_v h1
  rcases (show i = -1 ∨ i = 0 ∨ i = 1 by omega) with rfl | rfl | rfl
  · omega
  · have e : N 56 (0 : Int).toNat = N 56 0 := rfl
    rw [e] at hx
    by_cases q : 1 ≤ n
    · have := h2 q; omega
    · omega
  · have e : N 56 (1 : Int).toNat = N 56 1 := rfl
    rw [e] at hx
    by_cases q : n = 2
    · have := h3 q; omega
    · omega
/-- most together -/
def CLX (I : Int → Prop) (s x : Int) : Prop := (s = 0 ∧ x = 0) ∨ (1 ≤ s ∧ CLN I s x)
theorem CLX_y {I : Int → Prop} {s x : Int} (h : CLX I s x) (hg : PCN x < PCN s) (hI : I s) : CLX I (s + 1) s := by
  rcases h with ⟨h1, h2⟩ | ⟨h1, h2⟩
  · rw [h1, h2] at hg; omega
  · exact Or.inr ⟨by omega, CLN_y h1 h2 hg hI⟩
theorem CLX_n {I : Int → Prop} {s x : Int} (h : CLX I s x) (hg : ¬ (PCN x < PCN s ∧ I s)) : CLX I (s + 1) x := by
  rcases h with ⟨h1, h2⟩ | ⟨h1, h2⟩
  · rw [h1, h2]; exact Or.inr ⟨by omega, CLN_1 I⟩
  · exact Or.inr ⟨by omega, CLN_n h1 h2 hg⟩
theorem CLX_in {I : Int → Prop} {s x : Int} (h : CLX I s x) : 0 ≤ x ∧ x ≤ s := by
  rcases h with ⟨h1, h2⟩ | ⟨h1, h2, h3, -⟩
  · omega
  · rcases h3 with q | q <;> omega
/-- of set s, no tale below m clashes with one that is in s -/
def IDK (n : Nat) (W T N : Nat → Int) (s : Int) (m : Nat) : Prop := ∀ a, a < m → BT s a → ∀ i, i < n → ¬ (BT s i ∧ i ≠ a ∧ AP W T N i a)
theorem IDK_0 {n : Nat} {W T N : Nat → Int} {s : Int} : IDK n W T N s (0 : Int).toNat := fun a h => absurd h (Nat.not_lt_zero a)
theorem IDK_s {n : Nat} {W T N : Nat → Int} {s i : Int} (h : 0 ≤ i) : IDK n W T N s (i + 1).toNat ↔ IDK n W T N s i.toNat ∧ (BT s i.toNat → ∀ j, j < n → ¬ (BT s j ∧ j ≠ i.toNat ∧ AP W T N j i.toNat)) := by
  unfold IDK
  rw [tn_s h]
  refine ⟨fun q => ⟨fun a ha => q a (by omega), q i.toNat (by omega)⟩, fun q a ha => ?_⟩
  by_cases e : a = i.toNat
  · rw [e]; exact q.2
  · exact q.1 a (by omega)
theorem IDK_le {n m m' : Nat} {W T N : Nat → Int} {s : Int} (h : IDK n W T N s m') (hm : m ≤ m') : IDK n W T N s m := fun a ha => h a (by omega)
theorem IDK_e {n : Nat} {W T N : Nat → Int} {s : Int} : IDK n W T N s n ↔ IND n W T N s := by
  unfold IDK IND
  constructor
  · intro h a ha b hb q
    exact h a ha q.1 b (by omega) ⟨q.2.1, by omega, AP_comm.mp q.2.2⟩
  · intro h a ha hsa i hi q
    rcases Nat.lt_trichotomy i a with c | c | c
    · exact h a ha i c ⟨hsa, q.1, AP_comm.mp q.2.2⟩
    · exact q.2.1 c
    · exact h i hi a c ⟨q.1, hsa, q.2.2⟩
theorem b0_e {x : Int} (h : 0 ≤ x) : x = 0 ↔ ∀ j, ¬ BT x j := by
  constructor
  · intro e j; rw [e]; exact BT_0 j
  · intro q
    exact BT_ext h (by omega) (fun k => ⟨fun z => absurd z (q k), fun z => absurd z (BT_0 k)⟩)
/-- set s and what clashes with a have nothing in common -/
theorem and0_e {n : Nat} {P : Nat → Prop} {s y : Int} (hs : 0 ≤ s ∧ s < (2 ^ n : Nat)) (hn : n ≤ 12) (hy : BTS P n y) : bAnd s y = 0 ↔ ∀ j, j < n → ¬ (BT s j ∧ P j) := by
  have hp : 2 ^ n ≤ 2 ^ 12 := Nat.pow_le_pow_right (by omega) hn
  have hb := bAnd_lt (x := s) (y := y) (by omega) hy.1
  rw [b0_e hb.1]
  constructor
  · intro h j hj q
    refine h j ?_
    rw [BT_and (by omega) hy.1]
    exact ⟨q.1, (hy.2.2 j hj).mpr q.2⟩
  · intro h j q
    rw [BT_and (by omega) hy.1] at q
    by_cases hj : j < n
    · exact h j hj ⟨q.1, (hy.2.2 j hj).mp q.2⟩
    · exact BT_big hs.2 (by omega) q.1
/-- the first of the least, none yet: -1 -/
def AMD (f : Nat → Int) (i x y : Int) : Prop := (i = 0 ∧ x = -1) ∨ (0 ≤ x ∧ AMN f i.toNat x y)
theorem AMD_1 {f : Nat → Int} {i x y v : Int} (h : AMD f i x y) (hx : x = -1) (hv : v = f i.toNat) : AMD f (i + 1) i v := by
  rcases h with ⟨h1, h2⟩ | ⟨h1, h2⟩
  · rw [hv]; exact Or.inr ⟨by omega, AMN_1 h1⟩
  · omega
theorem AMD_up {f : Nat → Int} {i x y v : Int} (hi : 0 ≤ i) (h : AMD f i x y) (hx : x ≠ -1) (hv : v = f i.toNat) (hl : v < y) : AMD f (i + 1) i v := by
  rcases h with ⟨h1, h2⟩ | ⟨h1, h2⟩
  · omega
  · rw [hv]; exact Or.inr ⟨by omega, AMN_up hi h2 (by omega)⟩
theorem AMD_no {f : Nat → Int} {i x y v : Int} (hi : 0 ≤ i) (h : AMD f i x y) (hx : x ≠ -1) (hv : v = f i.toNat) (hl : y ≤ v) : AMD f (i + 1) x y := by
  rcases h with ⟨h1, h2⟩ | ⟨h1, h2⟩
  · omega
  · exact Or.inr ⟨h1, AMN_no hi h2 (by omega)⟩
