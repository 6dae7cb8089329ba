/-! sheets: the class's methods in one contract each, by the world -/
theorem sh_at {tl : List CD} {M : Mem} (hJ : JA tl M) {s : Int} (hs : 0 ≤ s ∧ s < 4) : SHJ tl M s.toNat := hJ.2.2.1 s.toNat (by omega)
def LOc (tl : List CD) (s : Int) (M M1 : Mem) (x : Int) : Prop := ((s < 0 ∨ 4 ≤ s) ∧ x = -2 ∧ M1 = M) ∨ ((0 ≤ s ∧ s < 4) ∧ M 29 s.toNat = -1 ∧ x = -11 ∧ M1 = up M 0 14 1) ∨ ((0 ≤ s ∧ s < 4) ∧ ∃ q n : Nat, M 29 s.toNat = (q : Int) ∧ SHQ tl q n ∧ x = (n : Int) ∧ M1 = up M 29 s.toNat (-1))
theorem ct_X6_lose_h (tl : List CD) (M : Mem) (s : Int) (hJ : JA tl M) : Ct 1 mX6_lose (LB ++ tl) [aR 0, aI s] M (fun r M1 => ∃ x, r = some (aI x) ∧ LOc tl s M M1 x) := by
  by_cases hs : 0 ≤ s ∧ s < 4
  · rcases sh_at hJ hs with ⟨h1, -⟩ | ⟨q, n, h1, h2, -⟩
    · exact (ct_X6_lose_a tl M s (fun _ _ => h1)).mono (fun r M1 z => by
        obtain ⟨x, a, b | b⟩ := z
        · exact ⟨x, a, Or.inl b⟩
        · exact ⟨x, a, Or.inr (Or.inl ⟨b.1, h1, b.2⟩)⟩)
    · exact (ct_X6_lose_p tl M s q n hs h1 h2).mono (fun r M1 z => by
        obtain ⟨x, a, b⟩ := z
        exact ⟨x, a, Or.inr (Or.inr ⟨hs, q, n, h1, h2, b⟩)⟩)
  · exact (ct_X6_lose_a tl M s (fun a b => absurd ⟨a, b⟩ hs)).mono (fun r M1 z => by
      obtain ⟨x, a, b | b⟩ := z
      · exact ⟨x, a, Or.inl b⟩
      · exact absurd b.1 hs)
def PUc (tl : List CD) (s f i v : Int) (M M1 : Mem) (x : Int) : Prop := ((s < 0 ∨ 4 ≤ s ∨ f < 0 ∨ 3 ≤ f) ∧ x = -2 ∧ M1 = M) ∨ ((0 ≤ s ∧ s < 4 ∧ 0 ≤ f ∧ f < 3) ∧ M 29 s.toNat = -1 ∧ x = -11 ∧ M1 = up M 0 14 1) ∨ ((0 ≤ s ∧ s < 4 ∧ 0 ≤ f ∧ f < 3) ∧ ∃ q n : Nat, M 29 s.toNat = (q : Int) ∧ SHQ tl q n ∧ ((M q 0 ≠ f ∧ x = -13 ∧ M1 = up M 0 14 3) ∨ (M q 0 = f ∧ (i < 0 ∨ n ≤ i) ∧ x = -12 ∧ M1 = up M 0 14 2) ∨ (M q 0 = f ∧ (0 ≤ i ∧ i < n) ∧ x = 1 ∧ M1 = up M (q + 1) i.toNat (CUT f v))))
theorem ct_X6_put_h (tl : List CD) (M : Mem) (s f i v : Int) (hJ : JA tl M) : Ct 1 mX6_put (LB ++ tl) [aR 0, aI s, aI f, aI i, aI v] M (fun r M1 => ∃ x, r = some (aI x) ∧ PUc tl s f i v M M1 x) := by
  by_cases hs : 0 ≤ s ∧ s < 4
  · rcases sh_at hJ hs with ⟨h1, -⟩ | ⟨q, n, h1, h2, -⟩
    · exact (ct_X6_put_a tl M s f i v (fun _ _ => h1)).mono (fun r M1 z => by
        obtain ⟨x, a, b | b⟩ := z
        · exact ⟨x, a, Or.inl b⟩
        · exact ⟨x, a, Or.inr (Or.inl ⟨b.1, h1, b.2⟩)⟩)
    · exact (ct_X6_put_p tl M s f i v q n hs h1 h2).mono (fun r M1 z => by
        obtain ⟨x, a, b | b | b | b⟩ := z
        · exact ⟨x, a, Or.inl ⟨by omega, b.2⟩⟩
        · exact ⟨x, a, Or.inr (Or.inr ⟨⟨hs.1, hs.2, b.1⟩, q, n, h1, h2, Or.inl b.2⟩)⟩
        · exact ⟨x, a, Or.inr (Or.inr ⟨⟨hs.1, hs.2, b.1⟩, q, n, h1, h2, Or.inr (Or.inl b.2)⟩)⟩
        · exact ⟨x, a, Or.inr (Or.inr ⟨⟨hs.1, hs.2, b.1⟩, q, n, h1, h2, Or.inr (Or.inr b.2)⟩)⟩)
  · exact (ct_X6_put_a tl M s f i v (fun a b => absurd ⟨a, b⟩ hs)).mono (fun r M1 z => by
      obtain ⟨x, a, b | b⟩ := z
      · exact ⟨x, a, Or.inl b⟩
      · exact absurd ⟨b.1.1, b.1.2.1⟩ hs)
def GEc (tl : List CD) (s f i : Int) (M M1 : Mem) (x : Int) : Prop := ((s < 0 ∨ 4 ≤ s ∨ f < 0 ∨ 3 ≤ f) ∧ x = -2147483648 ∧ M1 = M) ∨ ((0 ≤ s ∧ s < 4 ∧ 0 ≤ f ∧ f < 3) ∧ M 29 s.toNat = -1 ∧ x = -2147483648 ∧ M1 = up M 0 14 1) ∨ ((0 ≤ s ∧ s < 4 ∧ 0 ≤ f ∧ f < 3) ∧ ∃ q n : Nat, M 29 s.toNat = (q : Int) ∧ SHQ tl q n ∧ ((M q 0 ≠ f ∧ x = -2147483648 ∧ M1 = up M 0 14 3) ∨ (M q 0 = f ∧ (i < 0 ∨ n ≤ i) ∧ x = -2147483648 ∧ M1 = up M 0 14 2) ∨ (M q 0 = f ∧ (0 ≤ i ∧ i < n) ∧ x = M (q + 1) i.toNat ∧ M1 = M)))
theorem ct_X6_get_h (tl : List CD) (M : Mem) (s f i : Int) (hJ : JA tl M) : Ct 1 mX6_get (LB ++ tl) [aR 0, aI s, aI f, aI i] M (fun r M1 => ∃ x, r = some (aI x) ∧ GEc tl s f i M M1 x) := by
  by_cases hs : 0 ≤ s ∧ s < 4
  · rcases sh_at hJ hs with ⟨h1, -⟩ | ⟨q, n, h1, h2, -⟩
    · exact (ct_X6_get_a tl M s f i (fun _ _ => h1)).mono (fun r M1 z => by
        obtain ⟨x, a, b | b⟩ := z
        · exact ⟨x, a, Or.inl b⟩
        · exact ⟨x, a, Or.inr (Or.inl ⟨b.1, h1, b.2⟩)⟩)
    · exact (ct_X6_get_p tl M s f i q n hs h1 h2).mono (fun r M1 z => by
        obtain ⟨x, a, b | b | b | b⟩ := z
        · exact ⟨x, a, Or.inl ⟨by omega, b.2⟩⟩
        · exact ⟨x, a, Or.inr (Or.inr ⟨⟨hs.1, hs.2, b.1⟩, q, n, h1, h2, Or.inl b.2⟩)⟩
        · exact ⟨x, a, Or.inr (Or.inr ⟨⟨hs.1, hs.2, b.1⟩, q, n, h1, h2, Or.inr (Or.inl b.2)⟩)⟩
        · exact ⟨x, a, Or.inr (Or.inr ⟨⟨hs.1, hs.2, b.1⟩, q, n, h1, h2, Or.inr (Or.inr b.2)⟩)⟩)
  · exact (ct_X6_get_a tl M s f i (fun a b => absurd ⟨a, b⟩ hs)).mono (fun r M1 z => by
      obtain ⟨x, a, b | b⟩ := z
      · exact ⟨x, a, Or.inl b⟩
      · exact absurd ⟨b.1.1, b.1.2.1⟩ hs)
def REc (tl : List CD) (s : Int) (M M1 : Mem) (x : Int) : Prop := ((s < 0 ∨ 4 ≤ s) ∧ x = -2 ∧ M1 = M) ∨ ((0 ≤ s ∧ s < 4) ∧ M 29 s.toNat = -1 ∧ x = -11 ∧ M1 = up M 0 14 1) ∨ ((0 ≤ s ∧ s < 4) ∧ ∃ q n : Nat, M 29 s.toNat = (q : Int) ∧ SHQ tl q n ∧ FR [18, 19, 20, 21] M M1 ∧ RDX (M (q + 1)) n (M 18 3) x ∧ M1 18 3 = M 18 3 + x ∧ M1 19 = RDA (M 19) (M (q + 1)) (M 18 3) x 0 ∧ M1 20 = RDA (M 20) (M (q + 1)) (M 18 3) x 1 ∧ M1 21 = RDA (M 21) (M (q + 1)) (M 18 3) x 2)
theorem ct_X6_read_h (tl : List CD) (M : Mem) (s : Int) (hJ : JA tl M) : Ct 2 mX6_read (LB ++ tl) [aR 0, aI s] M (fun r M1 => ∃ x, r = some (aI x) ∧ REc tl s M M1 x) := by
  by_cases hs : 0 ≤ s ∧ s < 4
  · rcases sh_at hJ hs with ⟨h1, -⟩ | ⟨q, n, h1, h2, -⟩
    · exact (ct_X6_read_a tl M s (fun _ _ => h1)).mono (fun r M1 z => by
        obtain ⟨x, a, b | b⟩ := z
        · exact ⟨x, a, Or.inl b⟩
        · exact ⟨x, a, Or.inr (Or.inl ⟨b.1, h1, b.2⟩)⟩)
    · exact (ct_X6_read_p tl M s q n hs h1 h2).mono (fun r M1 z => by
        obtain ⟨x, a, b⟩ := z
        exact ⟨x, a, Or.inr (Or.inr ⟨hs, q, n, h1, h2, b⟩)⟩)
  · exact (ct_X6_read_a tl M s (fun a b => absurd ⟨a, b⟩ hs)).mono (fun r M1 z => by
      obtain ⟨x, a, b | b⟩ := z
      · exact ⟨x, a, Or.inl b⟩
      · exact absurd b.1 hs)
def WRc (tl : List CD) (town s : Int) (M M1 : Mem) (x : Int) : Prop := ((town < 0 ∨ 8 ≤ town ∨ s < 0 ∨ 4 ≤ s) ∧ x = -2 ∧ M1 = M) ∨ ((0 ≤ town ∧ town < 8 ∧ 0 ≤ s ∧ s < 4) ∧ M 29 s.toNat = -1 ∧ x = -11 ∧ M1 = up M 0 14 1) ∨ ((0 ≤ town ∧ town < 8 ∧ 0 ≤ s ∧ s < 4) ∧ ∃ q n : Nat, M 29 s.toNat = (q : Int) ∧ SHQ tl q n ∧ x = min 24 (n : Int) ∧ (∀ a, a ∉ SC → a ≠ q + 1 → M1 a = M a) ∧ ∀ i : Nat, M1 (q + 1) i = if (i : Int) < x then max 0 (fSTD (-1) (fgT M) (i : Int) town.toNat) else M (q + 1) i)
theorem ct_X6_write_h (tl : List CD) (M : Mem) (town s : Int) (hJ : JA tl M) : Ct 5 mX6_write (LB ++ tl) [aR 0, aI town, aI s] M (fun r M1 => ∃ x, r = some (aI x) ∧ WRc tl town s M M1 x) := by
  by_cases hs : 0 ≤ s ∧ s < 4
  · rcases sh_at hJ hs with ⟨h1, -⟩ | ⟨q, n, h1, h2, -⟩
    · exact (ct_X6_write_a tl M town s (fun _ _ => h1)).mono (fun r M1 z => by
        obtain ⟨x, a, b | b⟩ := z
        · exact ⟨x, a, Or.inl b⟩
        · exact ⟨x, a, Or.inr (Or.inl ⟨b.1, h1, b.2⟩)⟩)
    · exact (ct_X6_write_p tl M town s q n hs h1 h2).mono (fun r M1 z => by
        obtain ⟨x, a, b | b⟩ := z
        · exact ⟨x, a, Or.inl ⟨by omega, b.2⟩⟩
        · exact ⟨x, a, Or.inr (Or.inr ⟨⟨b.1.1, b.1.2, hs.1, hs.2⟩, q, n, h1, h2, b.2⟩)⟩)
  · exact (ct_X6_write_a tl M town s (fun a b => absurd ⟨a, b⟩ hs)).mono (fun r M1 z => by
      obtain ⟨x, a, b | b⟩ := z
      · exact ⟨x, a, Or.inl b⟩
      · exact absurd ⟨b.1.2.2.1, b.1.2.2.2⟩ hs)
def COc (tl : List CD) (s fro t to2 len : Int) (M M1 : Mem) (x : Int) : Prop := ((s < 0 ∨ 4 ≤ s ∨ t < 0 ∨ 4 ≤ t) ∧ x = -2 ∧ M1 = M) ∨ ((0 ≤ s ∧ s < 4 ∧ 0 ≤ t ∧ t < 4) ∧ (M 29 s.toNat = -1 ∨ M 29 t.toNat = -1) ∧ x = -11 ∧ M1 = up M 0 14 1) ∨ ((0 ≤ s ∧ s < 4 ∧ 0 ≤ t ∧ t < 4) ∧ ∃ q n pp mm : Nat, M 29 s.toNat = (q : Int) ∧ SHQ tl q n ∧ M 29 t.toNat = (pp : Int) ∧ SHQ tl pp mm ∧ ((M q 0 ≠ M pp 0 ∧ x = -14 ∧ M1 = up M 0 14 4) ∨ (M q 0 = M pp 0 ∧ ¬ (0 ≤ len ∧ 0 ≤ fro ∧ fro + len ≤ n ∧ 0 ≤ to2 ∧ to2 + len ≤ mm) ∧ x = -12 ∧ M1 = up M 0 14 2) ∨ (M q 0 = M pp 0 ∧ (0 ≤ len ∧ 0 ≤ fro ∧ fro + len ≤ n ∧ 0 ≤ to2 ∧ to2 + len ≤ mm) ∧ x = 1 ∧ M1 = cpM M (q + 1) (pp + 1) fro.toNat to2.toNat len.toNat)))
theorem ct_X6_copy_h (tl : List CD) (M : Mem) (s fro t to2 len : Int) (hJ : JA tl M) : Ct 1 mX6_copy (LB ++ tl) [aR 0, aI s, aI fro, aI t, aI to2, aI len] M (fun r M1 => ∃ x, r = some (aI x) ∧ COc tl s fro t to2 len M M1 x) := by
  by_cases hs : 0 ≤ s ∧ s < 4 ∧ 0 ≤ t ∧ t < 4
  · obtain ⟨s1, s2, t1, t2⟩ := hs
    rcases sh_at hJ ⟨s1, s2⟩ with ⟨h1, -⟩ | ⟨q, n, h1, h2, -⟩ <;> rcases sh_at hJ ⟨t1, t2⟩ with ⟨k1, -⟩ | ⟨pp, mm, k1, k2, -⟩
    · exact (ct_X6_copy_n tl M s fro t to2 len (fun _ => h1) (fun _ => k1)).mono (fun r M1 z => by
        obtain ⟨x, a, b | b⟩ := z
        · exact ⟨x, a, Or.inl b⟩
        · exact ⟨x, a, Or.inr (Or.inl ⟨b.1, Or.inl h1, b.2⟩)⟩)
    · exact (ct_X6_copy_l tl M s fro t to2 len pp mm ⟨s1, s2⟩ ⟨t1, t2⟩ h1 k1 k2).mono (fun r M1 z => by
        obtain ⟨x, a, b⟩ := z
        exact ⟨x, a, Or.inr (Or.inl ⟨⟨s1, s2, t1, t2⟩, Or.inl h1, b⟩)⟩)
    · exact (ct_X6_copy_r tl M s fro t to2 len q n ⟨s1, s2⟩ ⟨t1, t2⟩ k1 h1 h2).mono (fun r M1 z => by
        obtain ⟨x, a, b⟩ := z
        exact ⟨x, a, Or.inr (Or.inl ⟨⟨s1, s2, t1, t2⟩, Or.inr k1, b⟩)⟩)
    · exact (ct_X6_copy_p tl M s fro t to2 len q n pp mm ⟨s1, s2⟩ ⟨t1, t2⟩ h1 h2 k1 k2).mono (fun r M1 z => by
        obtain ⟨x, a, b⟩ := z
        exact ⟨x, a, Or.inr (Or.inr ⟨⟨s1, s2, t1, t2⟩, q, n, pp, mm, h1, h2, k1, k2, b⟩)⟩)
  · exact (ct_X6_copy_n tl M s fro t to2 len (fun a => absurd a hs) (fun a => absurd a hs)).mono (fun r M1 z => by
      obtain ⟨x, a, b | b⟩ := z
      · exact ⟨x, a, Or.inl b⟩
      · exact absurd b.1 hs)
/-! side by side -/
theorem JA_find {tl : List CD} {M M1 M2 : Mem} {v : Int} (hJ : JA tl M) (hM : M1 = up M 0 14 v) (hM' : M2 = up M1 32 43 v) : JA tl M2 := by
  have hk : ∀ a b, (a ≠ 0 ∨ b ≠ 14) → (a ≠ 32 ∨ b ≠ 43) → M2 a b = M a b := fun a b g1 g2 => by rw [up_ne hM' g2, up_ne hM g1]
  have hr : ∀ a, a ≠ 0 → a ≠ 32 → M2 a = M a := fun a g1 g2 => funext (fun b => hk a b (Or.inl g1) (Or.inl g2))
  have hq := hJ.1
  refine JA_keep hJ ⟨JT_of hq.1 (fun a ha => hr a (by revert ha a; decide) (by revert ha a; decide)), JE_of hq.2.1 (fun a ha => hr a (by revert ha a; decide) (by revert ha a; decide)) (hk _ _ (by decide) (by decide)), ?_, JS_of hq.2.2.2 (hk _ _ (by decide) (by decide)) (fun a ha => hr a (by revert ha a; decide) (by revert ha a; decide)) (hk _ _ (by decide) (by decide))⟩ ?_ (fun a ha => hr a (by omega) (by omega))
  · rw [hk 32 10 (by decide) (by decide), hk 0 12 (by decide) (by decide)]; exact hq.2.2.1
  · rw [up_eq hM', up_ne hM' (by omega), up_eq hM]
/-- a sheet is there, or not, on both sides -/
theorem sh_no {tl : List CD} {M : Mem} {s : Nat} (h : SHJ tl M s) (h1 : M 29 s = -1) : M 60 s = 0 := by
  rcases h with ⟨-, h⟩ | ⟨q, n, h, -⟩
  · exact h
  · omega
theorem sh_yes {tl : List CD} {M : Mem} {s q n : Nat} (h : SHJ tl M s) (h1 : M 29 s = (q : Int)) (h2 : SHQ tl q n) : M 60 s = 1 ∧ M 61 s = M q 0 ∧ M 62 s = (n : Int) ∧ ∀ i, i < n → M 63 (60 * s + i) = M (q + 1) i := by
  rcases h with ⟨h, -⟩ | ⟨q', n', h, g, h3⟩
  · omega
  · have e : q' = q := by omega
    subst e
    have e2 : n' = n := by
      have a := g.2.2.1
      have b := h2.2.2.1
      rw [a] at b
      simp at b
      exact b
    subst e2
    exact h3
theorem SHQ_ne {tl : List CD} {q n q' n' : Nat} (h : SHQ tl q n) (h' : SHQ tl q' n') : q ≠ q' + 1 := by
  intro e
  have a := h.2.1
  have b := h'.2.2.1
  rw [← e, a] at b
  simp at b
theorem J_lose {tl : List CD} {s : Int} {M M1 M2 : Mem} {x y : Int} (hJ : JA tl M) (h : LOc tl s M M1 x) (h' : ((s < 0 ∨ 3 < s) ∧ y = -2 ∧ M2 = M1) ∨ ((0 ≤ s ∧ s ≤ 3) ∧ M1 60 s.toNat = 0 ∧ y = -11 ∧ M2 = up M1 32 43 1) ∨ ((0 ≤ s ∧ s ≤ 3) ∧ M1 60 s.toNat = 1 ∧ y = M1 62 s.toNat ∧ M2 = up M1 60 s.toNat 0)) : x = y ∧ JA tl M2 := by
  rcases h with ⟨b1, hx, hM⟩ | ⟨b1, hn, hx, hM⟩ | ⟨b1, q, n, h1, h2, hx, hM⟩
  · rcases h' with ⟨c1, hy, hM'⟩ | ⟨c1, -⟩ | ⟨c1, -⟩
    · rw [hM', hM]; exact ⟨by omega, hJ⟩
    · omega
    · omega
  · have g := sh_no (sh_at hJ b1) hn
    have e60 : M1 60 s.toNat = 0 := by rw [up_ne hM (by omega)]; exact g
    rcases h' with ⟨c1, -⟩ | ⟨c1, -, hy, hM'⟩ | ⟨c1, g1, -⟩
    · omega
    · exact ⟨by omega, JA_find hJ hM hM'⟩
    · omega
  · obtain ⟨g1, g2, g3, g4⟩ := sh_yes (sh_at hJ b1) h1 h2
    have e60 : M1 60 s.toNat = 1 := by rw [up_ne hM (by omega)]; exact g1
    have e62 : M1 62 s.toNat = n := by rw [up_ne hM (by omega)]; exact g3
    rcases h' with ⟨c1, -⟩ | ⟨c1, g5, -⟩ | ⟨c1, -, hy, hM'⟩
    · omega
    · omega
    · refine ⟨by omega, ?_⟩
      have hk : ∀ a b, (a ≠ 29 ∨ b ≠ s.toNat) → (a ≠ 60 ∨ b ≠ s.toNat) → M2 a b = M a b := fun a b k1 k2 => by rw [up_ne hM' k2, up_ne hM k1]
      have hr : ∀ a, a ≠ 29 → a ≠ 60 → M2 a = M a := fun a k1 k2 => funext (fun b => hk a b (Or.inl k1) (Or.inl k2))
      obtain ⟨j1, j2, j3, j4, j5, j6⟩ := hJ
      have e29 : ∀ t, M2 29 t = if t = s.toNat then -1 else M 29 t := by
        intro t
        by_cases e : t = s.toNat
        · rw [if_pos e, e, up_ne hM' (by omega), up_eq hM]
        · rw [if_neg e]; exact hk 29 t (Or.inr e) (Or.inl (by decide))
      refine ⟨JQ_of j1 (fun a ha => hr a (by revert ha a; decide) (by revert ha a; decide)) (by rw [hr 32 (by decide) (by decide)]) (by rw [hr 32 (by decide) (by decide)]) (by rw [hr 32 (by decide) (by decide)]), by rw [hr 32 (by decide) (by decide), hr 0 (by decide) (by decide)]; exact j2, fun t ht => ?_, fun a b ha hb hab h0 => ?_, fun j => ?_, j6⟩
      · by_cases e : t = s.toNat
        · refine Or.inl ⟨by rw [e29, if_pos e], by rw [e, up_eq hM']⟩
        · exact SHJ_of (j3 t ht) (by rw [e29, if_neg e]) (hk 60 t (by omega) (by omega)) (by rw [hr 61 (by decide) (by decide)]) (by rw [hr 62 (by decide) (by decide)]) (fun i _ => by rw [hr 63 (by decide) (by decide)]) (fun q hq _ => ⟨by rw [hr q (by omega) (by omega)], hr (q + 1) (by omega) (by omega)⟩)
      · rw [e29, e29] at *
        by_cases ea : a = s.toNat
        · rw [if_pos ea] at h0; omega
        · rw [if_neg ea] at h0 ⊢
          by_cases eb : b = s.toNat
          · rw [if_pos eb]; omega
          · rw [if_neg eb]; exact j4 a b ha hb hab h0
      · rw [e29]
        have := j5 j
        split <;> omega
theorem JA_item {tl : List CD} {M N : Mem} {s q n : Nat} (hJ : JA tl M) (hs : s < 4) (h1 : M 29 s = (q : Int)) (h2 : SHQ tl q n) (hk : ∀ a, a ∉ SC → a ∉ RC → a ≠ q + 1 → a ≠ 63 → a ≠ 64 → a ≠ 32 → N a = M a) (h32 : ∀ b, b ∉ RF → N 32 b = M 32 b) (h63 : ∀ b, (b < 60 * s ∨ 60 * s + 60 ≤ b) → N 63 b = M 63 b) (hi : ∀ i, i < n → N 63 (60 * s + i) = N (q + 1) i) : JA tl N := by
  have hq65 := h2.1
  have key : ∀ a, a ∈ [0, 1, 2, 3, 4, 5, 6, 7, 8, 9, 15, 16, 17, 18, 19, 20, 21, 27, 28, 29, 33, 34, 41, 42, 43, 57, 58, 60, 61, 62] → N a = M a := by
    intro a ha
    refine hk a ?_ ?_ ?_ ?_ ?_ ?_
    · exact (show ∀ a ∈ [0, 1, 2, 3, 4, 5, 6, 7, 8, 9, 15, 16, 17, 18, 19, 20, 21, 27, 28, 29, 33, 34, 41, 42, 43, 57, 58, 60, 61, 62], a ∉ SC by decide) a ha
    · exact (show ∀ a ∈ [0, 1, 2, 3, 4, 5, 6, 7, 8, 9, 15, 16, 17, 18, 19, 20, 21, 27, 28, 29, 33, 34, 41, 42, 43, 57, 58, 60, 61, 62], a ∉ RC by decide) a ha
    · have := (show ∀ a ∈ [0, 1, 2, 3, 4, 5, 6, 7, 8, 9, 15, 16, 17, 18, 19, 20, 21, 27, 28, 29, 33, 34, 41, 42, 43, 57, 58, 60, 61, 62], a < 63 by decide) a ha
      omega
    · have := (show ∀ a ∈ [0, 1, 2, 3, 4, 5, 6, 7, 8, 9, 15, 16, 17, 18, 19, 20, 21, 27, 28, 29, 33, 34, 41, 42, 43, 57, 58, 60, 61, 62], a < 63 by decide) a ha
      omega
    · have := (show ∀ a ∈ [0, 1, 2, 3, 4, 5, 6, 7, 8, 9, 15, 16, 17, 18, 19, 20, 21, 27, 28, 29, 33, 34, 41, 42, 43, 57, 58, 60, 61, 62], a < 63 by decide) a ha
      omega
    · exact (show ∀ a ∈ [0, 1, 2, 3, 4, 5, 6, 7, 8, 9, 15, 16, 17, 18, 19, 20, 21, 27, 28, 29, 33, 34, 41, 42, 43, 57, 58, 60, 61, 62], a ≠ 32 by decide) a ha
  have far : ∀ a, 65 ≤ a → a ≠ q + 1 → N a = M a := by
    intro a h65 hne
    refine hk a (SC_far (by omega)) (RC_far (by omega)).1 hne (by omega) (by omega) (by omega)
  obtain ⟨j1, j2, j3, j4, j5, j6⟩ := hJ
  have e29 := key 29 (by decide)
  refine ⟨JQ_of j1 (fun a ha => key a (by revert ha a; decide)) (h32 10 (by decide)) (h32 11 (by decide)) (h32 34 (by decide)), by rw [h32 43 (by decide), key 0 (by decide)]; exact j2, fun t ht => ?_, by rw [e29]; exact j4, by rw [e29]; exact j5, j6⟩
  by_cases e : t = s
  · subst e
    obtain ⟨g1, g2, g3, g4⟩ := sh_yes (j3 t ht) h1 h2
    refine Or.inr ⟨q, n, by rw [e29]; exact h1, h2, by rw [key 60 (by decide)]; exact g1, by rw [key 61 (by decide), far q hq65 (by omega)]; exact g2, by rw [key 62 (by decide)]; exact g3, hi⟩
  · rcases j3 t ht with ⟨k1, k2⟩ | ⟨q', n', k1, k2, k3⟩
    · exact Or.inl ⟨by rw [e29]; exact k1, by rw [key 60 (by decide)]; exact k2⟩
    · have hne : q' ≠ q := by
        intro z
        exact j4 t s ht hs e (by omega) (by rw [k1, h1, z])
      have hne2 := SHQ_ne k2 h2
      have hq' := k2.1
      have hn' := k2.2.2.2
      refine Or.inr ⟨q', n', by rw [e29]; exact k1, k2, by rw [key 60 (by decide)]; exact k3.1, by rw [key 61 (by decide), far q' hq' hne2]; exact k3.2.1, by rw [key 62 (by decide)]; exact k3.2.2.1, fun i hin => ?_⟩
      rw [h63 (60 * t + i) (by omega), far (q' + 1) (by omega) (by omega)]
      exact k3.2.2.2 i hin
theorem J_put {tl : List CD} {s f i v : Int} {M M1 M2 : Mem} {x y : Int} (hJ : JA tl M) (h : PUc tl s f i v M M1 x)
    (h' : ((s < 0 ∨ 3 < s ∨ f < 0 ∨ 2 < f) ∧ y = -2 ∧ M2 = M1) ∨ ((0 ≤ s ∧ s ≤ 3 ∧ 0 ≤ f ∧ f ≤ 2) ∧ M1 60 s.toNat = 0 ∧ y = -11 ∧ M2 = up M1 32 43 1) ∨ ((0 ≤ s ∧ s ≤ 3 ∧ 0 ≤ f ∧ f ≤ 2) ∧ M1 60 s.toNat = 1 ∧ M1 61 s.toNat ≠ f ∧ y = -13 ∧ M2 = up M1 32 43 3) ∨ ((0 ≤ s ∧ s ≤ 3 ∧ 0 ≤ f ∧ f ≤ 2) ∧ M1 60 s.toNat = 1 ∧ M1 61 s.toNat = f ∧ ¬ (0 ≤ i ∧ i < M1 62 s.toNat) ∧ y = -12 ∧ M2 = up M1 32 43 2) ∨ ((0 ≤ s ∧ s ≤ 3 ∧ 0 ≤ f ∧ f ≤ 2) ∧ M1 60 s.toNat = 1 ∧ M1 61 s.toNat = f ∧ (0 ≤ i ∧ i < M1 62 s.toNat) ∧ y = 1 ∧ M2 = up M1 63 (60 * s.toNat + i.toNat) (CUT f v))) : x = y ∧ JA tl M2 := by
  rcases h with ⟨b1, hx, hM⟩ | ⟨b1, hn, hx, hM⟩ | ⟨b1, q, n, h1, h2, h⟩
  · rcases h' with ⟨c1, hy, hM'⟩ | ⟨c1, -⟩ | ⟨c1, -⟩ | ⟨c1, -⟩ | ⟨c1, -⟩
    · rw [hM', hM]; exact ⟨by omega, hJ⟩
    · omega
    · omega
    · omega
    · omega
  · have g := sh_no (sh_at hJ ⟨b1.1, b1.2.1⟩) hn
    have e60 : M1 60 s.toNat = 0 := by rw [up_ne hM (by omega)]; exact g
    rcases h' with ⟨c1, -⟩ | ⟨c1, -, hy, hM'⟩ | ⟨c1, g1, -⟩ | ⟨c1, g1, -⟩ | ⟨c1, g1, -⟩
    · omega
    · exact ⟨by omega, JA_find hJ hM hM'⟩
    · omega
    · omega
    · omega
  · obtain ⟨g1, g2, g3, g4⟩ := sh_yes (sh_at hJ ⟨b1.1, b1.2.1⟩) h1 h2
    have hq65 := h2.1
    have hn60 := h2.2.2.2
    have hk : ∀ a, a = 60 ∨ a = 61 ∨ a = 62 → M1 a = M a := by
      intro a ha
      rcases h with ⟨-, -, hM⟩ | ⟨-, -, -, hM⟩ | ⟨-, -, -, hM⟩ <;> exact up_of hM (by omega)
    rw [hk 60 (by omega), hk 61 (by omega), hk 62 (by omega), g1, g2, g3] at h'
    rcases h with ⟨a1, hx, hM⟩ | ⟨a1, a2, hx, hM⟩ | ⟨a1, a2, hx, hM⟩ <;> rcases h' with ⟨c1, -⟩ | ⟨c1, k1, -⟩ | ⟨c1, -, k1, hy, hM'⟩ | ⟨c1, -, k1, k2, hy, hM'⟩ | ⟨c1, -, k1, k2, hy, hM'⟩ <;> first
      | omega
      | exact ⟨by omega, JA_find hJ hM hM'⟩
      | skip
    refine ⟨by omega, JA_item hJ (s := s.toNat) (by omega) h1 h2 (fun a k3 k4 k5 k6 k7 k8 => by rw [up_of hM' k6, up_of hM k5]) (fun b _ => by rw [up_of hM' (by decide), up_of hM (by omega)]) (fun b hb => by rw [up_ne hM' (by omega), up_of hM (by omega)]) (fun j hj => ?_)⟩
    rw [up_of hM' (show q + 1 ≠ 63 by omega)]
    by_cases e : j = i.toNat
    · rw [e, up_eq hM', up_eq hM]
    · rw [up_ne hM' (by omega), up_of hM (show 63 ≠ q + 1 by omega), up_ne hM (Or.inr e)]
      exact g4 j hj
theorem J_get {tl : List CD} {s f i : Int} {M M1 M2 : Mem} {x y : Int} (hJ : JA tl M) (h : GEc tl s f i M M1 x)
    (h' : ((s < 0 ∨ 3 < s ∨ f < 0 ∨ 2 < f) ∧ y = -2147483648 ∧ M2 = M1) ∨ ((0 ≤ s ∧ s ≤ 3 ∧ 0 ≤ f ∧ f ≤ 2) ∧ M1 60 s.toNat = 0 ∧ y = -2147483648 ∧ M2 = up M1 32 43 1) ∨ ((0 ≤ s ∧ s ≤ 3 ∧ 0 ≤ f ∧ f ≤ 2) ∧ M1 60 s.toNat = 1 ∧ M1 61 s.toNat ≠ f ∧ y = -2147483648 ∧ M2 = up M1 32 43 3) ∨ ((0 ≤ s ∧ s ≤ 3 ∧ 0 ≤ f ∧ f ≤ 2) ∧ M1 60 s.toNat = 1 ∧ M1 61 s.toNat = f ∧ ¬ (0 ≤ i ∧ i < M1 62 s.toNat) ∧ y = -2147483648 ∧ M2 = up M1 32 43 2) ∨ ((0 ≤ s ∧ s ≤ 3 ∧ 0 ≤ f ∧ f ≤ 2) ∧ M1 60 s.toNat = 1 ∧ M1 61 s.toNat = f ∧ (0 ≤ i ∧ i < M1 62 s.toNat) ∧ y = M1 63 (60 * s.toNat + i.toNat) ∧ M2 = M1)) : x = y ∧ JA tl M2 := by
  rcases h with ⟨b1, hx, hM⟩ | ⟨b1, hn, hx, hM⟩ | ⟨b1, q, n, h1, h2, h⟩
  · rcases h' with ⟨c1, hy, hM'⟩ | ⟨c1, -⟩ | ⟨c1, -⟩ | ⟨c1, -⟩ | ⟨c1, -⟩
    · rw [hM', hM]; exact ⟨by omega, hJ⟩
    · omega
    · omega
    · omega
    · omega
  · have g := sh_no (sh_at hJ ⟨b1.1, b1.2.1⟩) hn
    have e60 : M1 60 s.toNat = 0 := by rw [up_ne hM (by omega)]; exact g
    rcases h' with ⟨c1, -⟩ | ⟨c1, -, hy, hM'⟩ | ⟨c1, g1, -⟩ | ⟨c1, g1, -⟩ | ⟨c1, g1, -⟩
    · omega
    · exact ⟨by omega, JA_find hJ hM hM'⟩
    · omega
    · omega
    · omega
  · obtain ⟨g1, g2, g3, g4⟩ := sh_yes (sh_at hJ ⟨b1.1, b1.2.1⟩) h1 h2
    have hk : ∀ a, a = 60 ∨ a = 61 ∨ a = 62 → M1 a = M a := by
      intro a ha
      rcases h with ⟨-, -, hM⟩ | ⟨-, -, -, hM⟩ | ⟨-, -, -, hM⟩
      · exact up_of hM (by omega)
      · exact up_of hM (by omega)
      · rw [hM]
    rw [hk 60 (by omega), hk 61 (by omega), hk 62 (by omega), g1, g2, g3] at h'
    rcases h with ⟨a1, hx, hM⟩ | ⟨a1, a2, hx, hM⟩ | ⟨a1, a2, hx, hM⟩ <;> rcases h' with ⟨c1, -⟩ | ⟨c1, k1, -⟩ | ⟨c1, -, k1, hy, hM'⟩ | ⟨c1, -, k1, k2, hy, hM'⟩ | ⟨c1, -, k1, k2, hy, hM'⟩ <;> first
      | omega
      | exact ⟨by omega, JA_find hJ hM hM'⟩
      | skip
    rw [hM'] at *
    rw [hM] at hy ⊢
    exact ⟨by rw [hx, hy, g4 i.toNat (by omega)], hJ⟩
theorem RDX_c {it it' : Nat → Int} {n : Nat} {sz x : Int} (he : ∀ i, i < n → it i = it' i) (h : RDX it n sz x) : RDX it' n sz x := by
  obtain ⟨h1, h2, h3⟩ := h
  have hv : ∀ j, 3 * j + 2 < n → (EVK it j ↔ EVK it' j) := by
    intro j hj
    unfold EVK
    rw [he (3 * j) (by omega), he (3 * j + 1) (by omega), he (3 * j + 2) (by omega)]
  refine ⟨h1, fun j hj => ?_, ?_⟩
  · obtain ⟨a, b, c⟩ := h2 j hj
    exact ⟨a, (hv j a).mp b, c⟩
  · by_cases q : (n : Int) ≤ 3 * x + 2
    · exact Or.inl q
    · rcases h3 with h3 | h3 | h3
      · exact Or.inl h3
      · exact Or.inr (Or.inl (fun z => h3 ((hv _ (by omega)).mpr z)))
      · exact Or.inr (Or.inr h3)
theorem J_read {tl : List CD} {s : Int} {M M1 M2 : Mem} {x y : Int} (hJ : JA tl M) (r : 0 ≤ M 18 3 ∧ M 18 3 ≤ 8) (h : REc tl s M M1 x) (h' : ((s < 0 ∨ 3 < s) ∧ y = -2 ∧ M2 = M1) ∨ ((0 ≤ s ∧ s ≤ 3) ∧ M1 60 s.toNat = 0 ∧ y = -11 ∧ M2 = up M1 32 43 1) ∨ ((0 ≤ s ∧ s ≤ 3) ∧ M1 60 s.toNat = 1 ∧ FX [41, 42, 43] [11] M1 M2 ∧ RDX (fun i => M1 63 (60 * s.toNat + i)) (M1 62 s.toNat).toNat (M1 32 11) y ∧ M2 32 11 = M1 32 11 + y ∧ M2 41 = RDA (M1 41) (fun i => M1 63 (60 * s.toNat + i)) (M1 32 11) y 0 ∧ M2 42 = RDA (M1 42) (fun i => M1 63 (60 * s.toNat + i)) (M1 32 11) y 1 ∧ M2 43 = RDA (M1 43) (fun i => M1 63 (60 * s.toNat + i)) (M1 32 11) y 2)) : x = y ∧ JA tl M2 := by
  rcases h with ⟨b1, hx, hM⟩ | ⟨b1, hn, hx, hM⟩ | ⟨b1, q, n, h1, h2, f1, d1, s1, k1, k2, k3⟩
  · rcases h' with ⟨c1, hy, hM'⟩ | ⟨c1, -⟩ | ⟨c1, -⟩
    · rw [hM', hM]; exact ⟨by omega, hJ⟩
    · omega
    · omega
  · have g := sh_no (sh_at hJ b1) hn
    have e60 : M1 60 s.toNat = 0 := by rw [up_ne hM (by omega)]; exact g
    rcases h' with ⟨c1, -⟩ | ⟨c1, -, hy, hM'⟩ | ⟨c1, g1, -⟩
    · omega
    · exact ⟨by omega, JA_find hJ hM hM'⟩
    · omega
  · obtain ⟨g1, g2, g3, g4⟩ := sh_yes (sh_at hJ b1) h1 h2
    obtain ⟨e1, e2⟩ := hJ.1.2.1
    have e60 : M1 60 s.toNat = 1 := by rw [f1 60 (by decide)]; exact g1
    have e11 : M1 32 11 = M 18 3 := by rw [f1 32 (by decide)]; exact e1
    rcases h' with ⟨c1, -⟩ | ⟨c1, g5, -⟩ | ⟨c1, -, f2, d2, s2, m1, m2, m3⟩
    · omega
    · omega
    · rw [f1 63 (by decide), f1 62 (by decide), g3, e11, show ((n : Int)).toNat = n by omega] at d2
      have hit : ∀ i, i < n → (fun i => M 63 (60 * s.toNat + i)) i = M (q + 1) i := fun i hi => g4 i hi
      have exy : x = y := RDX_u d1 (RDX_c hit d2)
      rw [← exy, e11] at s2
      rw [← exy, e11, f1 63 (by decide), f1 41 (by decide)] at m1
      rw [← exy, e11, f1 63 (by decide), f1 42 (by decide)] at m2
      rw [← exy, e11, f1 63 (by decide), f1 43 (by decide)] at m3
      refine ⟨exy, JA_ev hJ f1 f2 (by rw [s2, s1]) (fun e he => ?_)⟩
      rw [s1] at he
      rw [m1, m2, m3, k1, k2, k3]
      unfold RDA
      by_cases w : M 18 3 ≤ (e : Int) ∧ (e : Int) < M 18 3 + x
      · rw [if_pos w, if_pos w, if_pos w, if_pos w, if_pos w, if_pos w]
        have a := (d1.2.1 (e - (M 18 3).toNat) (by omega)).1
        exact ⟨hit _ (by omega), hit _ (by omega), hit _ (by omega)⟩
      · rw [if_neg w, if_neg w, if_neg w, if_neg w, if_neg w, if_neg w]
        exact e2 e (by omega)
theorem J_write {tl : List CD} {town s : Int} {M M1 M2 : Mem} {x y : Int} (hJ : JA tl M) (h : WRc tl town s M M1 x) (h' : ((town < 0 ∨ 7 < town ∨ s < 0 ∨ 3 < s) ∧ y = -2 ∧ M2 = M1) ∨ ((0 ≤ town ∧ town ≤ 7 ∧ 0 ≤ s ∧ s ≤ 3) ∧ M1 60 s.toNat = 0 ∧ y = -11 ∧ M2 = up M1 32 43 1) ∨ ((0 ≤ town ∧ town ≤ 7 ∧ 0 ≤ s ∧ s ≤ 3) ∧ M1 60 s.toNat = 1 ∧ y = min 24 (M1 62 s.toNat) ∧ FX (63 :: RC) RF M1 M2 ∧ M2 63 = WRT (fun i => max 0 (fSTD (-1) (fgT M1) (i : Int) town.toNat)) (60 * s.toNat) (M1 63) y.toNat)) : x = y ∧ JA tl M2 := by
  rcases h with ⟨b1, hx, hM⟩ | ⟨b1, hn, hx, hM⟩ | ⟨b1, q, n, h1, h2, hx, f1, w1⟩
  · rcases h' with ⟨c1, hy, hM'⟩ | ⟨c1, -⟩ | ⟨c1, -⟩
    · rw [hM', hM]; exact ⟨by omega, hJ⟩
    · omega
    · omega
  · have g := sh_no (sh_at hJ ⟨b1.2.2.1, b1.2.2.2⟩) hn
    have e60 : M1 60 s.toNat = 0 := by rw [up_ne hM (by omega)]; exact g
    rcases h' with ⟨c1, -⟩ | ⟨c1, -, hy, hM'⟩ | ⟨c1, g1, -⟩
    · omega
    · exact ⟨by omega, JA_find hJ hM hM'⟩
    · omega
  · obtain ⟨g1, g2, g3, g4⟩ := sh_yes (sh_at hJ ⟨b1.2.2.1, b1.2.2.2⟩) h1 h2
    have hq65 := h2.1
    have hn60 := h2.2.2.2
    have e60 : M1 60 s.toNat = 1 := by rw [f1 60 (by decide) (by omega)]; exact g1
    have e62 : M1 62 s.toNat = n := by rw [f1 62 (by decide) (by omega)]; exact g3
    have efg : fgT M1 = fgT M := by
      unfold fgT
      rw [f1 5 (by decide) (by omega), f1 18 (by decide) (by omega), f1 19 (by decide) (by omega), f1 20 (by decide) (by omega), f1 21 (by decide) (by omega), f1 6 (by decide) (by omega), f1 7 (by decide) (by omega), f1 8 (by decide) (by omega), f1 9 (by decide) (by omega)]
    rcases h' with ⟨c1, -⟩ | ⟨c1, g5, -⟩ | ⟨c1, -, hy, f2, w2⟩
    · omega
    · omega
    · rw [e62] at hy
      rw [efg, f1 63 (by decide) (by omega)] at w2
      have exy : x = y := by omega
      refine ⟨exy, JA_item hJ (s := s.toNat) (by omega) h1 h2 (fun a k3 k4 k5 k6 k7 k8 => by rw [f2.at a ⟨fun z => (List.mem_cons.mp z).elim k6 k4, k8⟩, f1 a k3 k5]) (fun b hb => by rw [f2.fd b ⟨by decide, hb⟩, f1 32 (by decide) (by omega)]) (fun b hb => ?_) (fun j hj => ?_)⟩
      · rw [w2]
        unfold WRT
        rw [if_neg (by omega)]
      · rw [w2, f2.at (q + 1) ⟨fun z => (List.mem_cons.mp z).elim (by omega) (RC_far (by omega)).1, by omega⟩, w1 j]
        unfold WRT
        by_cases e : (j : Int) < x
        · rw [if_pos (by omega), if_pos e, show 60 * s.toNat + j - 60 * s.toNat = j by omega]
        · rw [if_neg (by omega), if_neg e]
          exact g4 j hj
theorem J_copy {tl : List CD} {s fro t to2 len : Int} {M M1 M2 : Mem} {x y : Int} (hJ : JA tl M) (h : COc tl s fro t to2 len M M1 x)
    (h' : ((s < 0 ∨ 3 < s ∨ t < 0 ∨ 3 < t) ∧ y = -2 ∧ M2 = M1) ∨ ((0 ≤ s ∧ s ≤ 3 ∧ 0 ≤ t ∧ t ≤ 3) ∧ (M1 60 s.toNat = 0 ∨ M1 60 t.toNat = 0) ∧ y = -11 ∧ M2 = up M1 32 43 1) ∨ ((0 ≤ s ∧ s ≤ 3 ∧ 0 ≤ t ∧ t ≤ 3) ∧ (M1 60 s.toNat = 1 ∧ M1 60 t.toNat = 1) ∧ M1 61 s.toNat ≠ M1 61 t.toNat ∧ y = -14 ∧ M2 = up M1 32 43 4) ∨ ((0 ≤ s ∧ s ≤ 3 ∧ 0 ≤ t ∧ t ≤ 3) ∧ (M1 60 s.toNat = 1 ∧ M1 60 t.toNat = 1) ∧ M1 61 s.toNat = M1 61 t.toNat ∧ ¬ (0 ≤ len ∧ 0 ≤ fro ∧ fro + len ≤ M1 62 s.toNat ∧ 0 ≤ to2 ∧ to2 + len ≤ M1 62 t.toNat) ∧ y = -12 ∧ M2 = up M1 32 43 2) ∨ ((0 ≤ s ∧ s ≤ 3 ∧ 0 ≤ t ∧ t ≤ 3) ∧ (M1 60 s.toNat = 1 ∧ M1 60 t.toNat = 1) ∧ M1 61 s.toNat = M1 61 t.toNat ∧ (0 ≤ len ∧ 0 ≤ fro ∧ fro + len ≤ M1 62 s.toNat ∧ 0 ≤ to2 ∧ to2 + len ≤ M1 62 t.toNat) ∧ y = 1 ∧ FR [63, 64] M1 M2 ∧ M2 63 = CPY (M1 63) (60 * s.toNat + fro.toNat) (60 * t.toNat + to2.toNat) len.toNat)) : x = y ∧ JA tl M2 := by
  rcases h with ⟨b1, hx, hM⟩ | ⟨b1, hn, hx, hM⟩ | ⟨b1, q, n, pp, mm, h1, h2, h3, h4, h⟩
  · rcases h' with ⟨c1, hy, hM'⟩ | ⟨c1, -⟩ | ⟨c1, -⟩ | ⟨c1, -⟩ | ⟨c1, -⟩
    · rw [hM', hM]; exact ⟨by omega, hJ⟩
    · omega
    · omega
    · omega
    · omega
  · have g : M 60 s.toNat = 0 ∨ M 60 t.toNat = 0 := by
      rcases hn with z | z
      · exact Or.inl (sh_no (sh_at hJ ⟨b1.1, b1.2.1⟩) z)
      · exact Or.inr (sh_no (sh_at hJ ⟨b1.2.2.1, b1.2.2.2⟩) z)
    rw [up_of hM (show (60 : Nat) ≠ 0 by decide)] at h'
    rcases h' with ⟨c1, -⟩ | ⟨c1, -, hy, hM'⟩ | ⟨c1, g1, -⟩ | ⟨c1, g1, -⟩ | ⟨c1, g1, -⟩
    · omega
    · exact ⟨by omega, JA_find hJ hM hM'⟩
    · omega
    · omega
    · omega
  · obtain ⟨g1, g2, g3, g4⟩ := sh_yes (sh_at hJ ⟨b1.1, b1.2.1⟩) h1 h2
    obtain ⟨k1, k2, k3, k4⟩ := sh_yes (sh_at hJ ⟨b1.2.2.1, b1.2.2.2⟩) h3 h4
    have hp65 := h4.1
    have hm60 := h4.2.2.2
    have hn60 := h2.2.2.2
    have hk : ∀ a, a = 60 ∨ a = 61 ∨ a = 62 ∨ a = 63 → M1 a = M a := by
      intro a ha
      rcases h with ⟨-, -, hM⟩ | ⟨-, -, -, hM⟩ | ⟨-, -, -, hM⟩
      · exact up_of hM (by omega)
      · exact up_of hM (by omega)
      · rw [hM]; exact cpM_off (by omega)
    rw [hk 60 (by omega), hk 61 (by omega), hk 62 (by omega), hk 63 (by omega), g1, g2, g3, k1, k2, k3] at h'
    rcases h with ⟨a1, hx, hM⟩ | ⟨a1, a2, hx, hM⟩ | ⟨a1, a2, hx, hM⟩
    · rcases h' with ⟨c1, -⟩ | ⟨c1, z, -⟩ | ⟨c1, -, z1, hy, hM'⟩ | ⟨c1, -, z1, -⟩ | ⟨c1, -, z1, -⟩
      · omega
      · omega
      · exact ⟨by omega, JA_find hJ hM hM'⟩
      · exact absurd z1 a1
      · exact absurd z1 a1
    · rcases h' with ⟨c1, -⟩ | ⟨c1, z, -⟩ | ⟨c1, -, z1, -⟩ | ⟨c1, -, z1, z2, hy, hM'⟩ | ⟨c1, -, z1, z2, -⟩
      · omega
      · omega
      · exact absurd a1 z1
      · exact ⟨by omega, JA_find hJ hM hM'⟩
      · exact absurd z2 a2
    · rcases h' with ⟨c1, -⟩ | ⟨c1, z, -⟩ | ⟨c1, -, z1, -⟩ | ⟨c1, -, z1, z2, -⟩ | ⟨c1, -, z1, z2, hy, f2, w2⟩
      · omega
      · omega
      · exact absurd a1 z1
      · exact absurd a2 z2
      · refine ⟨by omega, JA_item hJ (s := t.toNat) (by omega) h3 h4 (fun a m3 m4 m5 m6 m7 m8 => by rw [f2 a (fun z => by simp only [List.mem_cons, List.not_mem_nil, or_false] at z; omega), hM]; exact cpM_off m5) (fun b _ => by rw [f2 32 (by decide), hM, cpM_off (by omega)]) (fun b hb => ?_) (fun j hj => ?_)⟩
        · rw [w2]
          unfold CPY
          rw [if_neg (by omega)]
        · rw [w2, f2 (pp + 1) (fun z => by simp only [List.mem_cons, List.not_mem_nil, or_false] at z; omega), hM]
          unfold CPY cpM
          by_cases e : to2.toNat ≤ j ∧ j < to2.toNat + len.toNat
          · rw [if_pos (by omega), if_pos ⟨rfl, e⟩, show 60 * s.toNat + fro.toNat + (60 * t.toNat + j - (60 * t.toNat + to2.toNat)) = 60 * s.toNat + (fro.toNat + (j - to2.toNat)) by omega]
            exact g4 _ (by omega)
          · rw [if_neg (by omega), if_neg (fun z => e z.2)]
            exact k4 j hj
theorem WRc_JQ {tl : List CD} {town s : Int} {M M1 : Mem} {x : Int} (hJ : JA tl M) (h : WRc tl town s M M1 x) : JQ M1 := by
  rcases h with ⟨-, -, hM⟩ | ⟨-, -, -, hM⟩ | ⟨-, q, n, -, h2, -, f1, -⟩
  · rw [hM]; exact hJ.1
  · have hq := hJ.1
    have hr : ∀ a, a ≠ 0 → M1 a = M a := fun a g => up_of hM g
    refine ⟨JT_of hq.1 (fun a ha => hr a (by revert ha a; decide)), JE_of hq.2.1 (fun a ha => hr a (by revert ha a; decide)) (by rw [hr 32 (by decide)]), ?_, JS_of hq.2.2.2 (up_ne hM (by decide)) (fun a ha => hr a (by revert ha a; decide)) (by rw [hr 32 (by decide)])⟩
    rw [hr 32 (by decide), up_ne hM (by decide)]; exact hq.2.2.1
  · have hq65 := h2.1
    have key : ∀ a ∈ [0, 1, 2, 3, 4, 5, 6, 7, 8, 9, 15, 16, 17, 18, 19, 20, 21, 27, 28, 33, 34, 41, 42, 43, 57, 58, 32], M1 a = M a := fun a ha => f1 a (by revert ha a; decide) (by have := (show ∀ a ∈ [0, 1, 2, 3, 4, 5, 6, 7, 8, 9, 15, 16, 17, 18, 19, 20, 21, 27, 28, 33, 34, 41, 42, 43, 57, 58, 32], a < 63 by decide) a ha; omega)
    exact JQ_of hJ.1 (fun a ha => key a (by revert ha a; decide)) (by rw [key 32 (by decide)]) (by rw [key 32 (by decide)]) (by rw [key 32 (by decide)])
