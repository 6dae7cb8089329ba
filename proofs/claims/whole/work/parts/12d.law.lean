/-! what the class and the reference do to the world, side by side -/
theorem JT_of {M N : Mem} (h : JT M) (hc : ∀ a ∈ [1, 2, 3, 4, 5, 6, 7, 8, 9, 15, 16, 17, 33, 34], N a = M a) : JT N := by
  unfold JT PAR at h ⊢
  rw [hc 1 (by decide), hc 2 (by decide), hc 3 (by decide), hc 4 (by decide), hc 5 (by decide), hc 6 (by decide), hc 7 (by decide), hc 8 (by decide), hc 9 (by decide), hc 15 (by decide), hc 16 (by decide), hc 17 (by decide), hc 33 (by decide), hc 34 (by decide)]
  exact h
theorem PAR_of {M N : Mem} (h : PAR M) (hc : ∀ a ∈ [1, 2, 3, 4, 5, 6, 7, 8, 9, 15, 16, 17], N a = M a) : PAR N := by
  unfold PAR at h ⊢
  rw [hc 1 (by decide), hc 2 (by decide), hc 3 (by decide), hc 4 (by decide), hc 5 (by decide), hc 6 (by decide), hc 7 (by decide), hc 8 (by decide), hc 9 (by decide), hc 15 (by decide), hc 16 (by decide), hc 17 (by decide)]
  exact h
theorem JE_of {M N : Mem} (h : JE M) (hc : ∀ a ∈ [18, 19, 20, 21, 41, 42, 43], N a = M a) (h11 : N 32 11 = M 32 11) : JE N := by
  unfold JE at h ⊢
  rw [hc 18 (by decide), hc 19 (by decide), hc 20 (by decide), hc 21 (by decide), hc 41 (by decide), hc 42 (by decide), hc 43 (by decide), h11]
  exact h
theorem JS_of {M N : Mem} (h : JS M) (h13 : N 0 13 = M 0 13) (hc : ∀ a ∈ [27, 28, 57, 58], N a = M a) (h34 : N 32 34 = M 32 34) : JS N := by
  unfold JS at h ⊢
  rw [h13, hc 27 (by decide), hc 28 (by decide), hc 57 (by decide), hc 58 (by decide), h34]
  exact h
/-- a text's change -/
theorem JA_txt {tl : List CD} {M M1 M2 : Mem} {cs : List Nat} (hJ : JA tl M) (hf : FR cs M M1) (hcs : ∀ a ∈ cs, a ∈ [1, 2, 3, 4, 5, 6, 7, 8, 9, 15, 16, 17]) (hf2 : FR [33, 34] M1 M2) (hp : PAR M1) (h1 : M2 33 0 = M1 1 2) (h2 : M2 33 1 = M1 3 2) (h3 : ∀ i, i < (M1 1 2).toNat → M2 34 i = M1 2 i) (h4 : ∀ i, i < (M1 3 2).toNat → M2 34 (59 + i) = M1 4 i) : JA tl M2 := by
  have hk : ∀ a, a ∉ [1, 2, 3, 4, 5, 6, 7, 8, 9, 15, 16, 17, 33, 34] → M2 a = M a := by
    intro a ha
    rw [hf2 a (fun q => ha ((show ∀ a ∈ [33, 34], a ∈ [1, 2, 3, 4, 5, 6, 7, 8, 9, 15, 16, 17, 33, 34] by decide) a q)), hf a (fun q => ha ((show ∀ a ∈ [1, 2, 3, 4, 5, 6, 7, 8, 9, 15, 16, 17], a ∈ [1, 2, 3, 4, 5, 6, 7, 8, 9, 15, 16, 17, 33, 34] by decide) a (hcs a q)))]
  have hc : ∀ a ∈ [1, 2, 3, 4, 5, 6, 7, 8, 9, 15, 16, 17], M2 a = M1 a := fun a ha => hf2 a (by revert ha a; decide)
  have hq := hJ.1
  refine JA_keep hJ ⟨⟨?_, ?_, ?_, ?_, PAR_of hp hc⟩, JE_of hq.2.1 (fun a ha => hk a (by revert ha a; decide)) (by rw [hk 32 (by decide)]), by rw [hk 32 (by decide), hk 0 (by decide)]; exact hq.2.2.1, JS_of hq.2.2.2 (by rw [hk 0 (by decide)]) (fun a ha => hk a (by revert ha a; decide)) (by rw [hk 32 (by decide)])⟩ (by rw [hk 32 (by decide), hk 0 (by decide)]; exact hJ.2.1) (fun a ha => hk a (fun q => by simp only [List.mem_cons, List.not_mem_nil, or_false] at q; omega))
  · rw [hc 1 (by decide)]; exact h1
  · rw [hc 3 (by decide)]; exact h2
  · rw [hc 1 (by decide), hc 2 (by decide)]; exact h3
  · rw [hc 3 (by decide), hc 4 (by decide)]; exact h4
theorem TYc_33 {text b : Int} {M M1 : Mem} {x : Int} (h : TYc text b M M1 x) : M1 33 = M 33 := by
  rcases h with ⟨-, -, h⟩ | ⟨-, ⟨-, -, h⟩ | ⟨-, -, -, -, h⟩ | ⟨-, -, -, -, h, -⟩⟩ | ⟨-, ⟨-, -, h⟩ | ⟨-, -, -, -, h⟩ | ⟨-, -, -, -, h, -⟩⟩
  · rw [h]
  · rw [h]
  · rw [h]
  · exact h 33 (by decide)
  · rw [h]
  · rw [h]
  · exact h 33 (by decide)
theorem J_type {tl : List CD} {text b : Int} {M M1 M2 : Mem} {x y : Int} (hJ : JA tl M) (r1 : 0 ≤ M 1 2 ∧ M 1 2 ≤ 59) (r3 : 0 ≤ M 3 2 ∧ M 3 2 ≤ 23) (h : TYc text b M M1 x) (h' : TYr text b M1 M2 y) : x = y ∧ JA tl M2 := by
  have e33 := TYc_33 h
  obtain ⟨j1, j2, j3, j4, -⟩ := hJ.1.1
  unfold TYr at h'
  rw [e33] at h'
  rcases h with ⟨t, hx, hM⟩ | ⟨t, h⟩ | ⟨t, h⟩
  · rcases h' with ⟨t', hy, hM'⟩ | ⟨t', -⟩ | ⟨t', -⟩
    · rw [hM', hM]; exact ⟨by omega, hJ⟩
    · omega
    · omega
  · rcases h' with ⟨t', -⟩ | ⟨-, h'⟩ | ⟨t', -⟩
    · omega
    · rcases h with ⟨b1, hx, hM⟩ | ⟨b1, b2, n1, hx, hM⟩ | ⟨b1, b2, n1, hx, f1, p1, s1, y1⟩ <;> rcases h' with ⟨c1, hy, hM'⟩ | ⟨c1, c2, m1, hy, hM'⟩ | ⟨c1, c2, m1, hy, f2, s2, y2⟩
      · rw [hM', hM]; exact ⟨by omega, hJ⟩
      · omega
      · omega
      · omega
      · rw [hM', hM]; exact ⟨by omega, hJ⟩
      · omega
      · omega
      · omega
      · refine ⟨by omega, JA_txt hJ f1 (by decide) f2 p1 ?_ ?_ (fun i hi => ?_) (fun i hi => ?_)⟩
        · rw [s2, s1, ← j1]; exact if_pos rfl
        · rw [s2, f1 3 (by decide), ← j2]; exact if_neg (by decide)
        · rw [y2, f1 34 (by decide), y1, j1]
          unfold up1
          by_cases e : i = (M 1 2).toNat
          · rw [if_pos e, if_pos e]
          · rw [if_neg e, if_neg e]; exact j3 i (by omega)
        · rw [y2, f1 34 (by decide), f1 4 (by decide)]
          rw [f1 3 (by decide)] at hi
          unfold up1
          rw [if_neg (by omega)]
          exact j4 i hi
    · omega
  · rcases h' with ⟨t', -⟩ | ⟨t', -⟩ | ⟨-, h'⟩
    · omega
    · omega
    · rcases h with ⟨b1, hx, hM⟩ | ⟨b1, b2, n1, hx, hM⟩ | ⟨b1, b2, n1, hx, f1, p1, s1, y1⟩ <;> rcases h' with ⟨c1, hy, hM'⟩ | ⟨c1, c2, m1, hy, hM'⟩ | ⟨c1, c2, m1, hy, f2, s2, y2⟩
      · rw [hM', hM]; exact ⟨by omega, hJ⟩
      · omega
      · omega
      · omega
      · rw [hM', hM]; exact ⟨by omega, hJ⟩
      · omega
      · omega
      · omega
      · refine ⟨by omega, JA_txt hJ f1 (by decide) f2 p1 ?_ ?_ (fun i hi => ?_) (fun i hi => ?_)⟩
        · rw [s2, f1 1 (by decide), ← j1]; exact if_neg (by decide)
        · rw [s2, s1, ← j2]; exact if_pos rfl
        · rw [y2, f1 34 (by decide), f1 2 (by decide)]
          rw [f1 1 (by decide)] at hi
          unfold up1
          rw [if_neg (by omega)]
          exact j3 i hi
        · rw [y2, f1 34 (by decide), y1, j2]
          unfold up1
          by_cases e : i = (M 3 2).toNat
          · rw [if_pos (by omega), if_pos e]
          · rw [if_neg (by omega), if_neg e]; exact j4 i (by omega)
theorem up33 {M N : Mem} {j : Nat} {v : Int} (h : N = up M 33 j v) : FR [33, 34] M N := FR.rf.put h (by decide)
theorem J_wipe {tl : List CD} {text : Int} {M M1 M2 : Mem} {x y : Int} (hJ : JA tl M) (h : WIc text M M1 x) (h' : WIr text M1 M2 y) : x = y ∧ JA tl M2 := by
  obtain ⟨j1, j2, j3, j4, -⟩ := hJ.1.1
  rcases h with ⟨t, hx, hM⟩ | ⟨t, hx, f1, p1, s1, y1⟩ | ⟨t, hx, f1, p1, s1, y1⟩ <;> rcases h' with ⟨t', hy, hM'⟩ | ⟨t', hy, hM'⟩ | ⟨t', hy, hM'⟩
  · rw [hM', hM]; exact ⟨by omega, hJ⟩
  · omega
  · omega
  · omega
  · have e33 := f1 33 (by decide)
    refine ⟨by rw [hx, hy, e33, j1], JA_txt hJ f1 (by decide) (up33 hM') p1 ?_ ?_ (fun i hi => ?_) (fun i hi => ?_)⟩
    · rw [up_eq hM', s1]
    · rw [up_ne hM' (by omega), e33, f1 3 (by decide)]; exact j2
    · rw [s1] at hi; exact absurd hi (Nat.not_lt_zero i)
    · rw [up_ne hM' (by omega), f1 34 (by decide), f1 4 (by decide)]
      rw [f1 3 (by decide)] at hi
      exact j4 i hi
  · omega
  · omega
  · omega
  · have e33 := f1 33 (by decide)
    refine ⟨by rw [hx, hy, e33, j2], JA_txt hJ f1 (by decide) (up33 hM') p1 ?_ ?_ (fun i hi => ?_) (fun i hi => ?_)⟩
    · rw [up_ne hM' (by omega), e33, f1 1 (by decide)]; exact j1
    · rw [up_eq hM', s1]
    · rw [up_ne hM' (by omega), f1 34 (by decide), f1 2 (by decide)]
      rw [f1 1 (by decide)] at hi
      exact j3 i hi
    · rw [s1] at hi; exact absurd hi (Nat.not_lt_zero i)
theorem UNc_33 {text : Int} {M M1 : Mem} {x : Int} (h : UNc text M M1 x) : M1 33 = M 33 := by
  rcases h with ⟨-, -, h⟩ | ⟨-, ⟨-, -, h⟩ | ⟨-, -, h, -⟩⟩ | ⟨-, ⟨-, -, h⟩ | ⟨-, -, h, -⟩⟩
  · rw [h]
  · rw [h]
  · exact h 33 (by decide)
  · rw [h]
  · exact h 33 (by decide)
theorem J_undo {tl : List CD} {text : Int} {M M1 M2 : Mem} {x y : Int} (hJ : JA tl M) (h : UNc text M M1 x) (h' : UNr text M1 M2 y) : x = y ∧ JA tl M2 := by
  have e33 := UNc_33 h
  obtain ⟨j1, j2, j3, j4, -⟩ := hJ.1.1
  unfold UNr at h'
  rw [e33] at h'
  rcases h with ⟨t, hx, hM⟩ | ⟨t, ⟨n1, hx, hM⟩ | ⟨n1, hx, f1, p1, s1, y1⟩⟩ | ⟨t, ⟨n1, hx, hM⟩ | ⟨n1, hx, f1, p1, s1, y1⟩⟩ <;> rcases h' with ⟨t', hy, hM'⟩ | ⟨t', ⟨m1, hy, hM'⟩ | ⟨m1, hy, hM'⟩⟩ | ⟨t', ⟨m1, hy, hM'⟩ | ⟨m1, hy, hM'⟩⟩ <;> first
    | omega
    | (rw [hM', hM]; exact ⟨by omega, hJ⟩)
    | skip
  · refine ⟨by omega, JA_txt hJ f1 (by decide) (up33 hM') p1 ?_ ?_ (fun i hi => ?_) (fun i hi => ?_)⟩
    · rw [up_eq hM', s1, j1]
    · rw [up_ne hM' (by omega), e33, f1 3 (by decide)]; exact j2
    · rw [up_ne hM' (by omega), f1 34 (by decide), y1]
      exact j3 i (by omega)
    · rw [up_ne hM' (by omega), f1 34 (by decide), f1 4 (by decide)]
      rw [f1 3 (by decide)] at hi
      exact j4 i hi
  · refine ⟨by omega, JA_txt hJ f1 (by decide) (up33 hM') p1 ?_ ?_ (fun i hi => ?_) (fun i hi => ?_)⟩
    · rw [up_ne hM' (by omega), e33, f1 1 (by decide)]; exact j1
    · rw [up_eq hM', s1, j2]
    · rw [up_ne hM' (by omega), f1 34 (by decide), f1 2 (by decide)]
      rw [f1 1 (by decide)] at hi
      exact j3 i hi
    · rw [up_ne hM' (by omega), f1 34 (by decide), y1]
      exact j4 i (by omega)
theorem far_ne {a : Nat} (h : a = 29 ∨ a = 60 ∨ a = 61 ∨ a = 62 ∨ a = 63 ∨ 65 ≤ a) {k : Nat} (hk : k < 29 ∨ (29 < k ∧ k < 60) ∨ k = 64) : a ≠ k := by omega
theorem J_need {tl : List CD} {v : Int} {M M1 M2 : Mem} {x y : Int} (hJ : JA tl M) (h : ((v < 1 ∨ 40 < v) ∧ x = -2 ∧ M1 = M) ∨ (1 ≤ v ∧ v ≤ 40 ∧ x = M 0 12 ∧ M1 = up M 0 12 v)) (h' : ((v < 1 ∨ 40 < v) ∧ y = -2 ∧ M2 = M1) ∨ (1 ≤ v ∧ v ≤ 40 ∧ y = M1 32 10 ∧ M2 = up M1 32 10 v)) : x = y ∧ JA tl M2 := by
  have hq := hJ.1
  rcases h with ⟨b1, hx, hM⟩ | ⟨b1, b2, hx, hM⟩ <;> rcases h' with ⟨c1, hy, hM'⟩ | ⟨c1, c2, hy, hM'⟩
  · rw [hM', hM]; exact ⟨by omega, hJ⟩
  · omega
  · omega
  · have hk : ∀ a b, (a ≠ 0 ∨ b ≠ 12) → (a ≠ 32 ∨ b ≠ 10) → M2 a b = M a b := fun a b g1 g2 => by rw [up_ne hM' g2, up_ne hM g1]
    have hr : ∀ a, a ≠ 0 → a ≠ 32 → M2 a = M a := fun a g1 g2 => funext (fun b => hk a b (Or.inl g1) (Or.inl g2))
    refine ⟨by rw [hx, hy, up_ne hM (by omega)]; exact hq.2.2.1.symm, JA_keep hJ ⟨JT_of hq.1 (fun a ha => hr a (by revert ha a; decide) (by revert ha a; decide)), JE_of hq.2.1 (fun a ha => hr a (by revert ha a; decide) (by revert ha a; decide)) (hk _ _ (by decide) (by decide)), ?_, JS_of hq.2.2.2 (hk _ _ (by decide) (by decide)) (fun a ha => hr a (by revert ha a; decide) (by revert ha a; decide)) (hk _ _ (by decide) (by decide))⟩ ?_ (fun a ha => hr a (by omega) (by omega))⟩
    · rw [up_eq hM', up_ne hM' (by omega), up_eq hM]
    · rw [hk 32 43 (by decide) (by decide), hk 0 14 (by decide) (by decide)]; exact hJ.2.1
/-- the events' change -/
theorem JA_ev {tl : List CD} {M M1 M2 : Mem} (hJ : JA tl M) (hf : FR [18, 19, 20, 21] M M1) (hf2 : FX [41, 42, 43] [11] M1 M2) (h1 : M2 32 11 = M1 18 3) (h2 : ∀ e, e < (M1 18 3).toNat → M2 41 e = M1 19 e ∧ M2 42 e = M1 20 e ∧ M2 43 e = M1 21 e) : JA tl M2 := by
  have hk : ∀ a, a ∉ [18, 19, 20, 21, 41, 42, 43] → a ≠ 32 → M2 a = M a := by
    intro a ha h32
    rw [hf2.at a ⟨fun q => ha ((show ∀ a ∈ [41, 42, 43], a ∈ [18, 19, 20, 21, 41, 42, 43] by decide) a q), h32⟩, hf a (fun q => ha ((show ∀ a ∈ [18, 19, 20, 21], a ∈ [18, 19, 20, 21, 41, 42, 43] by decide) a q))]
  have h32 : ∀ b, b ≠ 11 → M2 32 b = M 32 b := fun b hb => by rw [hf2.fd b ⟨by decide, by simp [hb]⟩, hf 32 (by decide)]
  have hq := hJ.1
  refine JA_keep hJ ⟨JT_of hq.1 (fun a ha => hk a (by revert ha a; decide) (by revert ha a; decide)), ⟨?_, fun e he => ?_⟩, ?_, JS_of hq.2.2.2 (by rw [hk 0 (by decide) (by decide)]) (fun a ha => hk a (by revert ha a; decide) (by revert ha a; decide)) (h32 34 (by decide))⟩ ?_ (fun a ha => hk a (fun q => by simp only [List.mem_cons, List.not_mem_nil, or_false] at q; omega) (by omega))
  · rw [hf2.at 18 (by decide)]; exact h1
  · rw [hf2.at 18 (by decide)] at he
    rw [hf2.at 19 (by decide), hf2.at 20 (by decide), hf2.at 21 (by decide)]
    exact h2 e he
  · rw [h32 10 (by decide), hk 0 (by decide) (by decide)]; exact hq.2.2.1
  · rw [h32 43 (by decide), hk 0 (by decide) (by decide)]; exact hJ.2.1
theorem J_event {tl : List CD} {kind night number : Int} {M M1 M2 : Mem} {x y : Int} (hJ : JA tl M) (r : 0 ≤ M 18 3 ∧ M 18 3 ≤ 8)
    (h : ((kind < 0 ∨ 2 < kind ∨ night < 0 ∨ 23 < night ∨ number < 0 ∨ 9 < number) ∧ x = -2 ∧ M1 = M) ∨ ((0 ≤ kind ∧ kind ≤ 2 ∧ 0 ≤ night ∧ night ≤ 23 ∧ 0 ≤ number ∧ number ≤ 9) ∧ M 18 3 = 8 ∧ x = -4 ∧ M1 = M) ∨ ((0 ≤ kind ∧ kind ≤ 2 ∧ 0 ≤ night ∧ night ≤ 23 ∧ 0 ≤ number ∧ number ≤ 9) ∧ M 18 3 < 8 ∧ x = M 18 3 + 1 ∧ FR [18, 19, 20, 21] M M1 ∧ M1 18 3 = M 18 3 + 1 ∧ M1 19 = up1 (M 19) (M 18 3).toNat kind ∧ M1 20 = up1 (M 20) (M 18 3).toNat night ∧ M1 21 = up1 (M 21) (M 18 3).toNat number))
    (h' : ((kind < 0 ∨ 2 < kind ∨ night < 0 ∨ 23 < night ∨ number < 0 ∨ 9 < number) ∧ y = -2 ∧ M2 = M1) ∨ ((0 ≤ kind ∧ kind ≤ 2 ∧ 0 ≤ night ∧ night ≤ 23 ∧ 0 ≤ number ∧ number ≤ 9) ∧ M1 32 11 = 8 ∧ y = -4 ∧ M2 = M1) ∨ ((0 ≤ kind ∧ kind ≤ 2 ∧ 0 ≤ night ∧ night ≤ 23 ∧ 0 ≤ number ∧ number ≤ 9) ∧ M1 32 11 < 8 ∧ y = M1 32 11 + 1 ∧ FX [41, 42, 43] [11] M1 M2 ∧ M2 32 11 = M1 32 11 + 1 ∧ M2 41 = up1 (M1 41) (M1 32 11).toNat kind ∧ M2 42 = up1 (M1 42) (M1 32 11).toNat night ∧ M2 43 = up1 (M1 43) (M1 32 11).toNat number)) : x = y ∧ JA tl M2 := by
  obtain ⟨e1, e2⟩ := hJ.1.2.1
  rcases h with ⟨b1, hx, hM⟩ | ⟨b1, n1, hx, hM⟩ | ⟨b1, n1, hx, f1, s1, k1, k2, k3⟩
  · rw [hM] at h'
    rcases h' with ⟨c1, hy, hM'⟩ | ⟨c1, m1, hy, hM'⟩ | ⟨c1, m1, hy, -⟩
    · rw [hM']; exact ⟨by omega, hJ⟩
    · omega
    · omega
  · rw [hM] at h'
    rcases h' with ⟨c1, hy, hM'⟩ | ⟨c1, m1, hy, hM'⟩ | ⟨c1, m1, hy, -⟩
    · omega
    · rw [hM']; exact ⟨by omega, hJ⟩
    · omega
  · have e11 : M1 32 11 = M 18 3 := by rw [f1 32 (by decide)]; exact e1
    rw [e11] at h'
    rcases h' with ⟨c1, hy, hM'⟩ | ⟨c1, m1, hy, hM'⟩ | ⟨c1, m1, hy, f2, s2, g1, g2, g3⟩
    · omega
    · omega
    · refine ⟨by omega, JA_ev hJ f1 f2 (by rw [s2, s1]) (fun e he => ?_)⟩
      rw [g1, g2, g3, k1, k2, k3, f1 41 (by decide), f1 42 (by decide), f1 43 (by decide)]
      unfold up1
      by_cases q : e = (M 18 3).toNat
      · rw [if_pos q, if_pos q, if_pos q, if_pos q, if_pos q, if_pos q]; exact ⟨rfl, rfl, rfl⟩
      · rw [if_neg q, if_neg q, if_neg q, if_neg q, if_neg q, if_neg q]; exact e2 e (by omega)
theorem J_back {tl : List CD} {M M1 M2 : Mem} {x y : Int} (hJ : JA tl M) (h : (M 18 3 = 0 ∧ x = -3 ∧ M1 = M) ∨ (0 < M 18 3 ∧ x = M 18 3 - 1 ∧ M1 = up M 18 3 (M 18 3 - 1))) (h' : (M1 32 11 = 0 ∧ y = -3 ∧ M2 = M1) ∨ (0 < M1 32 11 ∧ y = M1 32 11 - 1 ∧ M2 = up M1 32 11 (M1 32 11 - 1))) : x = y ∧ JA tl M2 := by
  obtain ⟨e1, e2⟩ := hJ.1.2.1
  have e11 : M1 32 11 = M 18 3 := by
    rcases h with ⟨-, -, hM⟩ | ⟨-, -, hM⟩
    · rw [hM]; exact e1
    · rw [up_ne hM (by omega)]; exact e1
  rw [e11] at h'
  rcases h with ⟨b1, hx, hM⟩ | ⟨b1, hx, hM⟩ <;> rcases h' with ⟨c1, hy, hM'⟩ | ⟨c1, hy, hM'⟩
  · rw [hM', hM]; exact ⟨by omega, hJ⟩
  · omega
  · omega
  · refine ⟨by omega, JA_ev hJ (FR.rf.put hM (by decide)) (FX.rf.put hM' (by decide)) (by rw [up_eq hM', up_eq hM]) (fun e he => ?_)⟩
    rw [up_eq hM] at he
    rw [up_of hM' (by decide), up_of hM' (by decide), up_of hM' (by decide), up_of hM (by decide), up_of hM (by decide), up_of hM (by decide), up_of hM (by decide), up_of hM (by decide), up_of hM (by decide)]
    exact e2 e (by omega)
/-- what was seen -/
theorem JA_se {tl : List CD} {M M1 M2 : Mem} (hJ : JA tl M) (h0 : ∀ a b, a ≠ 27 → a ≠ 28 → (a ≠ 0 ∨ b ≠ 13) → M1 a b = M a b) (hf2 : FX [57, 58] [34] M1 M2) (h1 : M2 32 34 = M1 0 13) (h2 : ∀ e, e < (M1 0 13).toNat → M2 57 e = M1 27 e ∧ M2 58 e = M1 28 e) : JA tl M2 := by
  have hk : ∀ a, a ∉ [0, 27, 28, 57, 58] → a ≠ 32 → M2 a = M a := by
    intro a ha h32
    rw [hf2.at a ⟨fun q => ha ((show ∀ a ∈ [57, 58], a ∈ [0, 27, 28, 57, 58] by decide) a q), h32⟩]
    funext b
    exact h0 a b (fun q => ha (by rw [q]; decide)) (fun q => ha (by rw [q]; decide)) (Or.inl (fun q => ha (by rw [q]; decide)))
  have h32 : ∀ b, b ≠ 34 → M2 32 b = M 32 b := fun b hb => by rw [hf2.fd b ⟨by decide, by simp [hb]⟩]; exact h0 _ _ (by decide) (by decide) (Or.inl (by decide))
  have hz : ∀ b, b ≠ 13 → M2 0 b = M 0 b := fun b hb => by rw [hf2.at 0 (by decide)]; exact h0 _ _ (by decide) (by decide) (Or.inr hb)
  have hq := hJ.1
  refine JA_keep hJ ⟨JT_of hq.1 (fun a ha => hk a (by revert ha a; decide) (by revert ha a; decide)), JE_of hq.2.1 (fun a ha => hk a (by revert ha a; decide) (by revert ha a; decide)) (h32 11 (by decide)), ?_, ⟨?_, fun e he => ?_⟩⟩ ?_ (fun a ha => hk a (fun q => by simp only [List.mem_cons, List.not_mem_nil, or_false] at q; omega) (by omega))
  · rw [h32 10 (by decide), hz 12 (by decide)]; exact hq.2.2.1
  · rw [hf2.at 0 (by decide)]; exact h1
  · rw [hf2.at 0 (by decide)] at he
    rw [hf2.at 27 (by decide), hf2.at 28 (by decide)]
    exact h2 e he
  · rw [h32 43 (by decide), hz 14 (by decide)]; exact hJ.2.1
theorem J_seen {tl : List CD} {c is : Int} {M M1 M2 : Mem} {x y : Int} (hJ : JA tl M) (r : 0 ≤ M 0 13 ∧ M 0 13 ≤ 8)
    (h : ((c < 0 ∨ 7 < c ∨ is < 0 ∨ 1 < is) ∧ x = -2 ∧ M1 = M) ∨ ((0 ≤ c ∧ c ≤ 7 ∧ 0 ≤ is ∧ is ≤ 1) ∧ M 0 13 = 8 ∧ x = -4 ∧ M1 = M) ∨ ((0 ≤ c ∧ c ≤ 7 ∧ 0 ≤ is ∧ is ≤ 1) ∧ M 0 13 < 8 ∧ x = M 0 13 + 1 ∧ M1 = up (up (up M 27 (M 0 13).toNat c) 28 (M 0 13).toNat is) 0 13 (M 0 13 + 1)))
    (h' : ((c < 0 ∨ 7 < c ∨ is < 0 ∨ 1 < is) ∧ y = -2 ∧ M2 = M1) ∨ ((0 ≤ c ∧ c ≤ 7 ∧ 0 ≤ is ∧ is ≤ 1) ∧ M1 32 34 = 8 ∧ y = -4 ∧ M2 = M1) ∨ ((0 ≤ c ∧ c ≤ 7 ∧ 0 ≤ is ∧ is ≤ 1) ∧ M1 32 34 < 8 ∧ y = M1 32 34 + 1 ∧ FX [57, 58] [34] M1 M2 ∧ M2 32 34 = M1 32 34 + 1 ∧ M2 57 = up1 (M1 57) (M1 32 34).toNat c ∧ M2 58 = up1 (M1 58) (M1 32 34).toNat is)) : x = y ∧ JA tl M2 := by
  obtain ⟨e1, e2⟩ := hJ.1.2.2.2
  rcases h with ⟨b1, hx, hM⟩ | ⟨b1, n1, hx, hM⟩ | ⟨b1, n1, hx, hM⟩
  · rw [hM] at h'
    rcases h' with ⟨c1, hy, hM'⟩ | ⟨c1, m1, hy, hM'⟩ | ⟨c1, m1, hy, -⟩
    · rw [hM']; exact ⟨by omega, hJ⟩
    · omega
    · omega
  · rw [hM] at h'
    rcases h' with ⟨c1, hy, hM'⟩ | ⟨c1, m1, hy, hM'⟩ | ⟨c1, m1, hy, -⟩
    · omega
    · rw [hM']; exact ⟨by omega, hJ⟩
    · omega
  · obtain ⟨Ma, ha⟩ : ∃ q, q = up M 27 (M 0 13).toNat c := ⟨_, rfl⟩
    obtain ⟨Mb, hb⟩ : ∃ q, q = up Ma 28 (M 0 13).toNat is := ⟨_, rfl⟩
    rw [← ha, ← hb] at hM
    have e34 : M1 32 34 = M 0 13 := by rw [up_ne hM (by omega), up_ne hb (by omega), up_ne ha (by omega)]; exact e1
    rw [e34] at h'
    rcases h' with ⟨c1, hy, hM'⟩ | ⟨c1, m1, hy, hM'⟩ | ⟨c1, m1, hy, f2, s2, g1, g2⟩
    · omega
    · omega
    · refine ⟨by omega, JA_se hJ (fun a b g1 g2 g3 => by rw [up_ne hM g3, up_ne hb (Or.inl g2), up_ne ha (Or.inl g1)]) f2 (by rw [s2, up_eq hM]) (fun e he => ?_)⟩
      rw [up_eq hM] at he
      rw [g1, g2, up_of hM (show (27 : Nat) ≠ 0 by decide), up_of hM (show (28 : Nat) ≠ 0 by decide), up_of hM (show (57 : Nat) ≠ 0 by decide), up_of hM (show (58 : Nat) ≠ 0 by decide), up_of hb (show (27 : Nat) ≠ 28 by decide), up_rw hb, up_of hb (show (57 : Nat) ≠ 28 by decide), up_of hb (show (58 : Nat) ≠ 28 by decide), up_rw ha, up_of ha (show (28 : Nat) ≠ 27 by decide), up_of ha (show (57 : Nat) ≠ 27 by decide), up_of ha (show (58 : Nat) ≠ 27 by decide)]
      unfold up1
      by_cases q : e = (M 0 13).toNat
      · rw [if_pos q, if_pos q, if_pos q, if_pos q]; exact ⟨rfl, rfl⟩
      · rw [if_neg q, if_neg q, if_neg q, if_neg q]; exact e2 e (by omega)
theorem J_forget {tl : List CD} {M M1 M2 : Mem} {x y : Int} (hJ : JA tl M) (hx : x = M 0 13) (hM : M1 = up M 0 13 0) (hy : y = M1 32 34) (hM' : M2 = up M1 32 34 0) : x = y ∧ JA tl M2 := by
  refine ⟨by rw [hx, hy, up_ne hM (by omega)]; exact hJ.1.2.2.2.1.symm, JA_se hJ (fun a b _ _ g => up_ne hM g) (FX.rf.put hM' (by decide)) (by rw [up_eq hM', up_eq hM]) (fun e he => ?_)⟩
  rw [up_eq hM] at he
  exact absurd he (Nat.not_lt_zero e)
