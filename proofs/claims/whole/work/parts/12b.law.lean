/-! one contract for each of the class's methods that was walked in cases -/
theorem ct_X6_fault_h (tl : List CD) (M : Mem) (text : Int) : Ct 2 mX6_fault (LB ++ tl) [aR 0, aI text] M (fun r M1 => M = M1 ∧ ∃ x, r = some (aI x) ∧ (((text < 0 ∨ 1 < text) ∧ x = -2) ∨ (0 ≤ text ∧ text ≤ 1 ∧ aFault M text x))) := by
  by_cases h : 0 ≤ text ∧ text ≤ 1
  · exact (ct_X6_fault_g tl M text h).mono (fun r M1 q => by obtain ⟨a, x, b, c⟩ := q; exact ⟨a, x, b, Or.inr ⟨h.1, h.2, c⟩⟩)
  · exact (ct_X6_fault_x tl M text (by omega)).mono (fun r M1 q => by obtain ⟨a, b⟩ := q; exact ⟨a, -2, b, Or.inl ⟨by omega, rfl⟩⟩)
theorem ct_X6_was_h (tl : List CD) (M : Mem) (k what : Int) : Ct 5 mX6_was (LB ++ tl) [aR 0, aI k, aI what] M (fun r M1 => ∃ x, r = some (aI x) ∧ FR SC M M1 ∧ aWas (M 5 4) (fgT M) (qgT M) (M 0 13).toNat (M 27) (M 28) k what x) := by
  by_cases h0 : what = 0
  · subst h0; exact ct_X6_was_0 tl M k
  · by_cases h1 : what = 1
    · subst h1; exact ct_X6_was_1 tl M k
    · exact ct_X6_was_x tl M k what (by omega)
def TYc (text b : Int) (M M1 : Mem) (x : Int) : Prop := ((text < 0 ∨ 1 < text) ∧ x = -2 ∧ M1 = M) ∨ (text = 0 ∧ (((b < 0 ∨ 255 < b) ∧ x = -2 ∧ M1 = M) ∨ (0 ≤ b ∧ b ≤ 255 ∧ M 1 2 = 59 ∧ x = -4 ∧ M1 = M) ∨ (0 ≤ b ∧ b ≤ 255 ∧ M 1 2 < 59 ∧ x = M 1 2 + 1 ∧ FR [1, 2, 5, 6, 7, 8, 9, 15, 16, 17] M M1 ∧ PAR M1 ∧ M1 1 2 = M 1 2 + 1 ∧ M1 2 = up1 (M 2) (M 1 2).toNat b))) ∨ (text = 1 ∧ (((b < 0 ∨ 255 < b) ∧ x = -2 ∧ M1 = M) ∨ (0 ≤ b ∧ b ≤ 255 ∧ M 3 2 = 23 ∧ x = -4 ∧ M1 = M) ∨ (0 ≤ b ∧ b ≤ 255 ∧ M 3 2 < 23 ∧ x = M 3 2 + 1 ∧ FR [3, 4, 5, 6, 7, 8, 9, 15, 16, 17] M M1 ∧ PAR M1 ∧ M1 3 2 = M 3 2 + 1 ∧ M1 4 = up1 (M 4) (M 3 2).toNat b)))
theorem ct_X6_type_h (tl : List CD) (M : Mem) (text b : Int) : Ct 5 mX6_type (LB ++ tl) [aR 0, aI text, aI b] M (fun r M1 => ∃ x, r = some (aI x) ∧ TYc text b M M1 x) := by
  by_cases h0 : text = 0
  · subst h0; exact (ct_X6_type_0 tl M b).mono (fun r M1 q => by obtain ⟨x, a, c⟩ := q; exact ⟨x, a, Or.inr (Or.inl ⟨rfl, c⟩)⟩)
  · by_cases h1 : text = 1
    · subst h1; exact (ct_X6_type_1 tl M b).mono (fun r M1 q => by obtain ⟨x, a, c⟩ := q; exact ⟨x, a, Or.inr (Or.inr ⟨rfl, c⟩)⟩)
    · exact (ct_X6_type_x tl M text b (by omega)).mono (fun r M1 q => by obtain ⟨a, c⟩ := q; exact ⟨-2, c, Or.inl ⟨by omega, rfl, a.symm⟩⟩)
def WIc (text : Int) (M M1 : Mem) (x : Int) : Prop := ((text < 0 ∨ 1 < text) ∧ x = -2 ∧ M1 = M) ∨ (text = 0 ∧ x = M 1 2 ∧ FR [1, 2, 5, 6, 7, 8, 9, 15, 16, 17] M M1 ∧ PAR M1 ∧ M1 1 2 = 0 ∧ M1 2 = M 2) ∨ (text = 1 ∧ x = M 3 2 ∧ FR [3, 4, 5, 6, 7, 8, 9, 15, 16, 17] M M1 ∧ PAR M1 ∧ M1 3 2 = 0 ∧ M1 4 = M 4)
theorem ct_X6_wipe_h (tl : List CD) (M : Mem) (text : Int) : Ct 5 mX6_wipe (LB ++ tl) [aR 0, aI text] M (fun r M1 => ∃ x, r = some (aI x) ∧ WIc text M M1 x) := by
  by_cases h0 : text = 0
  · subst h0; exact (ct_X6_wipe_0 tl M).mono (fun r M1 q => by obtain ⟨x, a, c⟩ := q; exact ⟨x, a, Or.inr (Or.inl ⟨rfl, c⟩)⟩)
  · by_cases h1 : text = 1
    · subst h1; exact (ct_X6_wipe_1 tl M).mono (fun r M1 q => by obtain ⟨x, a, c⟩ := q; exact ⟨x, a, Or.inr (Or.inr ⟨rfl, c⟩)⟩)
    · exact (ct_X6_wipe_x tl M text (by omega)).mono (fun r M1 q => by obtain ⟨a, c⟩ := q; exact ⟨-2, c, Or.inl ⟨by omega, rfl, a.symm⟩⟩)
def UNc (text : Int) (M M1 : Mem) (x : Int) : Prop := ((text < 0 ∨ 1 < text) ∧ x = -2 ∧ M1 = M) ∨ (text = 0 ∧ ((M 1 2 = 0 ∧ x = -3 ∧ M1 = M) ∨ (0 < M 1 2 ∧ x = M 1 2 - 1 ∧ FR [1, 2, 5, 6, 7, 8, 9, 15, 16, 17] M M1 ∧ PAR M1 ∧ M1 1 2 = M 1 2 - 1 ∧ M1 2 = M 2))) ∨ (text = 1 ∧ ((M 3 2 = 0 ∧ x = -3 ∧ M1 = M) ∨ (0 < M 3 2 ∧ x = M 3 2 - 1 ∧ FR [3, 4, 5, 6, 7, 8, 9, 15, 16, 17] M M1 ∧ PAR M1 ∧ M1 3 2 = M 3 2 - 1 ∧ M1 4 = M 4)))
theorem ct_X6_undo_h (tl : List CD) (M : Mem) (text : Int) : Ct 5 mX6_undo (LB ++ tl) [aR 0, aI text] M (fun r M1 => ∃ x, r = some (aI x) ∧ UNc text M M1 x) := by
  by_cases h0 : text = 0
  · subst h0; exact (ct_X6_undo_0 tl M).mono (fun r M1 q => by obtain ⟨x, a, c⟩ := q; exact ⟨x, a, Or.inr (Or.inl ⟨rfl, c⟩)⟩)
  · by_cases h1 : text = 1
    · subst h1; exact (ct_X6_undo_1 tl M).mono (fun r M1 q => by obtain ⟨x, a, c⟩ := q; exact ⟨x, a, Or.inr (Or.inr ⟨rfl, c⟩)⟩)
    · exact (ct_X6_undo_x tl M text (by omega)).mono (fun r M1 q => by obtain ⟨a, c⟩ := q; exact ⟨-2, c, Or.inl ⟨by omega, rfl, a.symm⟩⟩)
/-! the reference's -/
def TYr (text b : Int) (M M1 : Mem) (x : Int) : Prop := ((text < 0 ∨ 1 < text) ∧ x = -2 ∧ M1 = M) ∨ (text = 0 ∧ (((b < 0 ∨ 255 < b) ∧ x = -2 ∧ M1 = M) ∨ (0 ≤ b ∧ b ≤ 255 ∧ M 33 0 = 59 ∧ x = -4 ∧ M1 = M) ∨ (0 ≤ b ∧ b ≤ 255 ∧ M 33 0 < 59 ∧ x = M 33 0 + 1 ∧ FR [33, 34] M M1 ∧ M1 33 = up1 (M 33) 0 (M 33 0 + 1) ∧ M1 34 = up1 (M 34) (M 33 0).toNat b))) ∨ (text = 1 ∧ (((b < 0 ∨ 255 < b) ∧ x = -2 ∧ M1 = M) ∨ (0 ≤ b ∧ b ≤ 255 ∧ M 33 1 = 23 ∧ x = -4 ∧ M1 = M) ∨ (0 ≤ b ∧ b ≤ 255 ∧ M 33 1 < 23 ∧ x = M 33 1 + 1 ∧ FR [33, 34] M M1 ∧ M1 33 = up1 (M 33) 1 (M 33 1 + 1) ∧ M1 34 = up1 (M 34) (59 + (M 33 1).toNat) b)))
theorem ct_X7_type_h (tl : List CD) (M : Mem) (text b : Int) (h23 : M 33 1 ≤ 23) : Ct 2 mX7_type (LB ++ tl) [aR 32, aI text, aI b] M (fun r M1 => ∃ x, r = some (aI x) ∧ TYr text b M M1 x) := by
  by_cases h0 : text = 0
  · subst h0; exact (ct_X7_type_0 tl M b).mono (fun r M1 q => by obtain ⟨x, a, c⟩ := q; exact ⟨x, a, Or.inr (Or.inl ⟨rfl, c⟩)⟩)
  · by_cases h1 : text = 1
    · subst h1; exact (ct_X7_type_1 tl M b h23).mono (fun r M1 q => by obtain ⟨x, a, c⟩ := q; exact ⟨x, a, Or.inr (Or.inr ⟨rfl, c⟩)⟩)
    · exact (ct_X7_type_x tl M text b (by omega)).mono (fun r M1 q => by obtain ⟨a, c⟩ := q; exact ⟨-2, c, Or.inl ⟨by omega, rfl, a.symm⟩⟩)
def WIr (text : Int) (M M1 : Mem) (x : Int) : Prop := ((text < 0 ∨ 1 < text) ∧ x = -2 ∧ M1 = M) ∨ (text = 0 ∧ x = M 33 0 ∧ M1 = up M 33 0 0) ∨ (text = 1 ∧ x = M 33 1 ∧ M1 = up M 33 1 0)
theorem ct_X7_wipe_h (tl : List CD) (M : Mem) (text : Int) : Ct 2 mX7_wipe (LB ++ tl) [aR 32, aI text] M (fun r M1 => ∃ x, r = some (aI x) ∧ WIr text M M1 x) := by
  by_cases h0 : text = 0
  · subst h0; exact (ct_X7_wipe_0 tl M).mono (fun r M1 q => by obtain ⟨x, a, c⟩ := q; exact ⟨x, a, Or.inr (Or.inl ⟨rfl, c⟩)⟩)
  · by_cases h1 : text = 1
    · subst h1; exact (ct_X7_wipe_1 tl M).mono (fun r M1 q => by obtain ⟨x, a, c⟩ := q; exact ⟨x, a, Or.inr (Or.inr ⟨rfl, c⟩)⟩)
    · exact (ct_X7_wipe_x tl M text (by omega)).mono (fun r M1 q => by obtain ⟨a, c⟩ := q; exact ⟨-2, c, Or.inl ⟨by omega, rfl, a.symm⟩⟩)
def UNr (text : Int) (M M1 : Mem) (x : Int) : Prop := ((text < 0 ∨ 1 < text) ∧ x = -2 ∧ M1 = M) ∨ (text = 0 ∧ ((M 33 0 = 0 ∧ x = -3 ∧ M1 = M) ∨ (0 < M 33 0 ∧ x = M 33 0 - 1 ∧ M1 = up M 33 0 (M 33 0 - 1)))) ∨ (text = 1 ∧ ((M 33 1 = 0 ∧ x = -3 ∧ M1 = M) ∨ (0 < M 33 1 ∧ x = M 33 1 - 1 ∧ M1 = up M 33 1 (M 33 1 - 1))))
theorem ct_X7_undo_h (tl : List CD) (M : Mem) (text : Int) : Ct 2 mX7_undo (LB ++ tl) [aR 32, aI text] M (fun r M1 => ∃ x, r = some (aI x) ∧ UNr text M M1 x) := by
  by_cases h0 : text = 0
  · subst h0; exact (ct_X7_undo_0 tl M).mono (fun r M1 q => by obtain ⟨x, a, c⟩ := q; exact ⟨x, a, Or.inr (Or.inl ⟨rfl, c⟩)⟩)
  · by_cases h1 : text = 1
    · subst h1; exact (ct_X7_undo_1 tl M).mono (fun r M1 q => by obtain ⟨x, a, c⟩ := q; exact ⟨x, a, Or.inr (Or.inr ⟨rfl, c⟩)⟩)
    · exact (ct_X7_undo_x tl M text (by omega)).mono (fun r M1 q => by obtain ⟨a, c⟩ := q; exact ⟨-2, c, Or.inl ⟨by omega, rfl, a.symm⟩⟩)
/-! uniqueness, the digest under scratch -/
theorem aFaultH_u {M : Mem} {text x y : Int} (h : ((text < 0 ∨ 1 < text) ∧ x = -2) ∨ (0 ≤ text ∧ text ≤ 1 ∧ aFault M text x)) (h' : ((text < 0 ∨ 1 < text) ∧ y = -2) ∨ (0 ≤ text ∧ text ≤ 1 ∧ aFault M text y)) : x = y := by
  rcases h with ⟨h1, h2⟩ | ⟨h1, h2, h3⟩ <;> rcases h' with ⟨k1, k2⟩ | ⟨k1, k2, k3⟩ <;> first | omega | exact aFault_u h3 k3
theorem DIG_sc {M N : Mem} (hf : FR SC M N) : DIG N = DIG M := by
  have hg := fg_sc hf
  have e1 : dCount N = dCount M := by
    funext w
    unfold dCount aCount
    rw [hf 5 (by decide), hf 15 (by decide), hf 1 (by decide), hf 3 (by decide), hf 0 (by decide), hf 18 (by decide), hg.1, hg.2]
  have e2 : dFault N = dFault M := by
    funext w
    unfold dFault aFault
    rw [hf 1 (by decide), hf 2 (by decide), hf 3 (by decide), hf 4 (by decide)]
  have e3 : dMan N = dMan M := by
    funext h t
    unfold dMan
    rw [hg.1]
  have e4 : dWhere N = dWhere M := by
    funext w
    unfold dWhere
    rw [hg.1]
  have e5 : dSum N = dSum M := by
    funext w
    unfold dSum
    rw [hg.1, hg.2]
  unfold DIG DIG1 dDrop dClean dSpare dNever dLives
  rw [e1, e2, e3, e4, e5, dgT1_sc hf, dgC1_sc hf, lvF_sc hf, hg.1, hg.2, hf 5 (by decide), hf 15 (by decide), hf 6 (by decide), hf 7 (by decide), hf 8 (by decide), hf 0 (by decide), hf 27 (by decide), hf 28 (by decide)]
