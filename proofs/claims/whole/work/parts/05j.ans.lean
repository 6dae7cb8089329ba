/-! answers, in the words of the figure that is told -/
abbrev SC : List Nat := [10, 11, 12, 13, 14, 22, 23, 24, 25, 26, 30, 31]
theorem FR.sc {M M1 : Mem} (h : FR [22, 23, 24, 25, 26] M M1) : FR SC M M1 := h.mono (by decide)
section TOLDs
variable {M M1 : Mem}
theorem told_std {night : Int} {t : Nat} (hfr : FR [22, 23, 24, 25, 26] M M1) (hrn : RUNf (-1) (fgT M) (M1 23) (M1 24) (M1 25)) (hkk : ∀ e, e < (M 18 3).toNat → M1 26 e = M 19 e) (hN : ∀ j, 0 ≤ M 6 j) (ht : t < 8) : STD (M1 5 4).toNat (M1 18 3).toNat (M1 25 t) (M1 24) (M1 6) (M1 7) (M1 26) (M1 20) (M1 21) night (t : Int) = fSTD (-1) (fgT M) night t := by
  rw [hfr 5 (by decide), hfr 18 (by decide), hfr 6 (by decide), hfr 7 (by decide), hfr 20 (by decide), hfr 21 (by decide)]
  rw [STD_c (G' := M1 24) (N' := M 6) (T' := M 7) (K' := M 19) (EN' := M 20) (EX' := M 21) (fun _ _ => ⟨rfl, rfl, rfl⟩) (fun e he => ⟨hkk e he, rfl, rfl⟩)]
  exact fSTD_e (F := fgT M) FGe.rf hN hrn ht
theorem told_stdI {night town : Int} (hfr : FR [22, 23, 24, 25, 26] M M1) (hrn : RUNf (-1) (fgT M) (M1 23) (M1 24) (M1 25)) (hkk : ∀ e, e < (M 18 3).toNat → M1 26 e = M 19 e) (hN : ∀ j, 0 ≤ M 6 j) (ht : 0 ≤ town ∧ town ≤ 7) : STD (M1 5 4).toNat (M1 18 3).toNat (M1 25 town.toNat) (M1 24) (M1 6) (M1 7) (M1 26) (M1 20) (M1 21) night town = fSTD (-1) (fgT M) night town.toNat := by
  have h := told_std (night := night) (t := town.toNat) hfr hrn hkk hN (by omega)
  rw [show ((town.toNat : Nat) : Int) = town by omega] at h
  exact h
theorem told_sup {night : Int} {t : Nat} (hfr : FR [22, 23, 24, 25, 26] M M1) (hrn : RUNf (-1) (fgT M) (M1 23) (M1 24) (M1 25)) (hkk : ∀ e, e < (M 18 3).toNat → M1 26 e = M 19 e) (hN : ∀ j, 0 ≤ M 6 j) (ht : t < 8) : SUP (M1 5 4).toNat (M1 18 3).toNat (M1 25) (M1 24) (M1 6) (M1 7) (M1 26) (M1 20) (M1 21) night t = fSUP (-1) (fgT M) night t := by
  rw [hfr 5 (by decide), hfr 18 (by decide), hfr 6 (by decide), hfr 7 (by decide), hfr 20 (by decide), hfr 21 (by decide)]
  rw [SUP_c (B' := M1 25) (G' := M1 24) (N' := M 6) (T' := M 7) (K' := M 19) (EN' := M 20) (EX' := M 21) rfl (fun _ _ => ⟨rfl, rfl, rfl⟩) (fun e he => ⟨hkk e he, rfl, rfl⟩)]
  exact fSUP_e (F := fgT M) FGe.rf hN hrn ht
theorem told_blf {night own : Int} (hfr : FR [22, 23, 24, 25, 26] M M1) (hrn : RUNf (-1) (fgT M) (M1 23) (M1 24) (M1 25)) (hkk : ∀ e, e < (M 18 3).toNat → M1 26 e = M 19 e) (hN : ∀ j, 0 ≤ M 6 j) : BLF (M1 5 4).toNat (M1 18 3).toNat (M1 25) (M1 24) (M1 6) (M1 7) (M1 26) (M1 20) (M1 21) night own = fBLF (-1) (fgT M) night own := by
  rw [hfr 5 (by decide), hfr 18 (by decide), hfr 6 (by decide), hfr 7 (by decide), hfr 20 (by decide), hfr 21 (by decide)]
  rw [BLF_c (B' := M1 25) (G' := M1 24) (N' := M 6) (T' := M 7) (K' := M 19) (EN' := M 20) (EX' := M 21) (fun _ _ => rfl) (fun _ _ => ⟨rfl, rfl, rfl⟩) (fun e he => ⟨hkk e he, rfl, rfl⟩)]
  exact fBLF_e (F := fgT M) FGe.rf hN hrn
theorem told_fal {w : Int} (hfr : FR [22, 23, 24, 25, 26] M M1) (hrn : RUNf (-1) (fgT M) (M1 23) (M1 24) (M1 25)) (hN : ∀ j, 0 ≤ M 6 j) : FAL (-1) (M1 5 4).toNat (M1 23) (M1 8) w = FAL (-1) (M 5 4).toNat (fC (-1) (fgT M)) (M 8) w := by
  rw [hfr 5 (by decide), hfr 8 (by decide)]
  exact FAL_c (fun j hj => ⟨(fX_eq (F := fgT M) (F' := fgT M) FGe.rf hN hrn).1 j hj, rfl⟩)
theorem told_sw {t : Nat} (hfr : FR [22, 23, 24, 25, 26] M M1) (hrn : RUNf (-1) (fgT M) (M1 23) (M1 24) (M1 25)) (hN : ∀ j, 0 ≤ M 6 j) : SWF (M1 23) (M1 9) (M1 6) (M1 7) (t : Int) (M1 5 4).toNat = fSW (fgT M) t := by
  rw [hfr 5 (by decide), hfr 9 (by decide), hfr 6 (by decide), hfr 7 (by decide)]
  exact SWF_c _ (fun j hj => ⟨(fX_eq (F := fgT M) (F' := fgT M) FGe.rf hN hrn).1 j hj, rfl, rfl, rfl⟩)
end TOLDs
def aTale (sz : Int) (N T W S : Nat → Int) (i what x : Int) : Prop := ((i < 0 ∨ sz ≤ i ∨ what < 0 ∨ 3 < what) ∧ x = -2) ∨ (0 ≤ i ∧ i < sz ∧ ((what = 0 ∧ x = N i.toNat) ∨ (what = 1 ∧ x = T i.toNat) ∨ (what = 2 ∧ x = W i.toNat) ∨ (what = 3 ∧ x = S i.toNat)))
def aCharge (sz : Int) (N T : Nat → Int) (i what x : Int) : Prop := ((i < 0 ∨ sz ≤ i ∨ what < 0 ∨ 1 < what) ∧ x = -2) ∨ (0 ≤ i ∧ i < sz ∧ ((what = 0 ∧ x = N i.toNat) ∨ (what = 1 ∧ x = T i.toNat)))
def aStands (sz : Int) (F : FG) (i what x : Int) : Prop := ((i < 0 ∨ sz ≤ i ∨ what < 0 ∨ 2 < what) ∧ x = -2) ∨ (0 ≤ i ∧ i < sz ∧ ((what = 0 ∧ x = fC (-1) F i.toNat) ∨ (what = 1 ∧ x = fG (-1) F i.toNat) ∨ (what = 2 ∧ FST (fun a => fC (-1) F a = 1 ∧ AP (gW F) (gT F) (gN F) a i.toNat) i.toNat x)))
def aMan (F : FG) (night town what x : Int) : Prop := ((night < 0 ∨ 23 < night ∨ town < 0 ∨ 7 < town ∨ what < 0 ∨ 1 < what) ∧ x = -2) ∨ (0 ≤ night ∧ night ≤ 23 ∧ 0 ≤ town ∧ town ≤ 7 ∧ ((what = 0 ∧ x = max 0 (fSTD (-1) F night town.toNat)) ∨ (what = 1 ∧ x = RNK (fSTD (-1) F night town.toNat))))
def aBelief (sz : Int) (F : FG) (Q : QG) (c x : Int) : Prop := ((c < 0 ∨ sz ≤ c) ∧ x = -2147483648) ∨ (0 ≤ c ∧ c < sz ∧ x = fBLF (-1) F (Q.2.2.1 c.toNat) (Q.2.2.2 c.toNat))
def aCleared (sz : Int) (F : FG) (Q : QG) (c what x : Int) : Prop := ((c < 0 ∨ sz ≤ c ∨ what < 0 ∨ 1 < what) ∧ x = -2) ∨ (0 ≤ c ∧ c < sz ∧ ((what = 0 ∧ x = b2 (Q.1 ≤ fBLF (-1) F (Q.2.2.1 c.toNat) (Q.2.2.2 c.toNat))) ∨ (what = 1 ∧ ∃ y, AMX (GX (Q.2.2.2 c.toNat) (fSUP (-1) F (Q.2.2.1 c.toNat))) (-1) 8 x y)))
noncomputable def fMEN (F : FG) (least : Int) : Int := sm (fun t => b2 (least ≤ RNK (fSTD (-1) F 23 t))) 8
def aSum (F : FG) (Q : QG) (what x : Int) : Prop := ((what < 0 ∨ 3 < what) ∧ x = -2) ∨ (what = 0 ∧ x = PCN (fCB (-1) F Q)) ∨ (what = 1 ∧ x = sm (fC (-1) F) (gn F)) ∨ (what = 2 ∧ x = fMEN F 1) ∨ (what = 3 ∧ x = fMEN F 3)
def aLiar (F : FG) (x : Int) : Prop := ∃ y, AMX (fun w => FAL (-1) (gn F) (fC (-1) F) (gW F) (w : Int)) 0 10 x y
def aBest (F : FG) (x : Int) : Prop := ∃ y, AMX (fSTD (-1) F 23) (-1) 8 x y
def aWhere (F : FG) (night x : Int) : Prop := ((night < 0 ∨ 23 < night) ∧ x = -2) ∨ (0 ≤ night ∧ night ≤ 23 ∧ x = bAnd (FWD (fSW F) night.toNat) (BWD (fSW F) (23 - night).toNat))
/-- by all events, what the class's figure of told tales says -/
theorem fCB_told {M : Mem} {x : Int} {C G B : Nat → Int} (hm : 0 ≤ M 18 3 ∧ M 18 3 ≤ 8) (hN : ∀ j, 0 ≤ M 6 j) (h : RUNf (-1) (fgH M 5 (bShl 1 (M 18 3) - 1)) C G B) : fCB (-1) (fgH M 5 (bShl 1 (M 18 3) - 1)) (qgT M) = fCB (-1) (fgT M) (qgT M) := by
  have h1 := fX_run h
  have e := fgH_all hm
  unfold fCB
  congr 1
  funext c
  rw [← fBLF_e (night := (qgT M).2.2.1 c) (own := (qgT M).2.2.2 c) FGe.rf (F := fgH M 5 (bShl 1 (M 18 3) - 1)) hN h, fBLF_e e (F := fgH M 5 (bShl 1 (M 18 3) - 1)) hN h]
