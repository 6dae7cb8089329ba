/-! the digest's chains under the reference's frame -/
theorem dgT1_fx {M N : Mem} (hf : FX RC RF M N) : dgT1 N = dgT1 M := by
  have hg := fg_fx hf (by decide)
  funext h k
  unfold dgT1 dStands dTale dMove dWas dAsk
  rw [hf.at 5 (by decide), hf.at 6 (by decide), hf.at 7 (by decide), hf.at 8 (by decide), hf.at 9 (by decide), hf.at 0 (by decide), hf.at 27 (by decide), hf.at 28 (by decide), hg.1, hg.2]
theorem dgC1_fx {M N : Mem} (hf : FX RC RF M N) : dgC1 N = dgC1 M := by
  have hg := fg_fx hf (by decide)
  funext h k
  unfold dgC1 dCharge dBelief dCleared dLow
  rw [hf.at 15 (by decide), hf.at 16 (by decide), hf.at 17 (by decide), hf.at 18 (by decide), hg.1, hg.2]
theorem aCount_fx {M N : Mem} {what x : Int} (hf : FX RC RF M N) (h : aCount N what x) : aCount M what x := by
  have hg := fg_fx hf (by decide)
  unfold aCount at h ⊢
  rw [hf.at 5 (by decide), hf.at 15 (by decide), hf.at 1 (by decide), hf.at 3 (by decide), hf.at 0 (by decide), hf.at 18 (by decide), hg.1, hg.2] at h
  exact h
theorem aFault_fx {M N : Mem} {text x : Int} (hf : FX RC RF M N) (h : aFault N text x) : aFault M text x := by
  unfold aFault at h ⊢
  rw [hf.at 1 (by decide), hf.at 2 (by decide), hf.at 3 (by decide), hf.at 4 (by decide)] at h
  exact h
theorem lvF_fx {M N : Mem} {seed n : Int} (hf : FX RC RF M N) : lvF N seed n = lvF M seed n := by
  unfold lvF
  rw [hf.at 18 (by decide), hf.at 19 (by decide), hf.at 20 (by decide), hf.at 21 (by decide)]
theorem lpF_0 {f : Int → Int → Int} {h : Int} : h = lpF f h (0 : Int).toNat := rfl
theorem lpD_0 {f : Nat → Int} {h : Int} : h = lpD f h (0 : Int).toNat := rfl
