def aCount (M : Mem) (what x : Int) : Prop := ((what < 0 ∨ 8 < what) ∧ x = -2) ∨ (what = 0 ∧ x = M 5 4) ∨ (what = 1 ∧ x = M 15 2) ∨ (what = 2 ∧ x = M 1 2) ∨ (what = 3 ∧ x = M 3 2) ∨ (what = 4 ∧ x = M 0 12) ∨ (what = 5 ∧ x = M 18 3) ∨ (what = 6 ∧ x = PCN (fCB (-1) (fgT M) (qgT M))) ∨ (what = 7 ∧ x = M 0 13) ∨ (what = 8 ∧ x = M 0 14)
theorem aCount_sc {M N : Mem} {what x : Int} (hf : FR SC M N) (h : aCount N what x) : aCount M what x := by
  unfold aCount at h ⊢
  rw [hf 5 (by decide), hf 15 (by decide), hf 1 (by decide), hf 3 (by decide), hf 0 (by decide), hf 18 (by decide), (fg_sc hf).1, (fg_sc hf).2] at h
  exact h
theorem aCount_u {M : Mem} {what x y : Int} (h : aCount M what x) (h' : aCount M what y) : x = y := by
  rcases h with h | ⟨h1, h2⟩ | ⟨h1, h2⟩ | ⟨h1, h2⟩ | ⟨h1, h2⟩ | ⟨h1, h2⟩ | ⟨h1, h2⟩ | ⟨h1, h2⟩ | ⟨h1, h2⟩ | ⟨h1, h2⟩ <;> rcases h' with k | ⟨k1, k2⟩ | ⟨k1, k2⟩ | ⟨k1, k2⟩ | ⟨k1, k2⟩ | ⟨k1, k2⟩ | ⟨k1, k2⟩ | ⟨k1, k2⟩ | ⟨k1, k2⟩ | ⟨k1, k2⟩ <;> first | (rw [h2, k2]; done) | omega
def aFault (M : Mem) (text x : Int) : Prop := (text = 0 ∧ FLT 5 (M 1 2).toNat (M 2) x) ∨ (text = 1 ∧ FLT 3 (M 3 2).toNat (M 4) x)
theorem aFault_u {M : Mem} {text x y : Int} (h : aFault M text x) (h' : aFault M text y) : x = y := by
  rcases h with ⟨h1, h2⟩ | ⟨h1, h2⟩ <;> rcases h' with ⟨k1, k2⟩ | ⟨k1, k2⟩
  · exact FLT_u (fun _ _ => rfl) h2 k2
  · omega
  · omega
  · exact FLT_u (fun _ _ => rfl) h2 k2
theorem lvF_sc {M N : Mem} {seed n : Int} (hf : FR SC M N) : lvF N seed n = lvF M seed n := by
  unfold lvF
  rw [hf 18 (by decide), hf 19 (by decide), hf 20 (by decide), hf 21 (by decide)]
noncomputable def dMan (M : Mem) (h t : Int) : Int := dg (dg (dg (dg h (pk (aMan (fgT M) 3 t 0))) (pk (aMan (fgT M) 12 t 0))) (pk (aMan (fgT M) 23 t 0))) (pk (aMan (fgT M) 23 t 1))
noncomputable def dCount (M : Mem) (w : Nat) : Int := pk (aCount M (w : Int))
noncomputable def dFault (M : Mem) (w : Nat) : Int := pk (aFault M (w : Int))
noncomputable def dWhere (M : Mem) (w : Nat) : Int := pk (aWhere (fgT M) (w : Int))
noncomputable def dSum (M : Mem) (w : Nat) : Int := pk (aSum (fgT M) (qgT M) (w : Int))
noncomputable def dDrop (M : Mem) (w : Int) : Int := pk (aPick False (fDR (fgT M) (qgT M)) (M 5 4).toNat w)
noncomputable def dClean (M : Mem) (w : Int) : Int := pk (aClean (M 5 4).toNat (M 8) (M 7) (M 6) w)
noncomputable def dSpare (M : Mem) (w : Int) : Int := pk (aSpare (fgT M) (qgT M) w)
noncomputable def dNever (M : Mem) : Int := pk (aNever (fgT M) (qgT M) (M 0 13).toNat (M 27) (M 28))
noncomputable def dLives (M : Mem) (w : Int) : Int := pk (aLives (lvF M 7 9) (qgT M) 9 w)
noncomputable def DIG1 (M : Mem) : Int := lpD (dSum M) (lpF (dgC1 M) (lpF (dgT1 M) (lpD (dWhere M) (lpF (dMan M) (lpD (dFault M) (lpD (dCount M) 17 8) 2) 8) 24) (M 5 4).toNat) (M 15 2).toNat) 4
noncomputable def DIG (M : Mem) : Int := dg (dg (dg (dg (dg (dg (dg (dg (dg (dg (dg (DIG1 M) (pk (aLiar (fgT M)))) (pk (aBest (fgT M)))) (dDrop M 0)) (dDrop M 1)) (dClean M 0)) (dClean M 1)) (dSpare M (-1))) (dSpare M 0)) (dNever M)) (dLives M 0)) (dLives M 1)
theorem ct_X6_fault_g (tl : List CD) (M : Mem) (text : Int) (ht : 0 ≤ text ∧ text ≤ 1) : Ct 2 mX6_fault (LB ++ tl) [aR 0, aI text] M (fun r M1 => M = M1 ∧ ∃ x, r = some (aI x) ∧ aFault M text x) := by
  rcases (show text = 0 ∨ text = 1 by omega) with e | e
  · subst e
    exact (ct_X6_fault_0 tl M).mono (fun r M1 h => by obtain ⟨h1, x, h2, h3⟩ := h; exact ⟨h1, x, h2, Or.inl ⟨rfl, h3⟩⟩)
  · subst e
    exact (ct_X6_fault_1 tl M).mono (fun r M1 h => by obtain ⟨h1, x, h2, h3⟩ := h; exact ⟨h1, x, h2, Or.inr ⟨rfl, h3⟩⟩)
theorem dgT1_sc {M N : Mem} (hf : FR SC M N) : dgT1 N = dgT1 M := by
  funext h k
  unfold dgT1 dStands dTale dMove dWas dAsk
  rw [hf 5 (by decide), hf 6 (by decide), hf 7 (by decide), hf 8 (by decide), hf 9 (by decide), hf 0 (by decide), hf 27 (by decide), hf 28 (by decide), (fg_sc hf).1, (fg_sc hf).2]
theorem dgC1_sc {M N : Mem} (hf : FR SC M N) : dgC1 N = dgC1 M := by
  funext h k
  unfold dgC1 dCharge dBelief dCleared dLow
  rw [hf 15 (by decide), hf 16 (by decide), hf 17 (by decide), hf 18 (by decide), (fg_sc hf).1, (fg_sc hf).2]
