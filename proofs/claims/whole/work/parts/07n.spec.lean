/-! the digest's chains -/
noncomputable def lpD (f : Nat → Int) (h : Int) : Nat → Int
  | 0 => h
  | n + 1 => dg (lpD f h n) (f n)
noncomputable def lpF (f : Int → Int → Int) (h : Int) : Nat → Int
  | 0 => h
  | n + 1 => f (lpF f h n) (n : Int)
theorem lpD_i {f : Nat → Int} {h i : Int} (hi : 0 ≤ i) : lpD f h (i + 1).toNat = dg (lpD f h i.toNat) (f i.toNat) := by
  rw [tn_s hi]
  rfl
theorem lpF_i {f : Int → Int → Int} {h i : Int} (hi : 0 ≤ i) : lpF f h (i + 1).toNat = f (lpF f h i.toNat) i := by
  rw [tn_s hi]
  show f _ ((i.toNat : Nat) : Int) = _
  rw [show ((i.toNat : Nat) : Int) = i by omega]
noncomputable def dTale (M : Mem) (k : Int) (w : Nat) : Int := pk (aTale (M 5 4) (M 6) (M 7) (M 8) (M 9) k (w : Int))
noncomputable def dStands (M : Mem) (k : Int) (w : Nat) : Int := pk (aStands (M 5 4) (fgT M) k (w : Int))
noncomputable def dMove (M : Mem) (k w : Int) : Int := pk (aPick (k < 0 ∨ M 5 4 ≤ k) (fMV (fgT M) (qgT M) k.toNat) 8 w)
noncomputable def dWas (M : Mem) (k w : Int) : Int := pk (aWas (M 5 4) (fgT M) (qgT M) (M 0 13).toNat (M 27) (M 28) k w)
noncomputable def dAsk (M : Mem) (k : Int) : Int := pk (aAsk (M 5 4) (fgT M) (qgT M) (M 0 13).toNat (M 27) (M 28) k)
noncomputable def dgT1 (M : Mem) (h k : Int) : Int := dg (dg (dg (dg (dg (lpD (dStands M k) (lpD (dTale M k) h 4) 3) (dMove M k 0)) (dMove M k 1)) (dWas M k 0)) (dWas M k 1)) (dAsk M k)
noncomputable def dCharge (M : Mem) (c w : Int) : Int := pk (aCharge (M 15 2) (M 16) (M 17) c w)
noncomputable def dBelief (M : Mem) (c : Int) : Int := pk (aBelief (M 15 2) (fgT M) (qgT M) c)
noncomputable def dCleared (M : Mem) (c w : Int) : Int := pk (aCleared (M 15 2) (fgT M) (qgT M) c w)
noncomputable def dLow (M : Mem) (c w : Int) : Int := pk (aLow (fFAV (fgT M) (qgT M) 5 c.toNat) (4 * (M 18 3).toNat) w)
noncomputable def dgC1 (M : Mem) (h c : Int) : Int := dg (dg (dg (dg (dg (dg (dg h (dCharge M c 0)) (dCharge M c 1)) (dBelief M c)) (dCleared M c 0)) (dCleared M c 1)) (dLow M c 0)) (dLow M c 1)
