/-! plans and what might have been: other figures -/
def setT (F : FG) (k : Nat) (v : Int) : FG := (gn F, gm F, gK F, gEN F, gEX F, gN F, up1 (gT F) k v, gW F, gS F)
def setW (F : FG) (k : Nat) (v : Int) : FG := (gn F, gm F, gK F, gEN F, gEX F, gN F, gT F, up1 (gW F) k v, gS F)
def setS (F : FG) (k : Nat) (v : Int) : FG := (gn F, gm F, gK F, gEN F, gEX F, gN F, gT F, gW F, up1 (gS F) k v)
def setK (F : FG) (K : Nat → Int) : FG := (gn F, gm F, K, gEN F, gEX F, gN F, gT F, gW F, gS F)
theorem fCB_cg {lo : Int} {F F' : FG} {Q Q' : QG} {C G B : Nat → Int} (he : FGe F F') (hq : QGe Q Q') (hN : ∀ j, 0 ≤ gN F j) (hn : Q.2.1 ≤ 8) (h : RUNf lo F C G B) : fCB lo F Q = fCB lo F' Q' := by
  obtain ⟨q1, q2, q3⟩ := hq
  unfold fCB
  rw [← q2]
  refine BTF_e (by omega) (BTF_s _ (by omega)) (fun c hc => ?_)
  rw [← fBLF_e (night := Q.2.2.1 c) (own := Q.2.2.2 c) FGe.rf hN h, fBLF_e he hN h, q1, (q3 c hc).1, (q3 c hc).2]
theorem fC_cg {lo : Int} {F F' : FG} {C G B : Nat → Int} (he : FGe F F') (hN : ∀ j, 0 ≤ gN F j) (h : RUNf lo F C G B) : sm (fC lo F) (gn F) = sm (fC lo F') (gn F') := by
  have e1 := he.1
  rw [← e1]
  exact sm_c (fun i hi => by rw [← (fX_eq FGe.rf hN h).1 i hi, (fX_eq he hN h).1 i hi])
/-- what was SEEN comes out so by the bits x -/
def SO (sn : Nat) (H I : Nat → Int) (cn x : Int) : Prop := ∀ j, j < sn → (H j < cn ∧ (BT x (H j).toNat ↔ I j = 1))
noncomputable def fMV (F : FG) (Q : QG) (k t : Nat) : Int := PCN (fCB (-1) (setT F k (t : Int)) Q)
noncomputable def fDR (F : FG) (Q : QG) (k : Nat) : Int := PCN (fCB (k : Int) F Q)
def aPick (bad : Prop) (g : Nat → Int) (n : Nat) (what x : Int) : Prop := ((bad ∨ what < 0 ∨ 1 < what) ∧ x = -2) ∨ (¬ bad ∧ ∃ x0 y0, AMX g (-1) n x0 y0 ∧ ((what = 0 ∧ x = x0) ∨ (what = 1 ∧ x = y0)))
def lvF (M : Mem) (seed n : Int) : FG := (n.toNat, (M 18 3).toNat, M 19, M 20, M 21, (fun i => bUsh (LSQ seed (4 * i + 1)) 16 % 24), (fun i => bUsh (LSQ seed (4 * i + 2)) 16 % 8), (fun i => bUsh (LSQ seed (4 * i + 3)) 16 % 10), (fun i => bUsh (LSQ seed (4 * i + 4)) 16 % 3))
def aLives (F : FG) (Q : QG) (n what x : Int) : Prop := ((n < 0 ∨ 12 < n ∨ what < 0 ∨ 1 < what) ∧ x = -2) ∨ (0 ≤ n ∧ n ≤ 12 ∧ ((what = 0 ∧ x = PCN (fCB (-1) F Q)) ∨ (what = 1 ∧ x = sm (fC (-1) F) (gn F))))
theorem KEF_all {m : Int} {K : Nat → Int} {e : Nat} (hm : 0 ≤ m ∧ m ≤ 8) (he : e < m.toNat) : KEF (bShl 1 m - 1) K e = K e := by
  unfold KEF
  rw [if_pos (((all_bits hm).2.2 e).mpr he)]
/-- all events but one -/
theorem KEF_off {m a : Int} {K : Nat → Int} {e : Nat} (hm : 0 ≤ m ∧ m ≤ 8) (ha : 0 ≤ a ∧ a < m) (he : e < m.toNat) : KEF (bAnd (bShl 1 m - 1) (bXor (bShl 1 a) (-1))) K e = up1 K a.toNat (-1) e := by
  have h := all_bits hm
  have q := bShl_lt (k := a) (n := 8) (by omega) (by omega)
  unfold KEF up1
  by_cases e1 : e = a.toNat
  · rw [if_pos e1, if_neg (by rw [BT_andn (by omega) (by omega), BT_shl (by omega)]; exact fun z => z.2 e1)]
  · rw [if_neg e1, if_pos (by rw [BT_andn (by omega) (by omega), BT_shl (by omega)]; exact ⟨(h.2.2 e).mpr he, e1⟩)]
theorem off_in {m a : Int} (hm : 0 ≤ m ∧ m ≤ 8) (ha : 0 ≤ a ∧ a < m) : 0 ≤ bAnd (bShl 1 m - 1) (bXor (bShl 1 a) (-1)) ∧ bAnd (bShl 1 m - 1) (bXor (bShl 1 a) (-1)) < 256 := by
  have h := all_bits hm
  have q := bShl_lt (k := a) (n := 8) (by omega) (by omega)
  exact bAndn_lt (n := 8) (by omega) (by omega) (by omega)
noncomputable def aNeverP (F : FG) (Q : QG) (sn : Nat) (H I : Nat → Int) (e : Nat) : Prop := SO sn H I (Q.2.1 : Int) (fCB (-1) (setK F (up1 (gK F) e (-1))) Q)
def aNever (F : FG) (Q : QG) (sn : Nat) (H I : Nat → Int) (x : Int) : Prop := BTS (aNeverP F Q sn H I) (gm F) x
def aWas (sz : Int) (F : FG) (Q : QG) (sn : Nat) (H I : Nat → Int) (k what x : Int) : Prop := ((k < 0 ∨ sz ≤ k ∨ what < 0 ∨ 1 < what) ∧ x = -2) ∨ (0 ≤ k ∧ k < sz ∧ ((what = 0 ∧ BTS (fun v => SO sn H I (Q.2.1 : Int) (fCB (-1) (setW F k.toNat (v : Int)) Q)) 10 x) ∨ (what = 1 ∧ BTS (fun v => SO sn H I (Q.2.1 : Int) (fCB (-1) (setS F k.toNat (v : Int)) Q)) 3 x)))
/-- the trial's figure, where it is the told one but for one row's place -/
theorem trial_f {M M1 : Mem} {F : FG} (hm : 0 ≤ M 18 3 ∧ M 18 3 ≤ 8) (h18 : M1 18 = M 18) (h19 : M1 19 = M 19) (h20 : M1 20 = M 20) (h21 : M1 21 = M 21) (hn : M1 10 4 = M 5 4) (hF : gn F = (M 5 4).toNat ∧ gm F = (M 18 3).toNat ∧ gK F = M 19 ∧ gEN F = M 20 ∧ gEX F = M 21) (ha : ∀ i, i < (M 5 4).toNat → M1 11 i = gN F i ∧ M1 12 i = gT F i ∧ M1 13 i = gW F i ∧ M1 14 i = gS F i) : FGe (fgH M1 10 (bShl 1 (M 18 3) - 1)) F := by
  obtain ⟨f1, f2, f3, f4, f5⟩ := hF
  refine ⟨?_, ?_, ?_, ?_⟩
  · show (M1 10 4).toNat = _
    rw [hn, f1]
  · show (M1 18 3).toNat = _
    rw [h18, f2]
  · intro e he
    have he2 : e < (M 18 3).toNat := by rw [← h18]; exact he
    refine ⟨?_, ?_, ?_⟩
    · show KEF _ (M1 19) e = _
      rw [KEF_all hm he2, h19, f3]
    · show M1 20 e = _
      rw [h20, f4]
    · show M1 21 e = _
      rw [h21, f5]
  · intro i hi
    exact ha i (by rw [← hn]; exact hi)
theorem QG_fr {M M1 : Mem} (h0 : M1 0 = M 0) (h15 : M1 15 = M 15) (h16 : M1 16 = M 16) (h17 : M1 17 = M 17) : qgT M1 = qgT M := by
  unfold qgT
  rw [h0, h15, h16, h17]
