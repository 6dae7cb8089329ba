/-! what is told is what the texts say -/
def PAR (M : Mem) : Prop := TOLD (M 1 2).toNat (M 2) (M 5 4) (M 6) (M 7) (M 8) (M 9) ∧ CHAR (M 3 2).toNat (M 4) (M 15 2) (M 16) (M 17)
/-- a figure: how many tales, events; kinds, nights, numbers of events; nights, towns, witnesses, sorts of tales -/
abbrev FG : Type := Nat × Nat × (Nat → Int) × (Nat → Int) × (Nat → Int) × (Nat → Int) × (Nat → Int) × (Nat → Int) × (Nat → Int)
/-- charges: NEED, how many, nights, towns -/
abbrev QG : Type := Int × Nat × (Nat → Int) × (Nat → Int)
abbrev gn (F : FG) : Nat := F.1
abbrev gm (F : FG) : Nat := F.2.1
abbrev gK (F : FG) : Nat → Int := F.2.2.1
abbrev gEN (F : FG) : Nat → Int := F.2.2.2.1
abbrev gEX (F : FG) : Nat → Int := F.2.2.2.2.1
abbrev gN (F : FG) : Nat → Int := F.2.2.2.2.2.1
abbrev gT (F : FG) : Nat → Int := F.2.2.2.2.2.2.1
abbrev gW (F : FG) : Nat → Int := F.2.2.2.2.2.2.2.1
abbrev gS (F : FG) : Nat → Int := F.2.2.2.2.2.2.2.2
def RUNf (lo : Int) (F : FG) (C G B : Nat → Int) : Prop := RUN lo (gn F) (gm F) (gK F) (gEN F) (gEX F) (gN F) (gT F) (gW F) (gS F) C G B
/-- figures that agree where they are looked at; nights from 0 on -/
def FGe (F F' : FG) : Prop := gn F = gn F' ∧ gm F = gm F' ∧ FIG (gn F) (gm F) (gK F) (gEN F) (gEX F) (gN F) (gT F) (gW F) (gS F) (gK F') (gEN F') (gEX F') (gN F') (gT F') (gW F') (gS F')
theorem RUNf_u {lo : Int} {F F' : FG} {C G B C' G' B' : Nat → Int} (he : FGe F F') (hN : ∀ j, 0 ≤ gN F j) (h : RUNf lo F C G B) (h' : RUNf lo F' C' G' B') : (∀ i, i < gn F → C i = C' i) ∧ (∀ i, i < gn F → G i = G' i) ∧ ∀ t, t < 8 → B t = B' t := by
  obtain ⟨h1, h2, h3⟩ := he
  unfold RUNf at h h'
  rw [← h1, ← h2] at h'
  exact RUN_u h3 hN h h'
noncomputable def fX (lo : Int) (F : FG) : (Nat → Int) × (Nat → Int) × (Nat → Int) := Classical.epsilon (fun X : (Nat → Int) × (Nat → Int) × (Nat → Int) => RUNf lo F X.1 X.2.1 X.2.2)
noncomputable def fC (lo : Int) (F : FG) : Nat → Int := (fX lo F).1
noncomputable def fG (lo : Int) (F : FG) : Nat → Int := (fX lo F).2.1
noncomputable def fB (lo : Int) (F : FG) : Nat → Int := (fX lo F).2.2
theorem fX_run {lo : Int} {F : FG} {C G B : Nat → Int} (h : RUNf lo F C G B) : RUNf lo F (fC lo F) (fG lo F) (fB lo F) := Classical.epsilon_spec (p := fun X : (Nat → Int) × (Nat → Int) × (Nat → Int) => RUNf lo F X.1 X.2.1 X.2.2) ⟨(C, G, B), h⟩
theorem FGe.rf {F : FG} : FGe F F := ⟨rfl, rfl, fun _ _ => ⟨rfl, rfl, rfl⟩, fun _ _ => ⟨rfl, rfl, rfl, rfl⟩⟩
theorem FGe.sy {F F' : FG} (h : FGe F F') : FGe F' F := by
  obtain ⟨h1, h2, h3, h4⟩ := h
  refine ⟨h1.symm, h2.symm, fun e he => ?_, fun i hi => ?_⟩
  · obtain ⟨a, b, c⟩ := h3 e (by rw [h2]; exact he)
    exact ⟨a.symm, b.symm, c.symm⟩
  · obtain ⟨a, b, c, d⟩ := h4 i (by rw [h1]; exact hi)
    exact ⟨a.symm, b.symm, c.symm, d.symm⟩
theorem RUN_eq {lo : Int} {F F' : FG} {C G B : Nat → Int} (he : FGe F F') (h : RUNf lo F C G B) : RUNf lo F' C G B := by
  obtain ⟨h1, h2, h3, h4⟩ := he
  unfold RUNf at h ⊢
  rw [← h1, ← h2]
  obtain ⟨r1, r2, r3, r4⟩ := h
  refine ⟨fun i hi => ?_, r2, fun i hi => ?_, fun t ht => ?_⟩
  · obtain ⟨a, b, c, d⟩ := h4 i hi
    rw [r1 i hi, SPO_c h3 ⟨a, b, c⟩]
    refine and_congr Iff.rfl (and_congr Iff.rfl ⟨fun q k hk => ?_, fun q k hk => ?_⟩)
    · obtain ⟨a', b', c', d'⟩ := h4 k (by omega)
      have := q k hk
      unfold AP at this ⊢
      rw [← a, ← b, ← c, ← a', ← b', ← c']
      exact this
    · obtain ⟨a', b', c', d'⟩ := h4 k (by omega)
      have := q k hk
      unfold AP at this ⊢
      rw [a, b, c, a', b', c']
      exact this
  · rw [r3 i hi]
    exact WGT_c hi (fun j hj => ⟨rfl, (h4 j hj).1, (h4 j hj).2.1, (h4 j hj).2.2.1, (h4 j hj).2.2.2⟩)
  · have := r4 t ht
    rcases this with ⟨g1, g2⟩ | ⟨i, g1, g2, g3, g4, g5⟩
    · exact Or.inl ⟨g1, fun i hi => by rw [← (h4 i hi).2.1]; exact g2 i hi⟩
    · exact Or.inr ⟨i, g1, g2, by rw [← (h4 i g1).2.1]; exact g3, by rw [← (h4 i g1).1]; exact g4, fun j hj q1 q2 => by rw [← (h4 j hj).1]; exact g5 j hj q1 (by rw [(h4 j hj).2.1]; exact q2)⟩
/-- whatever has run by this figure is what the figure says -/
theorem fX_eq {lo : Int} {F F' : FG} {C G B : Nat → Int} (he : FGe F F') (hN : ∀ j, 0 ≤ gN F j) (h : RUNf lo F C G B) : (∀ i, i < gn F → C i = fC lo F' i) ∧ (∀ i, i < gn F → G i = fG lo F' i) ∧ ∀ t, t < 8 → B t = fB lo F' t := RUNf_u he hN h (fX_run (RUN_eq he h))
noncomputable def fSTD (lo : Int) (F : FG) (night : Int) (t : Nat) : Int := STD (gn F) (gm F) (fB lo F t) (fG lo F) (gN F) (gT F) (gK F) (gEN F) (gEX F) night (t : Int)
noncomputable def fSUP (lo : Int) (F : FG) (night : Int) : Nat → Int := SUP (gn F) (gm F) (fB lo F) (fG lo F) (gN F) (gT F) (gK F) (gEN F) (gEX F) night
noncomputable def fBLF (lo : Int) (F : FG) (night own : Int) : Int := BLF (gn F) (gm F) (fB lo F) (fG lo F) (gN F) (gT F) (gK F) (gEN F) (gEX F) night own
theorem fSTD_e {lo : Int} {F F' : FG} {C G B : Nat → Int} {night : Int} {t : Nat} (he : FGe F F') (hN : ∀ j, 0 ≤ gN F j) (h : RUNf lo F C G B) (ht : t < 8) : STD (gn F) (gm F) (B t) G (gN F) (gT F) (gK F) (gEN F) (gEX F) night (t : Int) = fSTD lo F' night t := by
  obtain ⟨u1, u2, u3⟩ := fX_eq he hN h
  obtain ⟨h1, h2, h3, h4⟩ := he
  unfold fSTD
  rw [← h1, ← h2, u3 t ht]
  exact STD_c (fun j hj => ⟨u2 j hj, (h4 j hj).1, (h4 j hj).2.1⟩) h3
theorem fSUP_e {lo : Int} {F F' : FG} {C G B : Nat → Int} {night : Int} {t : Nat} (he : FGe F F') (hN : ∀ j, 0 ≤ gN F j) (h : RUNf lo F C G B) (ht : t < 8) : SUP (gn F) (gm F) B G (gN F) (gT F) (gK F) (gEN F) (gEX F) night t = fSUP lo F' night t := by
  obtain ⟨u1, u2, u3⟩ := fX_eq he hN h
  obtain ⟨h1, h2, h3, h4⟩ := he
  unfold fSUP
  rw [← h1, ← h2]
  exact SUP_c (u3 t ht) (fun j hj => ⟨u2 j hj, (h4 j hj).1, (h4 j hj).2.1⟩) h3
theorem fBLF_e {lo : Int} {F F' : FG} {C G B : Nat → Int} {night own : Int} (he : FGe F F') (hN : ∀ j, 0 ≤ gN F j) (h : RUNf lo F C G B) : BLF (gn F) (gm F) B G (gN F) (gT F) (gK F) (gEN F) (gEX F) night own = fBLF lo F' night own := by
  obtain ⟨u1, u2, u3⟩ := fX_eq he hN h
  obtain ⟨h1, h2, h3, h4⟩ := he
  unfold fBLF
  rw [← h1, ← h2]
  exact BLF_c u3 (fun j hj => ⟨u2 j hj, (h4 j hj).1, (h4 j hj).2.1⟩) h3
/-- the number with the bits k below n of which P -/
def BTF (P : Nat → Prop) [DecidablePred P] : Nat → Int
  | 0 => 0
  | n + 1 => if P n then bOr (BTF P n) (bShl 1 (n : Int)) else BTF P n
theorem BTF_s {P : Nat → Prop} [DecidablePred P] : ∀ (n : Nat), n ≤ 31 → BTS P n (BTF P n)
  | 0, _ => BTS_0
  | n + 1, h => by
    have ih := BTF_s (P := P) n (by omega)
    unfold BTF
    split
    · exact BTS_y (i := (n : Int)) ⟨by omega, by omega⟩ ih (by assumption)
    · exact BTS_n (i := (n : Int)) ⟨by omega, by omega⟩ ih (by assumption)
theorem BTF_e {P Q : Nat → Prop} [DecidablePred Q] {n : Nat} {x : Int} (hn : n ≤ 31) (h : BTS P n x) (he : ∀ k, k < n → (P k ↔ Q k)) : x = BTF Q n := BTS_u he h (BTF_s n hn)
/-- the charges that he is cleared of, as bits -/
noncomputable def fCB (lo : Int) (F : FG) (Q : QG) : Int := BTF (fun c => Q.1 ≤ fBLF lo F (Q.2.2.1 c) (Q.2.2.2 c)) Q.2.1
def QGe (Q Q' : QG) : Prop := Q.1 = Q'.1 ∧ Q.2.1 = Q'.2.1 ∧ ∀ c, c < Q.2.1 → Q.2.2.1 c = Q'.2.2.1 c ∧ Q.2.2.2 c = Q'.2.2.2 c
theorem QGe.rf {Q : QG} : QGe Q Q := ⟨rfl, rfl, fun _ _ => ⟨rfl, rfl⟩⟩
theorem fCB_e {lo : Int} {F F' : FG} {Q Q' : QG} {C G B : Nat → Int} {x : Int} (he : FGe F F') (hq : QGe Q Q') (hN : ∀ j, 0 ≤ gN F j) (hn : Q.2.1 ≤ 8) (h : RUNf lo F C G B) (hb : BTS (fun c => Q.1 ≤ BLF (gn F) (gm F) B G (gN F) (gT F) (gK F) (gEN F) (gEX F) (Q.2.2.1 c) (Q.2.2.2 c)) Q.2.1 x) : x = fCB lo F' Q' := by
  obtain ⟨q1, q2, q3⟩ := hq
  unfold fCB
  rw [← q2]
  refine BTF_e (by omega) hb (fun c hc => ?_)
  rw [fBLF_e he hN h, q1, (q3 c hc).1, (q3 c hc).2]
/-- the class's figures: tales of cell tk, events held; what is told, with all events -/
def fgH (M : Mem) (tk : Nat) (held : Int) : FG := ((M tk 4).toNat, (M 18 3).toNat, KEF held (M 19), M 20, M 21, M (tk + 1), M (tk + 2), M (tk + 3), M (tk + 4))
def fgT (M : Mem) : FG := ((M 5 4).toNat, (M 18 3).toNat, M 19, M 20, M 21, M 6, M 7, M 8, M 9)
def qgT (M : Mem) : QG := (M 0 12, (M 15 2).toNat, M 16, M 17)
theorem fgH_all {M : Mem} (hm : 0 ≤ M 18 3 ∧ M 18 3 ≤ 8) : FGe (fgH M 5 (bShl 1 (M 18 3) - 1)) (fgT M) := by
  refine ⟨rfl, rfl, fun e he => ⟨?_, rfl, rfl⟩, fun i hi => ⟨rfl, rfl, rfl, rfl⟩⟩
  show KEF _ _ e = _
  unfold KEF
  rw [if_pos (((all_bits hm).2.2 e).mpr he)]
  rfl
/-- the world keeps: what was heard, in the figure's words -/
theorem HEARD_f {tk : Nat} {held : Int} {M M1 : Mem} (htk : TK tk) (hfr : FR [22, 23, 24, 25, 26] M M1) (h : HEARD tk held M1) (h01 : ∀ i, M1 23 i = 0 ∨ M1 23 i = 1) : RUNf (-1) (fgH M tk held) (M1 23) (M1 24) (M1 25) := (HEARD_run htk hfr h h01).1

theorem FST_c {P Q : Nat → Prop} {n : Nat} {x : Int} (he : ∀ a, a < n → (P a ↔ Q a)) (h : FST P n x) : FST Q n x := by
  rcases h with ⟨h1, h2⟩ | ⟨a, h1, h2, h3, h4⟩
  · exact Or.inl ⟨h1, fun a ha q => h2 a ha ((he a ha).mpr q)⟩
  · exact Or.inr ⟨a, h1, h2, (he a h1).mp h3, fun b hb q => h4 b hb ((he b (by omega)).mpr q)⟩
theorem FST_u {P : Nat → Prop} {n : Nat} {x x' : Int} (h : FST P n x) (h' : FST P n x') : x = x' := by
  rcases h with ⟨h1, h2⟩ | ⟨a, h1, h2, h3, h4⟩ <;> rcases h' with ⟨k1, k2⟩ | ⟨b, k1, k2, k3, k4⟩
  · omega
  · exact absurd k3 (h2 b k1)
  · exact absurd h3 (k2 a h1)
  · rcases Nat.lt_trichotomy a b with q | q | q
    · exact absurd h3 (k4 a q)
    · omega
    · exact absurd k3 (h4 b q)
theorem AMX_c {g g' : Nat → Int} {init : Int} {n : Nat} {x y : Int} (he : ∀ b, b < n → g b = g' b) (h : AMX g init n x y) : AMX g' init n x y := by
  rcases h with ⟨h1, h2, h3⟩ | ⟨a, h1, h2, h3, h4, h5, h6⟩
  · exact Or.inl ⟨h1, h2, fun b hb => by rw [← he b hb]; exact h3 b hb⟩
  · exact Or.inr ⟨a, h1, h2, by rw [← he a h1]; exact h3, by rw [← he a h1]; exact h4, fun b hb => by rw [← he a h1, ← he b (by omega)]; exact h5 b hb, fun b hb => by rw [← he a h1, ← he b hb]; exact h6 b hb⟩
/-- where he may have been: forwards from night 0, backwards from night 23 -/
def FWD (s : Nat → Int) : Nat → Int
  | 0 => s 0
  | t + 1 => bAnd (RCH (FWD s t)) (s (t + 1))
def BWD (s : Nat → Int) : Nat → Int
  | 0 => s 23
  | k + 1 => bAnd (RCH (BWD s k)) (s (22 - k))
theorem FWD_i {s : Nat → Int} {i : Int} (h : 0 ≤ i) : FWD s (i + 1).toNat = bAnd (RCH (FWD s i.toNat)) (s (i.toNat + 1)) := by
  rw [tn_s h]
  rfl
theorem RCH_in {x : Int} : 0 ≤ RCH x ∧ RCH x ≤ 255 := by
  unfold RCH bAnd
  have h := pk_and (i32 (bOr (bOr x (bShl x 1)) (bShr x 1))) (m := i32 255) 8 (by decide +kernel)
  rw [h, nI_I (by omega)]
  omega
noncomputable def fSW (F : FG) (t : Nat) : Int := SWF (fC (-1) F) (gS F) (gN F) (gT F) (t : Int) (gn F)
theorem SWF_c {C S N T C' S' N' T' : Nat → Int} {night : Int} : ∀ (n : Nat), (∀ j, j < n → C j = C' j ∧ S j = S' j ∧ N j = N' j ∧ T j = T' j) → SWF C S N T night n = SWF C' S' N' T' night n
  | 0, _ => rfl
  | n + 1, h => by
    obtain ⟨a, b, c, d⟩ := h n (by omega)
    unfold SWF
    rw [SWF_c n (fun j hj => h j (by omega)), a, b, c, d]
