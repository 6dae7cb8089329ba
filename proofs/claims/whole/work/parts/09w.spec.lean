theorem now_g {M N N2 : Mem} {F : FG} {lo : Int} (hj : JQ M) (fx : FX RC RF M N) (hrd : RD N) (hlo : N 32 20 = lo) (hn : (N 32 15).toNat = gn F) (hm : gm F = (M 18 3).toNat) (hK : ∀ e, e < (M 18 3).toNat → KEN (N 32 21) (M 19) e = gK F e) (hEN : gEN F = M 20) (hEX : gEX F = M 21) (ha : ∀ i, i < gn F → N 44 i = gN F i ∧ N 45 i = gT F i ∧ N 46 i = gW F i ∧ N 47 i = gS F i) (h44 : ∀ j, 0 ≤ N 44 j) (h7 : N 32 7 ≤ 8) (hr : RUNS N N2) : RNF lo F (qgT M) N2 := by
  have hj1 : JQ N := JQ_fx hj fx (by decide)
  refine RUNS_f hr h44 hlo ?_ ?_ h7
  · refine now_f hj1.2.1 hn ?_ ?_ ?_ ?_ ha
    · rw [hm, fx.at 18 (by decide)]
    · intro e he
      rw [fx.at 19 (by decide)]
      exact hK e (by rw [← fx.at 18 (by decide)]; exact he)
    · rw [hEN, fx.at 20 (by decide)]
    · rw [hEX, fx.at 21 (by decide)]
  · rw [← (fg_fx fx (by decide)).2]
    exact rd_q hrd hj1.2.2.1
theorem SO_s {H I : Nat → Int} {cn x i : Int} (h : 0 ≤ i) : SO (i + 1).toNat H I cn x ↔ SO i.toNat H I cn x ∧ (H i.toNat < cn ∧ (BT x (H i.toNat).toNat ↔ I i.toNat = 1)) := by
  unfold SO
  rw [tn_s h]
  refine ⟨fun q => ⟨fun j hj => q j (by omega), q i.toNat (by omega)⟩, fun q j hj => ?_⟩
  by_cases e : j = i.toNat
  · rw [e]; exact q.2
  · exact q.1 j (by omega)
theorem SO_0 {H I : Nat → Int} {cn x : Int} : SO (0 : Int).toNat H I cn x := fun j h => absurd h (Nat.not_lt_zero j)
theorem SO_le {H I : Nat → Int} {cn x : Int} {n m : Nat} (h : SO m H I cn x) (hn : n ≤ m) : SO n H I cn x := fun j hj => h j (by omega)
theorem SO_c {H I H' I' : Nat → Int} {cn x : Int} {n : Nat} (he : ∀ j, j < n → H j = H' j ∧ I j = I' j) : SO n H I cn x ↔ SO n H' I' cn x := by
  unfold SO
  refine ⟨fun q j hj => ?_, fun q j hj => ?_⟩
  · have := q j hj
    rw [(he j hj).1, (he j hj).2] at this
    exact this
  · have := q j hj
    rw [← (he j hj).1, ← (he j hj).2] at this
    exact this
/-- what was seen, by the reference's rows and by the class's -/
theorem SO_j {M N : Mem} {cn x : Int} (hj : JQ M) (fx : FX RC RF M N) (hrd : RD N) (hc : cn = M 15 2) : SO (N 32 34).toNat (N 57) (N 58) (N 32 7) x ↔ SO (M 0 13).toNat (M 27) (M 28) cn x := by
  obtain ⟨-, -, -, s1, s2⟩ := hj
  rw [fx.fd 34 (by decide), fx.at 57 (by decide), fx.at 58 (by decide), s1, hrd.2.2.1, fx.at 15 (by decide), hc]
  exact SO_c s2
theorem KEN_1 {K : Nat → Int} {a : Int} {e : Nat} (ha : 0 ≤ a ∧ a < 8) : KEN (bShl 1 a) K e = up1 K a.toNat (-1) e := by
  unfold KEN up1
  by_cases q : e = a.toNat
  · rw [if_pos q, if_pos ((BT_shl (by omega)).mpr q)]
  · rw [if_neg q, if_neg (fun z => q ((BT_shl (by omega)).mp z))]
theorem KEN_2 {K : Nat → Int} {a b : Int} {e : Nat} (ha : 0 ≤ a ∧ a < 8) (hb : 0 ≤ b ∧ b < 8) : KEN (bOr (bShl 1 a) (bShl 1 b)) K e = up1 (up1 K a.toNat (-1)) b.toNat (-1) e := by
  have q := bShl_lt (k := a) (n := 8) (by omega) (by omega)
  have q2 := bShl_lt (k := b) (n := 8) (by omega) (by omega)
  have key : BT (bOr (bShl 1 a) (bShl 1 b)) e ↔ (e = a.toNat ∨ e = b.toNat) := by
    rw [BT_or (by omega) (by omega), BT_shl (by omega), BT_shl (by omega)]
  unfold KEN up1
  by_cases e2 : e = b.toNat
  · rw [if_pos e2, if_pos (key.mpr (Or.inr e2))]
  · rw [if_neg e2]
    by_cases e1 : e = a.toNat
    · rw [if_pos e1, if_pos (key.mpr (Or.inl e1))]
    · rw [if_neg e1, if_neg (fun z => (key.mp z).elim e1 e2)]
