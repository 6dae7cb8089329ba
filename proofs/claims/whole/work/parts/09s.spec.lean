/-! the reference's questions -/
theorem NOW_f {M M1 M2 : Mem} {cs fs : List Nat} (hj : JQ M) (fx : FX cs fs M M1) (hd : (∀ a ∈ cs, a ∈ RC) ∧ ∀ a ∈ fs, a ∈ RF) (hrd : RD M1) (hnw : NOW M M1) (h44 : ∀ j, 0 ≤ M1 44 j) (h7 : M1 32 7 ≤ 8) (hr : RUNS M1 M2) : RNF (-1) (fgT M) (qgT M) M2 := by
  have hj1 : JQ M1 := JQ_fx hj fx hd
  have fx2 : FX RC RF M M1 := fx.mono hd.1 hd.2
  obtain ⟨n1, n2, n3, n4⟩ := hnw
  refine RUNS_f hr h44 n2 ?_ ?_ h7
  · refine now_f hj1.2.1 ?_ ?_ ?_ ?_ ?_ ?_
    · rw [n1]; rfl
    · rw [fx2.at 18 (by decide)]; rfl
    · intro e he
      rw [n3, KEN_0, fx2.at 19 (by decide)]; rfl
    · rw [fx2.at 20 (by decide)]; rfl
    · rw [fx2.at 21 (by decide)]; rfl
    · exact n4
  · rw [← (fg_fx fx2 (by decide)).2]
    exact rd_q hrd hj1.2.2.1
theorem NOW_fx {M M1 M2 : Mem} {cs fs : List Nat} (h : NOW M M1) (hf : FX cs fs M1 M2) (hd : (∀ a ∈ [44, 45, 46, 47], a ∉ cs ∧ a ≠ 32) ∧ 32 ∉ cs ∧ 15 ∉ fs ∧ 20 ∉ fs ∧ 21 ∉ fs) : NOW M M2 := by
  unfold NOW at h ⊢
  rw [hf.at 44 (hd.1 44 (by decide)), hf.at 45 (hd.1 45 (by decide)), hf.at 46 (hd.1 46 (by decide)), hf.at 47 (hd.1 47 (by decide)), hf.fd 15 ⟨hd.2.1, hd.2.2.1⟩, hf.fd 20 ⟨hd.2.1, hd.2.2.2.1⟩, hf.fd 21 ⟨hd.2.1, hd.2.2.2.2⟩]
  exact h
theorem WGT_in {lo : Int} {n : Nat} {C N T W S : Nat → Int} {i : Nat} : 0 ≤ WGT lo n C N T W S i ∧ WGT lo n C N T W S i ≤ 3 := by
  have h := OTH_in n C N T W i
  unfold WGT WG
  split
  · split
    · omega
    · split
      · omega
      · split <;> omega
  · omega
theorem STD_rng {n m : Nat} {b : Int} {G N T K EN EX : Nat → Int} {night town : Int} (hG : ∀ j, j < n → 0 ≤ G j) : STD n m b G N T K EN EX night town = -1 ∨ (0 ≤ STD n m b G N T K EN EX night town ∧ STD n m b G N T K EN EX night town ≤ 40) := by
  unfold STD
  have h1 : 0 ≤ SWT n G N T night town := by
    unfold SWT
    exact sm_ge (fun j hj => by have := hG j hj; split <;> omega)
  have h2 : 0 ≤ LET m K EN EX b night town := by
    unfold LET
    exact sm_ge (fun j _ => by split <;> omega)
  split
  · exact Or.inl rfl
  · right; omega
theorem fSTD_rng {lo : Int} {F : FG} {C G B : Nat → Int} {night : Int} {t : Nat} (h : RUNf lo F C G B) : fSTD lo F night t = -1 ∨ (0 ≤ fSTD lo F night t ∧ fSTD lo F night t ≤ 40) := by
  have h2 := fX_run h
  unfold fSTD
  exact STD_rng (fun j hj => by rw [h2.2.2.1 j hj]; exact WGT_in.1)
/-- where he may have been, as the reference has it -/
def MAYF (C S N T : Nat → Int) (night X : Int) : Nat → Int
  | 0 => X
  | i + 1 => bAnd (MAYF C S N T night X i) (if C i = 1 ∧ S i = 0 ∧ N i = night then bShl 1 (T i) else 255)
theorem bAnd_lo {x y : Int} (hx : 0 ≤ x ∧ x ≤ 255) (hy : 0 ≤ y) : 0 ≤ bAnd x y ∧ bAnd x y ≤ 255 := by
  have := bAnd_lt (x := x) (y := y) (by omega) hy
  omega
theorem bAnd_255 {x : Int} (h : 0 ≤ x ∧ x ≤ 255) : bAnd x 255 = x := by
  rw [bAnd_n (by omega) (by omega), show (255 : Int).toNat = 2 ^ 8 - 1 from rfl, Nat.and_two_pow_sub_one_eq_mod, Nat.mod_eq_of_lt (by omega)]
  omega
theorem bAnd_assoc {x y z : Int} (hx : 0 ≤ x ∧ x ≤ 255) (hy : 0 ≤ y ∧ y ≤ 255) (hz : 0 ≤ z) : bAnd (bAnd x y) z = bAnd x (bAnd y z) := by
  have h1 := bAnd_lo hx hy.1
  have h2 := bAnd_lo hy hz
  refine BT_ext (bAnd_lo h1 hz).1 (bAnd_lo hx h2.1).1 (fun k => ?_)
  rw [BT_and (by omega) hz, BT_and (by omega) hy.1, BT_and (by omega) h2.1, BT_and (by omega) hz]
  exact and_assoc
theorem bAnd_comm {x y : Int} (hx : 0 ≤ x ∧ x ≤ 255) (hy : 0 ≤ y ∧ y ≤ 255) : bAnd x y = bAnd y x := by
  refine BT_ext (bAnd_lo hx hy.1).1 (bAnd_lo hy hx.1).1 (fun k => ?_)
  rw [BT_and (by omega) hy.1, BT_and (by omega) hx.1]
  exact and_comm
theorem MAYF_e {C S N T : Nat → Int} {night X : Int} (hT : ∀ j, 0 ≤ T j ∧ T j ≤ 7) (hX : 0 ≤ X ∧ X ≤ 255) : ∀ n, MAYF C S N T night X n = bAnd X (SWF C S N T night n)
  | 0 => (bAnd_255 hX).symm
  | n + 1 => by
    have ih := MAYF_e (C := C) (S := S) (N := N) (night := night) hT hX n
    have hs := SWF_in (C := C) (S := S) (N := N) (night := night) hT n
    have hb := bShl_lt (k := T n) (n := 8) (by omega) (by have := hT n; omega)
    unfold MAYF SWF
    rw [ih]
    by_cases q : C n = 1 ∧ S n = 0 ∧ N n = night
    · rw [if_pos q, if_pos q, bAnd_assoc hX hs hb.1]
    · rw [if_neg q, if_neg q, bAnd_255 (bAnd_lo hX hs.1)]
theorem MAYF_i {C S N T : Nat → Int} {night X i : Int} (h : 0 ≤ i) : MAYF C S N T night X (i + 1).toNat = bAnd (MAYF C S N T night X i.toNat) (if C i.toNat = 1 ∧ S i.toNat = 0 ∧ N i.toNat = night then bShl 1 (T i.toNat) else 255) := by
  rw [tn_s h]
  rfl
theorem MAYF_c {C S N T C' S' N' T' : Nat → Int} {night X : Int} : ∀ (n : Nat), (∀ j, j < n → C j = C' j ∧ S j = S' j ∧ N j = N' j ∧ T j = T' j) → MAYF C S N T night X n = MAYF C' S' N' T' night X n
  | 0, _ => rfl
  | n + 1, h => by
    obtain ⟨a, b, c, d⟩ := h n (by omega)
    unfold MAYF
    rw [MAYF_c n (fun j hj => h j (by omega)), a, b, c, d]
theorem RCH_bn : ∀ x, x < 256 → ∀ k, k < 8 → (BT (RCH ((x : Nat) : Int)) k ↔ (BT ((x : Nat) : Int) k ∨ (1 ≤ k ∧ BT ((x : Nat) : Int) (k - 1)) ∨ BT ((x : Nat) : Int) (k + 1))) := by decide +kernel
theorem RCH_b {x : Int} (h : 0 ≤ x ∧ x ≤ 255) (k : Nat) (hk : k < 8) : BT (RCH x) k ↔ (BT x k ∨ (1 ≤ k ∧ BT x (k - 1)) ∨ BT x (k + 1)) := by
  have := RCH_bn x.toNat (by omega) k hk
  rwa [show ((x.toNat : Nat) : Int) = x by omega] at this
section WHR
variable {s : Nat → Int}
theorem FWD_in (hs : ∀ t, 0 ≤ s t ∧ s t ≤ 255) : ∀ t, 0 ≤ FWD s t ∧ FWD s t ≤ 255
  | 0 => hs 0
  | t + 1 => bAnd_lo RCH_in (hs (t + 1)).1
theorem BWD_in (hs : ∀ t, 0 ≤ s t ∧ s t ≤ 255) : ∀ t, 0 ≤ BWD s t ∧ BWD s t ≤ 255
  | 0 => hs 23
  | t + 1 => bAnd_lo RCH_in (hs (22 - t)).1
theorem BWD_s (hs : ∀ t, 0 ≤ s t ∧ s t ≤ 255) : ∀ d, d ≤ 23 → ∀ k, BT (BWD s d) k → BT (s (23 - d)) k
  | 0, _, k, h => h
  | d + 1, hd, k, h => by
    have h2 : BT (bAnd (RCH (BWD s d)) (s (22 - d))) k := h
    have hr := RCH_in (x := BWD s d)
    rw [BT_and (by omega) (hs (22 - d)).1] at h2
    rw [show 23 - (d + 1) = 22 - d by omega]
    exact h2.2
theorem FWD_s (hs : ∀ t, 0 ≤ s t ∧ s t ≤ 255) : ∀ t, ∀ k, BT (FWD s t) k → BT (s t) k
  | 0, k, h => h
  | t + 1, k, h => by
    have h2 : BT (bAnd (RCH (FWD s t)) (s (t + 1))) k := h
    have hr := RCH_in (x := FWD s t)
    rw [BT_and (by omega) (hs (t + 1)).1] at h2
    exact h2.2
/-- forwards, and then backwards over what is left: the same as both ways by themselves -/
theorem where_s (hs : ∀ t, 0 ≤ s t ∧ s t ≤ 255) {d : Nat} (hd : d ≤ 22) : bAnd (FWD s (22 - d)) (RCH (bAnd (FWD s (23 - d)) (BWD s d))) = bAnd (FWD s (22 - d)) (BWD s (d + 1)) := by
  have hF := FWD_in hs (22 - d)
  have hF1 := FWD_in hs (23 - d)
  have hB := BWD_in hs d
  have hB1 := BWD_in hs (d + 1)
  have hA := bAnd_lo hF1 hB.1
  have hR := RCH_in (x := bAnd (FWD s (23 - d)) (BWD s d))
  have hRB := RCH_in (x := BWD s d)
  have hRF := RCH_in (x := FWD s (22 - d))
  refine BT_ext (bAnd_lo hF hR.1).1 (bAnd_lo hF hB1.1).1 (fun k => ?_)
  rw [BT_and (by omega) hR.1, BT_and (by omega) hB1.1]
  refine and_congr_right (fun hf => ?_)
  have hk : k < 8 := Decidable.byContradiction (fun q => BT_big (n := 8) (x := FWD s (22 - d)) (by omega) (by omega) hf)
  have eB : ∀ j, BT (BWD s (d + 1)) j ↔ BT (RCH (BWD s d)) j ∧ BT (s (22 - d)) j := fun j => by
    show BT (bAnd (RCH (BWD s d)) (s (22 - d))) j ↔ _
    rw [BT_and (by omega) (hs (22 - d)).1]
  have eF : ∀ j, BT (FWD s (23 - d)) j ↔ BT (RCH (FWD s (22 - d))) j ∧ BT (s (23 - d)) j := fun j => by
    obtain ⟨e, he⟩ : ∃ e, 22 - d = e := ⟨_, rfl⟩
    rw [show 23 - d = e + 1 by omega, he]
    show BT (bAnd (RCH (FWD s e)) (s (e + 1))) j ↔ _
    rw [BT_and (by have := RCH_in (x := FWD s e); omega) (hs (e + 1)).1]
  have eA : ∀ j, BT (bAnd (FWD s (23 - d)) (BWD s d)) j ↔ BT (FWD s (23 - d)) j ∧ BT (BWD s d) j := fun j => BT_and (by omega) hB.1
  have key : ∀ j, j < 8 → (j = k ∨ j + 1 = k ∨ j = k + 1) → BT (BWD s d) j → BT (bAnd (FWD s (23 - d)) (BWD s d)) j := by
    intro j hj hjk hb
    rw [eA]
    refine ⟨(eF j).mpr ⟨?_, BWD_s hs d (by omega) j hb⟩, hb⟩
    rw [RCH_b hF j hj]
    rcases hjk with e | e | e
    · left; rw [e]; exact hf
    · right; right; rw [e]; exact hf
    · right; left
      refine ⟨by omega, ?_⟩
      rw [show j - 1 = k by omega]; exact hf
  rw [eB, RCH_b hA k hk, RCH_b hB k hk]
  constructor
  · rintro (q | ⟨q1, q⟩ | q)
    · exact ⟨Or.inl ((eA k).mp q).2, FWD_s hs _ k hf⟩
    · exact ⟨Or.inr (Or.inl ⟨q1, ((eA _).mp q).2⟩), FWD_s hs _ k hf⟩
    · exact ⟨Or.inr (Or.inr ((eA _).mp q).2), FWD_s hs _ k hf⟩
  · rintro ⟨q | ⟨q1, q⟩ | q, -⟩
    · exact Or.inl (key k hk (Or.inl rfl) q)
    · exact Or.inr (Or.inl ⟨q1, key (k - 1) (by omega) (by omega) q⟩)
    · have hk1 : k + 1 < 8 := Decidable.byContradiction (fun z => BT_big (n := 8) (x := BWD s d) (by omega) (by omega) q)
      exact Or.inr (Or.inr (key (k + 1) hk1 (by omega) q))
end WHR
