theorem FX.pc {cs fs : List Nat} {M N M' : Mem} {k j : Nat} {v : Int} (h : FX cs fs M N) (hM : M' = up N k j v) (hk : k ∈ cs) : FX cs fs M M' := h.put hM (Or.inl hk)
/-! what the class and the reference share -/
abbrev RC : List Nat := [35, 36, 37, 38, 39, 40, 44, 45, 46, 47, 48, 49, 50, 51, 52, 53, 54, 55, 56, 59]
abbrev RF : List Nat := [2, 7, 15, 20, 21, 28, 30, 31]
def JT (M : Mem) : Prop := M 33 0 = M 1 2 ∧ M 33 1 = M 3 2 ∧ (∀ i, i < (M 1 2).toNat → M 34 i = M 2 i) ∧ (∀ i, i < (M 3 2).toNat → M 34 (59 + i) = M 4 i) ∧ PAR M
def JE (M : Mem) : Prop := M 32 11 = M 18 3 ∧ ∀ e, e < (M 18 3).toNat → M 41 e = M 19 e ∧ M 42 e = M 20 e ∧ M 43 e = M 21 e
def JS (M : Mem) : Prop := M 32 34 = M 0 13 ∧ ∀ i, i < (M 0 13).toNat → M 57 i = M 27 i ∧ M 58 i = M 28 i
def JQ (M : Mem) : Prop := JT M ∧ JE M ∧ M 32 10 = M 0 12 ∧ JS M
/-- the reference has read what the class was told -/
def RD (M : Mem) : Prop := M 32 2 = M 5 4 ∧ (∀ i, i < (M 5 4).toNat → M 35 i = M 6 i ∧ M 36 i = M 7 i ∧ M 37 i = M 8 i ∧ M 38 i = M 9 i) ∧ M 32 7 = M 15 2 ∧ ∀ c, c < (M 15 2).toNat → M 39 c = M 16 c ∧ M 40 c = M 17 c
theorem JQ_of {M N : Mem} (h : JQ M) (hc : ∀ a ∈ [0, 1, 2, 3, 4, 5, 6, 7, 8, 9, 15, 16, 17, 18, 19, 20, 21, 27, 28, 33, 34, 41, 42, 43, 57, 58], N a = M a) (h1 : N 32 10 = M 32 10) (h2 : N 32 11 = M 32 11) (h3 : N 32 34 = M 32 34) : JQ N := by
  unfold JQ JT JE JS PAR at h ⊢
  rw [hc 0 (by decide), hc 1 (by decide), hc 2 (by decide), hc 3 (by decide), hc 4 (by decide), hc 5 (by decide), hc 6 (by decide), hc 7 (by decide), hc 8 (by decide), hc 9 (by decide), hc 15 (by decide), hc 16 (by decide), hc 17 (by decide), hc 18 (by decide), hc 19 (by decide), hc 20 (by decide), hc 21 (by decide), hc 27 (by decide), hc 28 (by decide), hc 33 (by decide), hc 34 (by decide), hc 41 (by decide), hc 42 (by decide), hc 43 (by decide), hc 57 (by decide), hc 58 (by decide), h1, h2, h3]
  exact h
theorem JQ_fx {M N : Mem} {cs fs : List Nat} (h : JQ M) (hf : FX cs fs M N) (hd : (∀ a ∈ cs, a ∈ RC) ∧ ∀ a ∈ fs, a ∈ RF) : JQ N := by
  have hf2 : FX RC RF M N := hf.mono hd.1 hd.2
  exact JQ_of h (fun a ha => hf2.at a (by revert ha a; decide)) (hf2.fd 10 (by decide)) (hf2.fd 11 (by decide)) (hf2.fd 34 (by decide))
theorem RD_of {M N : Mem} (h : RD M) (hc : ∀ a ∈ [5, 6, 7, 8, 9, 15, 16, 17, 35, 36, 37, 38, 39, 40], N a = M a) (h1 : N 32 2 = M 32 2) (h2 : N 32 7 = M 32 7) : RD N := by
  unfold RD at h ⊢
  rw [hc 5 (by decide), hc 6 (by decide), hc 7 (by decide), hc 8 (by decide), hc 9 (by decide), hc 15 (by decide), hc 16 (by decide), hc 17 (by decide), hc 35 (by decide), hc 36 (by decide), hc 37 (by decide), hc 38 (by decide), hc 39 (by decide), hc 40 (by decide), h1, h2]
  exact h
theorem RD_fx {M N : Mem} {cs fs : List Nat} (h : RD M) (hf : FX cs fs M N) (hd : (∀ a ∈ [5, 6, 7, 8, 9, 15, 16, 17, 35, 36, 37, 38, 39, 40], a ∉ cs ∧ a ≠ 32) ∧ 32 ∉ cs ∧ 2 ∉ fs ∧ 7 ∉ fs) : RD N := RD_of h (fun a ha => hf.at a (hd.1 a ha)) (hf.fd 2 ⟨hd.2.1, hd.2.2.1⟩) (hf.fd 7 ⟨hd.2.1, hd.2.2.2⟩)
theorem fg_fx {M N : Mem} {cs fs : List Nat} (hf : FX cs fs M N) (hd : ∀ a ∈ [0, 5, 6, 7, 8, 9, 15, 16, 17, 18, 19, 20, 21], a ∉ cs ∧ a ≠ 32) : fgT N = fgT M ∧ qgT N = qgT M := by
  unfold fgT qgT
  rw [hf.at 5 (hd 5 (by decide)), hf.at 18 (hd 18 (by decide)), hf.at 19 (hd 19 (by decide)), hf.at 20 (hd 20 (by decide)), hf.at 21 (hd 21 (by decide)), hf.at 6 (hd 6 (by decide)), hf.at 7 (hd 7 (by decide)), hf.at 8 (hd 8 (by decide)), hf.at 9 (hd 9 (by decide)), hf.at 0 (hd 0 (by decide)), hf.at 15 (hd 15 (by decide)), hf.at 16 (hd 16 (by decide)), hf.at 17 (hd 17 (by decide))]
  exact ⟨rfl, rfl⟩
theorem NF_c {st n : Nat} {B B' : Nat → Int} (he : ∀ a, a < n → B a = B' a) : NF st n B ↔ NF st n B' := by
  unfold NF
  refine and_congr ⟨fun h a ha => ?_, fun h a ha => ?_⟩ Iff.rfl
  · have := h a ha
    unfold FITa at this ⊢
    rw [← he a ha]; exact this
  · have := h a ha
    unfold FITa at this ⊢
    rw [he a ha]; exact this
theorem FLT_c {st n : Nat} {B B' : Nat → Int} {x : Int} (he : ∀ a, a < n → B a = B' a) (h : FLT st n B x) : FLT st n B' x := by
  have hf : ∀ a, a < n → (FITa st B a ↔ FITa st B' a) := by
    intro a ha
    unfold FITa
    rw [he a ha]
  rcases h with ⟨a, h1, h2, h3, h4⟩ | ⟨h1, h2⟩
  · exact Or.inl ⟨a, h1, h2, fun q => h3 ((hf a h1).mpr q), fun b hb => (hf b (by omega)).mp (h4 b hb)⟩
  · exact Or.inr ⟨fun a ha => (hf a ha).mp (h1 a ha), h2⟩
theorem TOLD_u {n : Nat} {B B' : Nat → Int} {sz sz' : Int} {N T W S N' T' W' S' : Nat → Int} (he : ∀ a, a < n → B a = B' a) (h : TOLD n B sz N T W S) (h' : TOLD n B' sz' N' T' W' S') : sz = sz' ∧ ∀ i, i < sz.toNat → N i = N' i ∧ T i = T' i ∧ W i = W' i ∧ S i = S' i := by
  obtain ⟨h1, h2, h3⟩ := h
  obtain ⟨k1, k2, k3⟩ := h'
  by_cases q : NF 5 n B
  · have e1 := h1 q
    have e2 := k1 ((NF_c he).mp q)
    refine ⟨by omega, fun i hi => ?_⟩
    have a1 := h3 i (by omega)
    have a2 := k3 i (by omega)
    rw [he (5 * i) (by omega), he (5 * i + 1) (by omega), he (5 * i + 2) (by omega), he (5 * i + 3) (by omega)] at a1
    rw [a1.1, a1.2.1, a1.2.2.1, a1.2.2.2, a2.1, a2.2.1, a2.2.2.1, a2.2.2.2]
    exact ⟨rfl, rfl, rfl, rfl⟩
  · have e1 := h2 q
    have e2 := k2 (fun z => q ((NF_c he).mpr z))
    exact ⟨by omega, fun i hi => by omega⟩
theorem CHAR_u {n : Nat} {B B' : Nat → Int} {sz sz' : Int} {N T N' T' : Nat → Int} (he : ∀ a, a < n → B a = B' a) (h : CHAR n B sz N T) (h' : CHAR n B' sz' N' T') : sz = sz' ∧ ∀ i, i < sz.toNat → N i = N' i ∧ T i = T' i := by
  obtain ⟨h1, h2, h3⟩ := h
  obtain ⟨k1, k2, k3⟩ := h'
  by_cases q : NF 3 n B
  · have e1 := h1 q
    have e2 := k1 ((NF_c he).mp q)
    refine ⟨by omega, fun i hi => ?_⟩
    have a1 := h3 i (by omega)
    have a2 := k3 i (by omega)
    rw [he (3 * i) (by omega), he (3 * i + 1) (by omega)] at a1
    rw [a1.1, a1.2, a2.1, a2.2]
    exact ⟨rfl, rfl⟩
  · have e1 := h2 q
    have e2 := k2 (fun z => q ((NF_c he).mpr z))
    exact ⟨by omega, fun i hi => by omega⟩
theorem RD_mk {M M1 M2 : Mem} (hj : JT M) (f1 : FX [35, 36, 37, 38] [2] M M1) (h1 : TOLD (M 33 0).toNat (M 34) (M1 32 2) (M1 35) (M1 36) (M1 37) (M1 38)) (f2 : FX [39, 40] [7] M1 M2) (h2 : CHAR (M1 33 1).toNat (fun i => M1 34 (59 + i)) (M2 32 7) (M2 39) (M2 40)) : RD M2 := by
  obtain ⟨j1, j2, j3, j4, j5, j6⟩ := hj
  rw [f1.at 33 (by decide), f1.at 34 (by decide), j2] at h2
  rw [j1] at h1
  have fx : FX [35, 36, 37, 38, 39, 40] [2, 7] M M2 := (f1.mono (by decide) (by decide)).tr f2 (by decide) (by decide)
  have u1 := TOLD_u j3 h1 j5
  have u2 := CHAR_u (B' := M 4) j4 h2 j6
  unfold RD
  rw [fx.at 5 (by decide), fx.at 6 (by decide), fx.at 7 (by decide), fx.at 8 (by decide), fx.at 9 (by decide), fx.at 15 (by decide), fx.at 16 (by decide), fx.at 17 (by decide), f2.at 35 (by decide), f2.at 36 (by decide), f2.at 37 (by decide), f2.at 38 (by decide), f2.fd 2 (by decide)]
  exact ⟨u1.1, fun i hi => u1.2 i (by rw [u1.1]; exact hi), u2.1, fun c hc => u2.2 c (by rw [u2.1]; exact hc)⟩
/-! what stands in the reference -/
def qgR (M : Mem) : QG := (M 32 10, (M 32 7).toNat, M 39, M 40)
def TWN (n m : Nat) (C G N T K EN EX A S R : Nat → Int) (x : Nat) : Prop := ∃ B : Nat → Int, ∀ t : Nat, t < x → BIR n C N T (t : Int) (B t) ∧ ∀ k, k < 24 → SEQ n m (B t) G N T K EN EX A S R (t : Int) k
theorem TWN_0 {n m : Nat} {C G N T K EN EX A S R : Nat → Int} : TWN n m C G N T K EN EX A S R (0 : Int).toNat := ⟨fun _ => 0, fun t h => absurd h (Nat.not_lt_zero t)⟩
theorem TWN_s {n m : Nat} {C G N T K EN EX A S R A' S' R' : Nat → Int} {i b : Int} (hi : 0 ≤ i) (h : TWN n m C G N T K EN EX A S R i.toNat) (hb : BIR n C N T i b) (hs : ∀ k, k < 24 → SEQ n m b G N T K EN EX A' S' R' i k) (ho : ∀ j, (j < 24 * i.toNat ∨ 24 * i.toNat + 24 ≤ j) → A' j = A j ∧ S' j = S j ∧ R' j = R j) : TWN n m C G N T K EN EX A' S' R' (i + 1).toNat := by
  obtain ⟨B, h⟩ := h
  rw [tn_s hi]
  refine ⟨up1 B i.toNat b, fun t ht => ?_⟩
  unfold up1
  by_cases e : t = i.toNat
  · rw [if_pos e, e, show ((i.toNat : Nat) : Int) = i by omega]
    exact ⟨hb, hs⟩
  · rw [if_neg e]
    obtain ⟨h1, h2⟩ := h t (by omega)
    refine ⟨h1, fun k hk => ?_⟩
    obtain ⟨q1, q2, q3⟩ := ho (24 * ((t : Int)).toNat + k) (by omega)
    exact SEQ_k (h2 k hk) q1 q2 q3
theorem bOr_z {x : Int} (h : 0 ≤ x ∧ x < 2147483648) : bOr x 0 = x := by
  rw [bOr_n h (by omega), show (0 : Int).toNat = 0 from rfl, Nat.or_zero]
  omega
def RUNS (M M1 : Mem) : Prop := ∃ B, RUNf (M 32 20) (fgR M) (M1 48) (M1 49) B ∧ (∀ t : Nat, t < 8 → ∀ k, k < 24 → SEQ (M 32 15).toNat (M 32 11).toNat (B t) (M1 49) (M 44) (M 45) (KEN (M 32 21) (M 41)) (M 42) (M 43) (M1 51) (M1 52) (M1 53) (t : Int) k) ∧ M1 32 28 = fCB (M 32 20) (fgR M) (qgR M) ∧ ∀ i, i < (M 32 15).toNat → FST (fun a => M1 48 a = 1 ∧ AP (M 46) (M 45) (M 44) a i) i (M1 50 i)
def RNF (lo : Int) (F : FG) (Q : QG) (M1 : Mem) : Prop := RUNf lo F (fC lo F) (fG lo F) (fB lo F) ∧ (∀ i, i < gn F → M1 48 i = fC lo F i) ∧ (∀ i, i < gn F → M1 49 i = fG lo F i) ∧ (∀ t : Nat, t < 8 → ∀ k : Nat, k < 24 → M1 52 (24 * t + k) = max 0 (fSTD lo F (k : Int) t) ∧ M1 53 (24 * t + k) = RNK (fSTD lo F (k : Int) t) ∧ M1 51 (24 * t + k) * M1 53 (24 * t + k) = fSUP lo F (k : Int) t) ∧ (∀ night own : Int, 0 ≤ night ∧ night ≤ 23 → 0 ≤ own ∧ own ≤ 7 → MXO (fun t => M1 51 (24 * t + night.toNat) * M1 53 (24 * t + night.toNat)) own 8 - M1 51 (24 * own.toNat + night.toNat) = fBLF lo F night own) ∧ M1 32 28 = fCB lo F Q ∧ ∀ i, i < gn F → FST (fun a => fC lo F a = 1 ∧ AP (gW F) (gT F) (gN F) a i) i (M1 50 i)
theorem RUNS_f {M M1 : Mem} {lo : Int} {F : FG} {Q : QG} (h : RUNS M M1) (hN : ∀ j, 0 ≤ M 44 j) (hlo : M 32 20 = lo) (he : FGe (fgR M) F) (hq : QGe (qgR M) Q) (hn : M 32 7 ≤ 8) : RNF lo F Q M1 := by
  obtain ⟨B, h1, h2, h3, h4⟩ := h
  rw [hlo] at h1 h3
  obtain ⟨u1, u2, u3⟩ := fX_eq he hN h1
  have e1 : (M 32 15).toNat = gn F := he.1
  have e1b : gn (fgR M) = gn F := he.1
  rw [e1b] at u1 u2
  refine ⟨fX_run (RUN_eq he h1), u1, u2, fun t ht k hk => ?_, fun night own hn ho => ?_, ?_, fun i hi => ?_⟩
  · have q := h2 t ht k hk
    unfold SEQ at q
    rw [show ((t : Int)).toNat = t by omega] at q
    have es := fSTD_e (night := (k : Int)) he hN h1 ht
    have eu := fSUP_e (night := (k : Int)) he hN h1 ht
    obtain ⟨q1, q2, q3⟩ := q
    refine ⟨?_, ?_, ?_⟩
    · rw [q2]; exact congrArg (fun z => max 0 z) es
    · rw [q3]; exact congrArg RNK es
    · rw [q1, q3, ← eu]; rfl
  · have eb := fBLF_e (night := night) (own := own) he hN h1
    rw [SEQ_blf hn ho h2]
    exact eb
  · rw [h3]
    exact fCB_cg he hq hN (by show (M 32 7).toNat ≤ 8; omega) h1
  · refine FST_c (fun a ha => ?_) (h4 i (by rw [e1]; exact hi))
    have hi2 : i < gn (fgR M) := by rw [e1b]; exact hi
    obtain ⟨a1, a2, a3, a4⟩ := he.2.2.2 a (by omega)
    obtain ⟨b1, b2', b3, b4⟩ := he.2.2.2 i hi2
    rw [u1 a (by omega)]
    refine and_congr Iff.rfl ?_
    unfold AP
    rw [← a1, ← a2, ← a3, ← b1, ← b2', ← b3]
    exact Iff.rfl
/-- the reference's tales to be judged are those told, with all events -/
def NOW (M M1 : Mem) : Prop := M1 32 15 = M 5 4 ∧ M1 32 20 = -1 ∧ M1 32 21 = 0 ∧ ∀ i, i < (M 5 4).toNat → M1 44 i = M 6 i ∧ M1 45 i = M 7 i ∧ M1 46 i = M 8 i ∧ M1 47 i = M 9 i
theorem KEN_0 {K : Nat → Int} : KEN 0 K = K := by
  funext e
  unfold KEN
  rw [if_neg (BT_0 e)]
/-- the reference's figure, where it is F -/
theorem now_f {M : Mem} {F : FG} (hj : JE M) (hn : (M 32 15).toNat = gn F) (hm : gm F = (M 18 3).toNat) (hK : ∀ e, e < (M 18 3).toNat → KEN (M 32 21) (M 19) e = gK F e) (hEN : gEN F = M 20) (hEX : gEX F = M 21) (ha : ∀ i, i < gn F → M 44 i = gN F i ∧ M 45 i = gT F i ∧ M 46 i = gW F i ∧ M 47 i = gS F i) : FGe (fgR M) F := by
  obtain ⟨j1, j2⟩ := hj
  refine ⟨hn, ?_, fun e he => ?_, fun i hi => ?_⟩
  · show (M 32 11).toNat = gm F
    rw [j1, hm]
  · have he2 : e < (M 18 3).toNat := by rw [← j1]; exact he
    obtain ⟨a, b, c⟩ := j2 e he2
    refine ⟨?_, ?_, ?_⟩
    · show KEN (M 32 21) (M 41) e = _
      rw [← hK e he2]
      unfold KEN
      rw [a]
    · show M 42 e = _
      rw [b, hEN]
    · show M 43 e = _
      rw [c, hEX]
  · exact ha i (by rw [← hn]; exact hi)
theorem rd_q {M : Mem} (hr : RD M) (h10 : M 32 10 = M 0 12) : QGe (qgR M) (qgT M) := by
  obtain ⟨r1, r2, r3, r4⟩ := hr
  refine ⟨h10, ?_, fun c hc => ?_⟩
  · show (M 32 7).toNat = (M 15 2).toNat
    rw [r3]
  · exact r4 c (by rw [← r3]; exact hc)
