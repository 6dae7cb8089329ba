/-! the reference's frame: cells, and fields of its object -/
def FX (cs fs : List Nat) (M N : Mem) : Prop := ∀ a b, a ∉ cs → ¬ (a = 32 ∧ b ∈ fs) → N a b = M a b
theorem FX.rf {cs fs : List Nat} {M : Mem} : FX cs fs M M := fun _ _ _ _ => rfl
theorem FX.put {cs fs : List Nat} {M N M' : Mem} {k j : Nat} {v : Int} (h : FX cs fs M N) (hM : M' = up N k j v) (hk : k ∈ cs ∨ (k = 32 ∧ j ∈ fs)) : FX cs fs M M' := by
  intro a b ha hb
  rw [up_ne hM (by
    by_cases e : a = k
    · right
      intro e2
      rcases hk with q | q
      · exact ha (by rw [e]; exact q)
      · exact hb ⟨by rw [e]; exact q.1, by rw [e2]; exact q.2⟩
    · exact Or.inl e)]
  exact h a b ha hb
theorem FX.tr {cs fs cs2 fs2 : List Nat} {M N M' : Mem} (h : FX cs fs M N) (h2 : FX cs2 fs2 N M') (hs : ∀ a ∈ cs2, a ∈ cs) (ht : ∀ a ∈ fs2, a ∈ fs) : FX cs fs M M' := by
  intro a b ha hb
  rw [h2 a b (fun q => ha (hs a q)) (fun q => hb ⟨q.1, ht b q.2⟩), h a b ha hb]
theorem FX.mono {cs fs cs2 fs2 : List Nat} {M N : Mem} (h : FX cs fs M N) (hs : ∀ a ∈ cs, a ∈ cs2) (ht : ∀ a ∈ fs, a ∈ fs2) : FX cs2 fs2 M N := fun a b ha hb => h a b (fun q => ha (hs a q)) (fun q => hb ⟨q.1, ht b q.2⟩)
theorem FX.of {cs fs : List Nat} {M N : Mem} (h : FR cs M N) : FX cs fs M N := fun a b ha _ => congrFun (h a ha) b
theorem FX.at {cs fs : List Nat} {M N : Mem} (h : FX cs fs M N) (a : Nat) (ha : a ∉ cs ∧ a ≠ 32) : N a = M a := funext (fun b => h a b ha.1 (fun q => ha.2 q.1))
theorem FX.fd {cs fs : List Nat} {M N : Mem} (h : FX cs fs M N) (b : Nat) (hb : 32 ∉ cs ∧ b ∉ fs) : N 32 b = M 32 b := h 32 b hb.1 (fun q => hb.2 q.2)
/-! the reference reads its texts -/
/-- the byte at k, -1 behind the end -/
def BA (t : Int) (B : Nat → Int) (k b : Int) : Prop := (k < t ∧ b = B k.toNat) ∨ (t ≤ k ∧ b = -1)
abbrev ok0 (b : Int) : Prop := 97 ≤ b ∧ b ≤ 120
abbrev ok1 (b : Int) : Prop := 48 ≤ b ∧ b ≤ 55
abbrev ok2 (b : Int) : Prop := 48 ≤ b ∧ b ≤ 57
abbrev ok3 (b : Int) : Prop := b = 115 ∨ b = 100 ∨ b = 107
def G4 (b0 b1 b2 b3 x : Int) : Prop := (x = 0 ∧ ¬ ok0 b0) ∨ (x = 1 ∧ ok0 b0 ∧ ¬ ok1 b1) ∨ (x = 2 ∧ ok0 b0 ∧ ok1 b1 ∧ ¬ ok2 b2) ∨ (x = 3 ∧ ok0 b0 ∧ ok1 b1 ∧ ok2 b2 ∧ ¬ ok3 b3) ∨ (x = 4 ∧ ok0 b0 ∧ ok1 b1 ∧ ok2 b2 ∧ ok3 b3)
def G2 (b0 b1 x : Int) : Prop := (x = 0 ∧ ¬ ok0 b0) ∨ (x = 1 ∧ ok0 b0 ∧ ¬ ok1 b1) ∨ (x = 2 ∧ ok0 b0 ∧ ok1 b1)
def RT4 (t : Int) (B : Nat → Int) (p x : Int) : Prop := ∃ b0 b1 b2 b3, BA t B p b0 ∧ BA t B (p + 1) b1 ∧ BA t B (p + 2) b2 ∧ BA t B (p + 3) b3 ∧ G4 b0 b1 b2 b3 x
def RT2 (t : Int) (B : Nat → Int) (p x : Int) : Prop := ∃ b0 b1, BA t B p b0 ∧ BA t B (p + 1) b1 ∧ G2 b0 b1 x
theorem FITa_0 {B : Nat → Int} {n : Nat} : FITa 5 B (5 * n) ↔ ok0 (B (5 * n)) := by
  unfold FITa FIT
  rw [show (5 * n) % 5 = 0 by omega]
  omega
theorem FITa_1 {B : Nat → Int} {n : Nat} : FITa 5 B (5 * n + 1) ↔ ok1 (B (5 * n + 1)) := by
  unfold FITa FIT
  rw [show (5 * n + 1) % 5 = 1 by omega]
  omega
theorem FITa_2 {B : Nat → Int} {n : Nat} : FITa 5 B (5 * n + 2) ↔ ok2 (B (5 * n + 2)) := by
  unfold FITa FIT
  rw [show (5 * n + 2) % 5 = 2 by omega]
  omega
theorem FITa_3 {B : Nat → Int} {n : Nat} : FITa 5 B (5 * n + 3) ↔ ok3 (B (5 * n + 3)) := by
  unfold FITa FIT
  rw [show (5 * n + 3) % 5 = 3 by omega]
  omega
theorem FITa_4 {B : Nat → Int} {n : Nat} : FITa 5 B (5 * n + 4) ↔ B (5 * n + 4) = 59 := by
  unfold FITa FIT
  rw [show (5 * n + 4) % 5 = 4 by omega]
  omega
theorem FITb_0 {B : Nat → Int} {n : Nat} : FITa 3 B (3 * n) ↔ ok0 (B (3 * n)) := by
  unfold FITa FIT
  rw [show (3 * n) % 3 = 0 by omega]
  omega
theorem FITb_1 {B : Nat → Int} {n : Nat} : FITa 3 B (3 * n + 1) ↔ ok1 (B (3 * n + 1)) := by
  unfold FITa FIT
  rw [show (3 * n + 1) % 3 = 1 by omega]
  omega
theorem FITb_2 {B : Nat → Int} {n : Nat} : FITa 3 B (3 * n + 2) ↔ B (3 * n + 2) = 59 := by
  unfold FITa FIT
  rw [show (3 * n + 2) % 3 = 2 by omega]
  omega
/-- the next byte fits or is the fault -/
theorem flt_here {st t p : Nat} {B : Nat → Int} (hf : ∀ a, a < p → FITa st B a) (hb : ¬ FITa st B p) (hp : p < t) : FLT st t B (p : Int) := Or.inl ⟨p, hp, rfl, hb, hf⟩
theorem flt_end {st t : Nat} {B : Nat → Int} (hf : ∀ a, a < t → FITa st B a) (h : ¬ (t = 0 ∨ t % st = st - 1)) : FLT st t B (t : Int) := Or.inr ⟨hf, Or.inr ⟨h, rfl⟩⟩
theorem fit_s {st p : Nat} {B : Nat → Int} (hf : ∀ a, a < p → FITa st B a) (h : FITa st B p) : ∀ a, a < p + 1 → FITa st B a := by
  intro a ha
  by_cases e : a = p
  · rw [e]; exact h
  · exact hf a (by omega)
/-- one step: byte b at p -/
theorem flt_step {st t p : Nat} {B : Nat → Int} {b : Int} {P : Int → Prop} (hP : FITa st B p ↔ P (B p)) (hn : ¬ P (-1)) (hf : ∀ a, a < p → FITa st B a) (hpt : p ≤ t) (hb : BA (t : Int) B (p : Int) b) : (P b → p < t ∧ B p = b ∧ ∀ a, a < p + 1 → FITa st B a) ∧ (¬ P b → ¬ (p = 0 ∨ p % st = st - 1) ∨ p < t → FLT st t B (p : Int)) := by
  rcases hb with ⟨h1, h2⟩ | ⟨h1, h2⟩
  · have h2 : b = B p := h2
    refine ⟨fun q => ⟨by omega, h2.symm, fit_s hf (hP.mpr (by rw [← h2]; exact q))⟩, fun q _ => flt_here hf (fun z => q (by rw [h2]; exact hP.mp z)) (by omega)⟩
  · refine ⟨fun q => absurd (by rw [h2] at q; exact q) hn, fun q g => ?_⟩
    have e : p = t := by omega
    rw [e] at hf g ⊢
    rcases g with g | g
    · exact flt_end hf g
    · omega
theorem RT4_flt {t n : Nat} {B : Nat → Int} {p x : Int} (hp : p = 5 * (n : Int)) (hpt : p ≤ t) (ht : 0 < t) (hf : ∀ a, a < 5 * n → FITa 5 B a) (h : RT4 (t : Int) B p x) : 0 ≤ x ∧ x ≤ 4 ∧ (x < 4 → FLT 5 t B (p + x)) ∧ (x = 4 → 5 * n + 4 ≤ t ∧ (∀ a, a < 5 * n + 4 → FITa 5 B a)) := by
  subst hp
  obtain ⟨b0, b1, b2, b3, h0, h1, h2, h3, hg⟩ := h
  have s0 := flt_step (P := ok0) (st := 5) (p := 5 * n) (t := t) (B := B) (b := b0) FITa_0 (by decide) hf (by omega) (by rw [show (((5 * n : Nat)) : Int) = 5 * (n : Int) by omega]; exact h0)
  by_cases c0 : ok0 b0
  · obtain ⟨q0, e0, f0⟩ := s0.1 c0
    have s1 := flt_step (P := ok1) (st := 5) (p := 5 * n + 1) (t := t) (B := B) (b := b1) FITa_1 (by decide) f0 (by omega) (by rw [show (((5 * n + 1 : Nat)) : Int) = 5 * (n : Int) + 1 by omega]; exact h1)
    by_cases c1 : ok1 b1
    · obtain ⟨q1, e1, f1⟩ := s1.1 c1
      have s2 := flt_step (P := ok2) (st := 5) (p := 5 * n + 2) (t := t) (B := B) (b := b2) FITa_2 (by decide) f1 (by omega) (by rw [show (((5 * n + 2 : Nat)) : Int) = 5 * (n : Int) + 2 by omega]; exact h2)
      by_cases c2 : ok2 b2
      · obtain ⟨q2, e2, f2⟩ := s2.1 c2
        have s3 := flt_step (P := ok3) (st := 5) (p := 5 * n + 3) (t := t) (B := B) (b := b3) FITa_3 (by decide) f2 (by omega) (by rw [show (((5 * n + 3 : Nat)) : Int) = 5 * (n : Int) + 3 by omega]; exact h3)
        by_cases c3 : ok3 b3
        · obtain ⟨q3, e3, f3⟩ := s3.1 c3
          have hx : x = 4 := by unfold G4 at hg; omega
          exact ⟨by omega, by omega, fun q => absurd q (by omega), fun _ => ⟨by omega, f3⟩⟩
        · have hx : x = 3 := by unfold G4 at hg; omega
          refine ⟨by omega, by omega, fun _ => ?_, fun q => absurd q (by omega)⟩
          have := s3.2 c3 (Or.inl (by omega))
          rwa [show (((5 * n + 3 : Nat)) : Int) = 5 * (n : Int) + x by omega] at this
      · have hx : x = 2 := by unfold G4 at hg; omega
        refine ⟨by omega, by omega, fun _ => ?_, fun q => absurd q (by omega)⟩
        have := s2.2 c2 (Or.inl (by omega))
        rwa [show (((5 * n + 2 : Nat)) : Int) = 5 * (n : Int) + x by omega] at this
    · have hx : x = 1 := by unfold G4 at hg; omega
      refine ⟨by omega, by omega, fun _ => ?_, fun q => absurd q (by omega)⟩
      have := s1.2 c1 (Or.inl (by omega))
      rwa [show (((5 * n + 1 : Nat)) : Int) = 5 * (n : Int) + x by omega] at this
  · have hx : x = 0 := by unfold G4 at hg; omega
    refine ⟨by omega, by omega, fun _ => ?_, fun q => absurd q (by omega)⟩
    have := s0.2 c0 (by omega)
    rwa [show (((5 * n : Nat)) : Int) = 5 * (n : Int) + x by omega] at this
theorem RT2_flt {t n : Nat} {B : Nat → Int} {p x : Int} (hp : p = 3 * (n : Int)) (hpt : p ≤ t) (ht : 0 < t) (hf : ∀ a, a < 3 * n → FITa 3 B a) (h : RT2 (t : Int) B p x) : 0 ≤ x ∧ x ≤ 2 ∧ (x < 2 → FLT 3 t B (p + x)) ∧ (x = 2 → 3 * n + 2 ≤ t ∧ (∀ a, a < 3 * n + 2 → FITa 3 B a)) := by
  subst hp
  obtain ⟨b0, b1, h0, h1, hg⟩ := h
  have s0 := flt_step (P := ok0) (st := 3) (p := 3 * n) (t := t) (B := B) (b := b0) FITb_0 (by decide) hf (by omega) (by rw [show (((3 * n : Nat)) : Int) = 3 * (n : Int) by omega]; exact h0)
  by_cases c0 : ok0 b0
  · obtain ⟨q0, e0, f0⟩ := s0.1 c0
    have s1 := flt_step (P := ok1) (st := 3) (p := 3 * n + 1) (t := t) (B := B) (b := b1) FITb_1 (by decide) f0 (by omega) (by rw [show (((3 * n + 1 : Nat)) : Int) = 3 * (n : Int) + 1 by omega]; exact h1)
    by_cases c1 : ok1 b1
    · obtain ⟨q1, e1, f1⟩ := s1.1 c1
      have hx : x = 2 := by unfold G2 at hg; omega
      exact ⟨by omega, by omega, fun q => absurd q (by omega), fun _ => ⟨by omega, f1⟩⟩
    · have hx : x = 1 := by unfold G2 at hg; omega
      refine ⟨by omega, by omega, fun _ => ?_, fun q => absurd q (by omega)⟩
      have := s1.2 c1 (Or.inl (by omega))
      rwa [show (((3 * n + 1 : Nat)) : Int) = 3 * (n : Int) + x by omega] at this
  · have hx : x = 0 := by unfold G2 at hg; omega
    refine ⟨by omega, by omega, fun _ => ?_, fun q => absurd q (by omega)⟩
    have := s0.2 c0 (by omega)
    rwa [show (((3 * n : Nat)) : Int) = 3 * (n : Int) + x by omega] at this
/-- at the sign between parts -/
theorem semi5 {t n : Nat} {B : Nat → Int} {b : Int} (hle : 5 * n + 4 ≤ t) (hne : t ≠ 5 * n + 4) (hf : ∀ a, a < 5 * n + 4 → FITa 5 B a) (hb : BA (t : Int) B (5 * (n : Int) + 4) b) : (b = 59 → 5 * (n + 1) ≤ t ∧ ∀ a, a < 5 * (n + 1) → FITa 5 B a) ∧ (b ≠ 59 → FLT 5 t B (5 * (n : Int) + 4)) := by
  have s := flt_step (P := fun q => q = 59) (st := 5) (p := 5 * n + 4) (t := t) (B := B) (b := b) FITa_4 (by decide) hf hle (by rw [show (((5 * n + 4 : Nat)) : Int) = 5 * (n : Int) + 4 by omega]; exact hb)
  refine ⟨fun q => ?_, fun q => ?_⟩
  · obtain ⟨h1, h2, h3⟩ := s.1 q
    exact ⟨by omega, h3⟩
  · have := s.2 q (Or.inr (by omega))
    rwa [show (((5 * n + 4 : Nat)) : Int) = 5 * (n : Int) + 4 by omega] at this
theorem semi3 {t n : Nat} {B : Nat → Int} {b : Int} (hle : 3 * n + 2 ≤ t) (hne : t ≠ 3 * n + 2) (hf : ∀ a, a < 3 * n + 2 → FITa 3 B a) (hb : BA (t : Int) B (3 * (n : Int) + 2) b) : (b = 59 → 3 * (n + 1) ≤ t ∧ ∀ a, a < 3 * (n + 1) → FITa 3 B a) ∧ (b ≠ 59 → FLT 3 t B (3 * (n : Int) + 2)) := by
  have s := flt_step (P := fun q => q = 59) (st := 3) (p := 3 * n + 2) (t := t) (B := B) (b := b) FITb_2 (by decide) hf hle (by rw [show (((3 * n + 2 : Nat)) : Int) = 3 * (n : Int) + 2 by omega]; exact hb)
  refine ⟨fun q => ?_, fun q => ?_⟩
  · obtain ⟨h1, h2, h3⟩ := s.1 q
    exact ⟨by omega, h3⟩
  · have := s.2 q (Or.inr (by omega))
    rwa [show (((3 * n + 2 : Nat)) : Int) = 3 * (n : Int) + 2 by omega] at this
theorem flt_all {st t : Nat} {B : Nat → Int} (hf : ∀ a, a < t → FITa st B a) (h : t = 0 ∨ t % st = st - 1) : FLT st t B (-1) := Or.inr ⟨hf, Or.inl ⟨h, rfl⟩⟩
theorem TOLD_0 {t : Nat} {B N T W S : Nat → Int} {x : Int} (h : FLT 5 t B x) (hx : 0 ≤ x ∨ t = 0) : TOLD t B 0 N T W S := by
  refine ⟨fun q => ?_, fun _ => rfl, fun i hi => absurd hi (by omega)⟩
  rcases hx with hx | hx
  · have := (FLT_nf h).mpr q; omega
  · subst hx; rfl
theorem CHAR_0 {t : Nat} {B N T : Nat → Int} {x : Int} (h : FLT 3 t B x) (hx : 0 ≤ x ∨ t = 0) : CHAR t B 0 N T := by
  refine ⟨fun q => ?_, fun _ => rfl, fun i hi => absurd hi (by omega)⟩
  rcases hx with hx | hx
  · have := (FLT_nf h).mpr q; omega
  · subst hx; rfl
def TRW (B N T W S : Nat → Int) (i : Nat) : Prop := N i = B (5 * i) - 97 ∧ T i = B (5 * i + 1) - 48 ∧ W i = B (5 * i + 2) - 48 ∧ S i = SRT (B (5 * i + 3))
def CRW (B N T : Nat → Int) (i : Nat) : Prop := N i = B (3 * i) - 97 ∧ T i = B (3 * i + 1) - 48
theorem TOLD_1 {t n : Nat} {B N T W S : Nat → Int} {sz : Int} (hf : ∀ a, a < t → FITa 5 B a) (ht : t = 5 * n + 4) (hs : sz = ((n + 1 : Nat) : Int)) (hr : ∀ i, i < n + 1 → TRW B N T W S i) : TOLD t B sz N T W S := by
  refine ⟨fun _ => by rw [hs]; omega, fun q => absurd ⟨hf, Or.inr (by omega)⟩ q, fun i hi => hr i (by omega)⟩
theorem CHAR_1 {t n : Nat} {B N T : Nat → Int} {sz : Int} (hf : ∀ a, a < t → FITa 3 B a) (ht : t = 3 * n + 2) (hs : sz = ((n + 1 : Nat) : Int)) (hr : ∀ i, i < n + 1 → CRW B N T i) : CHAR t B sz N T := by
  refine ⟨fun _ => by rw [hs]; omega, fun q => absurd ⟨hf, Or.inr (by omega)⟩ q, fun i hi => hr i (by omega)⟩
theorem RT4_rw {t : Int} {B : Nat → Int} {p : Int} {n : Nat} (hp : p = 5 * (n : Int)) (h : RT4 t B p 4) : ∃ b0 b1 b2 b3, b0 = B (5 * n) ∧ b1 = B (5 * n + 1) ∧ b2 = B (5 * n + 2) ∧ b3 = B (5 * n + 3) ∧ BA t B p b0 ∧ BA t B (p + 1) b1 ∧ BA t B (p + 2) b2 ∧ BA t B (p + 3) b3 := by
  obtain ⟨b0, b1, b2, b3, h0, h1, h2, h3, hg⟩ := h
  have q : ok0 b0 ∧ ok1 b1 ∧ ok2 b2 ∧ ok3 b3 := by unfold G4 at hg; omega
  refine ⟨b0, b1, b2, b3, ?_, ?_, ?_, ?_, h0, h1, h2, h3⟩
  · rcases h0 with ⟨-, e⟩ | ⟨-, e⟩
    · rw [e]; congr 1; omega
    · omega
  · rcases h1 with ⟨-, e⟩ | ⟨-, e⟩
    · rw [e]; congr 1; omega
    · omega
  · rcases h2 with ⟨-, e⟩ | ⟨-, e⟩
    · rw [e]; congr 1; omega
    · omega
  · rcases h3 with ⟨-, e⟩ | ⟨-, e⟩
    · rw [e]; congr 1; omega
    · omega
theorem BA_u {t : Int} {B : Nat → Int} {k b b' : Int} (h : BA t B k b) (h' : BA t B k b') : b = b' := by
  unfold BA at h h'
  omega
theorem BA_ok {t : Int} {B : Nat → Int} {k b : Int} {j : Nat} (h : BA t B k b) (hb : b ≠ -1) (hk : k = (j : Int)) : b = B j := by
  rcases h with ⟨-, e⟩ | ⟨-, e⟩
  · rw [e, hk]; rfl
  · exact absurd e hb
