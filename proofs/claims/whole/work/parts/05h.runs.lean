/-! runs: which count, what they weigh, when men came to be; the bits of the charges that he is cleared of -/
def BLF (n m : Nat) (B G N T K EN EX : Nat → Int) (night own : Int) : Int := MXO (SUP n m B G N T K EN EX night) own 8 - WIN n G N T night own
def RUN (lo : Int) (n m : Nat) (K EN EX N T W S C G B : Nat → Int) : Prop := CNT lo n m K EN EX N T W C ∧ (∀ i, C i = 0 ∨ C i = 1) ∧ (∀ i, i < n → G i = WGT lo n C N T W S i) ∧ ∀ t : Nat, t < 8 → BIR n C N T (t : Int) (B t)
/-- by these tales and events he is cleared of the charges x, and cnt tales count -/
def CLRD (lo : Int) (n m : Nat) (K EN EX N T W S : Nat → Int) (need : Int) (cn : Nat) (CN CT : Nat → Int) (x cnt : Int) : Prop := ∃ C G B : Nat → Int, RUN lo n m K EN EX N T W S C G B ∧ BTS (fun c => need ≤ BLF n m B G N T K EN EX (CN c) (CT c)) cn x ∧ cnt = sm C n
theorem SPO_c {K K' EN EN' EX EX' N N' T T' W W' : Nat → Int} {m i : Nat} (h : ∀ e, e < m → K e = K' e ∧ EN e = EN' e ∧ EX e = EX' e) (hi : N i = N' i ∧ T i = T' i ∧ W i = W' i) : SPO K EN EX N T W m i ↔ SPO K' EN' EX' N' T' W' m i := by
  obtain ⟨i1, i2, i3⟩ := hi
  unfold SPO
  constructor
  · rintro ⟨e, he, hs⟩
    obtain ⟨a, b, c⟩ := h e he
    refine ⟨e, he, ?_⟩
    unfold SPe at hs ⊢
    rw [← a, ← b, ← c, ← i1, ← i2, ← i3]
    exact hs
  · rintro ⟨e, he, hs⟩
    obtain ⟨a, b, c⟩ := h e he
    refine ⟨e, he, ?_⟩
    unfold SPe at hs ⊢
    rw [a, b, c, i1, i2, i3]
    exact hs
/-- two figures that agree -/
def FIG (n m : Nat) (K EN EX N T W S K' EN' EX' N' T' W' S' : Nat → Int) : Prop := (∀ e, e < m → K e = K' e ∧ EN e = EN' e ∧ EX e = EX' e) ∧ ∀ i, i < n → N i = N' i ∧ T i = T' i ∧ W i = W' i ∧ S i = S' i
theorem CNT_u {lo : Int} {n m : Nat} {K EN EX N T W S K' EN' EX' N' T' W' S' C C' : Nat → Int} (hf : FIG n m K EN EX N T W S K' EN' EX' N' T' W' S') (h : CNT lo n m K EN EX N T W C) (h' : CNT lo n m K' EN' EX' N' T' W' C') (h01 : ∀ i, C i = 0 ∨ C i = 1) (h01' : ∀ i, C' i = 0 ∨ C' i = 1) : ∀ k i, i < k → i < n → C i = C' i := by
  intro k
  induction k with
  | zero => intro i h; exact absurd h (Nat.not_lt_zero _)
  | succ k ih =>
    intro i hi hn
    by_cases e : i < k
    · exact ih i e hn
    · have ek : i = k := by omega
      have hia := hf.2 i hn
      have key : C i = 1 ↔ C' i = 1 := by
        rw [h i hn, h' i hn, SPO_c hf.1 ⟨hia.1, hia.2.1, hia.2.2.1⟩]
        constructor
        · rintro ⟨q1, q2, q3⟩
          refine ⟨q1, q2, fun a ha => ?_⟩
          have haa := hf.2 a (by omega)
          have := q3 a ha
          rw [ih a (by omega) (by omega)] at this
          unfold AP at this ⊢
          rw [← haa.1, ← haa.2.1, ← haa.2.2.1, ← hia.1, ← hia.2.1, ← hia.2.2.1]
          exact this
        · rintro ⟨q1, q2, q3⟩
          refine ⟨q1, q2, fun a ha => ?_⟩
          have haa := hf.2 a (by omega)
          have := q3 a ha
          rw [← ih a (by omega) (by omega)] at this
          unfold AP at this ⊢
          rw [haa.1, haa.2.1, haa.2.2.1, hia.1, hia.2.1, hia.2.2.1]
          exact this
      have := h01 i
      have := h01' i
      omega
theorem OTH_c {n i : Nat} {C N T W C' N' T' W' : Nat → Int} (hi : i < n) (h : ∀ j, j < n → C j = C' j ∧ N j = N' j ∧ T j = T' j ∧ W j = W' j) : OTH n C N T W i = OTH n C' N' T' W' i := by
  unfold OTH
  obtain ⟨-, i1, i2, i3⟩ := h i hi
  apply sm_c
  intro w _
  have e : sm (fun j => b2 (C j = 1 ∧ N j = N i ∧ T j = T i ∧ W j = (w : Int))) n = sm (fun j => b2 (C' j = 1 ∧ N' j = N' i ∧ T' j = T' i ∧ W' j = (w : Int))) n := by
    apply sm_c
    intro j hj
    obtain ⟨a, b, c, d⟩ := h j hj
    rw [a, b, c, d, i1, i2]
  rw [e, i3]
theorem FAL_c {lo : Int} {n : Nat} {C W C' W' : Nat → Int} {w : Int} (h : ∀ j, j < n → C j = C' j ∧ W j = W' j) : FAL lo n C W w = FAL lo n C' W' w := by
  unfold FAL
  apply sm_c
  intro j hj
  obtain ⟨a, b⟩ := h j hj
  rw [a, b]
theorem WGT_c {lo : Int} {n i : Nat} {C N T W S C' N' T' W' S' : Nat → Int} (hi : i < n) (h : ∀ j, j < n → C j = C' j ∧ N j = N' j ∧ T j = T' j ∧ W j = W' j ∧ S j = S' j) : WGT lo n C N T W S i = WGT lo n C' N' T' W' S' i := by
  obtain ⟨a, b, c, d, e⟩ := h i hi
  unfold WGT WG
  rw [a, e, d, OTH_c hi (fun j hj => ⟨(h j hj).1, (h j hj).2.1, (h j hj).2.2.1, (h j hj).2.2.2.1⟩), FAL_c (C' := C') (W' := W') (fun j hj => ⟨(h j hj).1, (h j hj).2.2.2.1⟩)]
theorem BIR_u {n : Nat} {C N T C' N' T' : Nat → Int} {t b b' : Int} (h : ∀ j, j < n → C j = C' j ∧ N j = N' j ∧ T j = T' j) (hN : ∀ j, 0 ≤ N j) (h1 : BIR n C N T t b) (h2 : BIR n C' N' T' t b') : b = b' := by
  rcases h1 with ⟨g1, g2⟩ | ⟨i, g1, g2, g3, g4, g5⟩ <;> rcases h2 with ⟨k1, k2⟩ | ⟨j, k1, k2, k3, k4, k5⟩
  · omega
  · obtain ⟨a, b, c⟩ := h j k1
    exact absurd ⟨by omega, by omega⟩ (g2 j k1)
  · obtain ⟨a, b, c⟩ := h i g1
    exact absurd ⟨by omega, by omega⟩ (k2 i g1)
  · obtain ⟨a, b, c⟩ := h i g1
    obtain ⟨a', b', c'⟩ := h j k1
    have q1 := g5 j k1 (by omega) (by omega)
    have q2 := k5 i g1 (by omega) (by omega)
    omega
theorem RUN_u {lo : Int} {n m : Nat} {K EN EX N T W S K' EN' EX' N' T' W' S' C G B C' G' B' : Nat → Int} (hf : FIG n m K EN EX N T W S K' EN' EX' N' T' W' S') (hN : ∀ j, 0 ≤ N j) (h : RUN lo n m K EN EX N T W S C G B) (h' : RUN lo n m K' EN' EX' N' T' W' S' C' G' B') : (∀ i, i < n → C i = C' i) ∧ (∀ i, i < n → G i = G' i) ∧ ∀ t, t < 8 → B t = B' t := by
  obtain ⟨h1, h2, h3, h4⟩ := h
  obtain ⟨k1, k2, k3, k4⟩ := h'
  have hC : ∀ i, i < n → C i = C' i := fun i hi => CNT_u hf h1 k1 h2 k2 n i hi hi
  refine ⟨hC, fun i hi => ?_, fun t ht => ?_⟩
  · rw [h3 i hi, k3 i hi]
    exact WGT_c hi (fun j hj => ⟨hC j hj, (hf.2 j hj).1, (hf.2 j hj).2.1, (hf.2 j hj).2.2.1, (hf.2 j hj).2.2.2⟩)
  · exact BIR_u (fun j hj => ⟨hC j hj, (hf.2 j hj).1, (hf.2 j hj).2.1⟩) hN (h4 t ht) (k4 t ht)
theorem WIN_c {n : Nat} {G N T G' N' T' : Nat → Int} {night town : Int} (h : ∀ j, j < n → G j = G' j ∧ N j = N' j ∧ T j = T' j) : WIN n G N T night town = WIN n G' N' T' night town := by
  unfold WIN
  apply sm_c
  intro j hj
  obtain ⟨a, b, c⟩ := h j hj
  rw [a, b, c]
theorem STD_c {n m : Nat} {b : Int} {G N T K EN EX G' N' T' K' EN' EX' : Nat → Int} {night town : Int} (h : ∀ j, j < n → G j = G' j ∧ N j = N' j ∧ T j = T' j) (he : ∀ e, e < m → K e = K' e ∧ EN e = EN' e ∧ EX e = EX' e) : STD n m b G N T K EN EX night town = STD n m b G' N' T' K' EN' EX' night town := by
  unfold STD
  have e1 : SWT n G N T night town = SWT n G' N' T' night town := by
    unfold SWT
    apply sm_c
    intro j hj
    obtain ⟨a, b, c⟩ := h j hj
    rw [a, b, c]
  have e2 : LET m K EN EX b night town = LET m K' EN' EX' b night town := by
    unfold LET
    apply sm_c
    intro j hj
    obtain ⟨a, b, c⟩ := he j hj
    rw [a, b, c]
  rw [e1, e2]
theorem SUP_c {n m : Nat} {B G N T K EN EX B' G' N' T' K' EN' EX' : Nat → Int} {night : Int} {t : Nat} (hB : B t = B' t) (h : ∀ j, j < n → G j = G' j ∧ N j = N' j ∧ T j = T' j) (he : ∀ e, e < m → K e = K' e ∧ EN e = EN' e ∧ EX e = EX' e) : SUP n m B G N T K EN EX night t = SUP n m B' G' N' T' K' EN' EX' night t := by
  unfold SUP
  rw [WIN_c h, hB, STD_c h he]
theorem MXO_c {f g : Nat → Int} {own : Int} : ∀ (n : Nat), (∀ t, t < n → f t = g t) → MXO f own n = MXO g own n
  | 0, _ => rfl
  | n + 1, h => by
    unfold MXO
    rw [MXO_c n (fun t ht => h t (by omega)), h n (by omega)]
theorem BLF_c {n m : Nat} {B G N T K EN EX B' G' N' T' K' EN' EX' : Nat → Int} {night own : Int} (hB : ∀ t, t < 8 → B t = B' t) (h : ∀ j, j < n → G j = G' j ∧ N j = N' j ∧ T j = T' j) (he : ∀ e, e < m → K e = K' e ∧ EN e = EN' e ∧ EX e = EX' e) : BLF n m B G N T K EN EX night own = BLF n m B' G' N' T' K' EN' EX' night own := by
  unfold BLF
  rw [WIN_c h, MXO_c 8 (fun t ht => SUP_c (hB t ht) h he)]
theorem CLRD_u {lo : Int} {n m : Nat} {K EN EX N T W S K' EN' EX' N' T' W' S' : Nat → Int} {need : Int} {cn : Nat} {CN CT CN' CT' : Nat → Int} {x cnt x' cnt' : Int} (hf : FIG n m K EN EX N T W S K' EN' EX' N' T' W' S') (hN : ∀ j, 0 ≤ N j) (hc : ∀ c, c < cn → CN c = CN' c ∧ CT c = CT' c) (h : CLRD lo n m K EN EX N T W S need cn CN CT x cnt) (h' : CLRD lo n m K' EN' EX' N' T' W' S' need cn CN' CT' x' cnt') : x = x' ∧ cnt = cnt' := by
  obtain ⟨C, G, B, hr, hb, hcn⟩ := h
  obtain ⟨C', G', B', hr', hb', hcn'⟩ := h'
  obtain ⟨u1, u2, u3⟩ := RUN_u hf hN hr hr'
  refine ⟨BTS_u (fun c hcc => ?_) hb hb', by rw [hcn, hcn', sm_c u1]⟩
  obtain ⟨c1, c2⟩ := hc c hcc
  rw [c1, c2, BLF_c u3 (fun j hj => ⟨u2 j hj, (hf.2 j hj).1, (hf.2 j hj).2.1⟩) hf.1]
theorem KEF_ev {held : Int} {K K' : Nat → Int} {e : Nat} (h : K e = K' e) : KEF held K e = KEF held K' e := by
  unfold KEF
  rw [h]
theorem HEARD_run {tk : Nat} {held : Int} {M M1 : Mem} (htk : TK tk) (hfr : FR [22, 23, 24, 25, 26] M M1) (h : HEARD tk held M1) (h01 : ∀ i, M1 23 i = 0 ∨ M1 23 i = 1) : RUN (-1) (M tk 4).toNat (M 18 3).toNat (KEF held (M 19)) (M 20) (M 21) (M (tk + 1)) (M (tk + 2)) (M (tk + 3)) (M (tk + 4)) (M1 23) (M1 24) (M1 25) ∧ (∀ e, e < (M 18 3).toNat → M1 26 e = KEF held (M 19) e) ∧ M1 22 2 = sm (M1 23) (M tk 4).toNat ∧ M1 22 6 = (tk : Int) := by
  obtain ⟨h1, h2, h3, h4, h5, h6⟩ := h
  have et := hfr tk (by rcases htk with rfl | rfl <;> decide)
  have et1 := hfr (tk + 1) (by rcases htk with rfl | rfl <;> decide)
  have et2 := hfr (tk + 2) (by rcases htk with rfl | rfl <;> decide)
  have et3 := hfr (tk + 3) (by rcases htk with rfl | rfl <;> decide)
  have et4 := hfr (tk + 4) (by rcases htk with rfl | rfl <;> decide)
  have e18 := hfr 18 (by decide)
  have e19 := hfr 19 (by decide)
  have e20 := hfr 20 (by decide)
  have e21 := hfr 21 (by decide)
  rw [e18, e19] at h2
  rw [et, e18, e20, e21, et1, et2, et3] at h3
  rw [et] at h4
  rw [et, et1, et2, et3, et4] at h5
  rw [et, et1, et2] at h6
  refine ⟨⟨?_, h01, h5, h6⟩, h2, h4, h1⟩
  intro i hi
  rw [h3 i hi, SPO_c (K' := KEF held (M 19)) (EN' := M 20) (EX' := M 21) (N' := M (tk + 1)) (T' := M (tk + 2)) (W' := M (tk + 3)) (fun e he => ⟨h2 e he, rfl, rfl⟩) ⟨rfl, rfl, rfl⟩]
/-- the events' bits: all -/
theorem all_bits {m : Int} (h : 0 ≤ m ∧ m ≤ 8) : 0 ≤ bShl 1 m - 1 ∧ bShl 1 m - 1 ≤ 255 ∧ ∀ k, BT (bShl 1 m - 1) k ↔ k < m.toNat := by
  rw [bShl_1 (by omega)]
  have h1 : 2 ^ m.toNat ≤ 2 ^ 8 := Nat.pow_le_pow_right (by omega) (by omega)
  have h2 := Nat.two_pow_pos m.toNat
  refine ⟨by omega, by omega, fun k => ?_⟩
  unfold BT
  rw [show (((2 ^ m.toNat : Nat) : Int) - 1).toNat = 2 ^ m.toNat - 1 by omega, Nat.testBit_two_pow_sub_one]
  simp
