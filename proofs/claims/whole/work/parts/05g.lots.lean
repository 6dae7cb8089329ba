/-! lots, heard benches, bits by a rule -/
def LCG (s : Int) : Int := wr (wr (1103515245 * s) + 12345)
/-- the seed behind k lots -/
def LSQ (seed : Int) : Nat → Int
  | 0 => seed
  | k + 1 => LCG (LSQ seed k)
theorem bUsh16 (x : Int) : 0 ≤ bUsh x 16 ∧ bUsh x 16 < 65536 := by
  unfold bUsh
  have h := pk_ushr (i32 x) (i32 16) 16 (by decide +kernel)
  generalize hq : ((i32 x).toUInt32 >>> ((i32 16).toUInt32 &&& Int32.toUInt32 31)).toInt32 = q at h ⊢
  have h1 : (i32 x).toBitVec.toNat < 2 ^ 32 := (i32 x).toBitVec.isLt
  have h2 : q.toBitVec.toNat < 65536 := by rw [h]; omega
  have h3 : q = nI q.toBitVec.toNat := by
    apply Int32.toBitVec_inj.1
    apply BitVec.eq_of_toNat_eq
    exact (pk_tn (by omega)).symm
  rw [h3, nI_I (by omega)]
  omega
/-- the bench has heard the tales of cell tk with the events held -/
def HEARD (tk : Nat) (held : Int) (M : Mem) : Prop := M 22 6 = (tk : Int) ∧ (∀ e, e < (M 18 3).toNat → M 26 e = KEF held (M 19) e) ∧ CNT (-1) (M tk 4).toNat (M 18 3).toNat (M 26) (M 20) (M 21) (M (tk + 1)) (M (tk + 2)) (M (tk + 3)) (M 23) ∧ M 22 2 = sm (M 23) (M tk 4).toNat ∧ (∀ i, i < (M tk 4).toNat → M 24 i = WGT (-1) (M tk 4).toNat (M 23) (M (tk + 1)) (M (tk + 2)) (M (tk + 3)) (M (tk + 4)) i) ∧ ∀ t : Nat, t < 8 → BIR (M tk 4).toNat (M 23) (M (tk + 1)) (M (tk + 2)) (t : Int) (M 25 t)
/-- x's bits: those below n of which P -/
def BTS (P : Nat → Prop) (n : Nat) (x : Int) : Prop := 0 ≤ x ∧ x < (2 ^ n : Nat) ∧ ∀ k, k < n → (BT x k ↔ P k)
theorem BTS_u {P P' : Nat → Prop} {n : Nat} {x x' : Int} (he : ∀ k, k < n → (P k ↔ P' k)) (h : BTS P n x) (h' : BTS P' n x') : x = x' := by
  obtain ⟨h1, h2, h3⟩ := h
  obtain ⟨k1, k2, k3⟩ := h'
  refine BT_ext h1 k1 (fun k => ?_)
  by_cases hk : k < n
  · rw [h3 k hk, k3 k hk, he k hk]
  · exact ⟨fun q => absurd q (BT_big h2 (by omega)), fun q => absurd q (BT_big k2 (by omega))⟩
theorem BTS_0 {P : Nat → Prop} : BTS P (0 : Int).toNat 0 := ⟨by omega, by decide, fun k h => absurd h (Nat.not_lt_zero k)⟩
theorem BTS_y {P : Nat → Prop} {i x : Int} (hi : 0 ≤ i ∧ i < 31) (h : BTS P i.toNat x) (hp : P i.toNat) : BTS P (i + 1).toNat (bOr x (bShl 1 i)) := by
  obtain ⟨h1, h2, h3⟩ := h
  rw [tn_s hi.1]
  have hp2 : (2 ^ (i.toNat + 1) : Nat) = 2 ^ i.toNat * 2 := Nat.pow_succ ..
  have hp3 : 2 ^ (i.toNat + 1) ≤ 2 ^ 31 := Nat.pow_le_pow_right (by omega) (by omega)
  have q1 := bShl_lt (k := i) (n := i.toNat + 1) (by omega) (by omega)
  have q2 := bOr_lt (x := x) (y := bShl 1 i) (n := i.toNat + 1) (by omega) (by omega) q1
  refine ⟨q2.1, q2.2, fun k hk => ?_⟩
  rw [BT_or (by omega) (by omega), BT_shl (by omega)]
  by_cases e : k = i.toNat
  · rw [e]
    exact ⟨fun _ => hp, fun _ => Or.inr rfl⟩
  · rw [h3 k (by omega)]
    exact ⟨fun q => q.elim id (fun z => absurd z e), Or.inl⟩
theorem BTS_n {P : Nat → Prop} {i x : Int} (hi : 0 ≤ i ∧ i < 31) (h : BTS P i.toNat x) (hp : ¬ P i.toNat) : BTS P (i + 1).toNat x := by
  obtain ⟨h1, h2, h3⟩ := h
  rw [tn_s hi.1]
  have hp2 : (2 ^ (i.toNat + 1) : Nat) = 2 ^ i.toNat * 2 := Nat.pow_succ ..
  refine ⟨h1, by omega, fun k hk => ?_⟩
  by_cases e : k = i.toNat
  · rw [e]
    exact ⟨fun q => absurd q (BT_big h2 (Nat.le_refl _)), fun q => absurd q hp⟩
  · exact h3 k (by omega)
theorem BTS_le {P : Nat → Prop} {n m : Nat} {x : Int} (h : BTS P n x) (hm : n ≤ m) : 0 ≤ x ∧ x < (2 ^ m : Nat) := by
  have : 2 ^ n ≤ 2 ^ m := Nat.pow_le_pow_right (by omega) hm
  exact ⟨h.1, by have := h.2.1; omega⟩
theorem isbit2 {x a b : Int} (hx : 0 ≤ x ∧ x < 2147483648) (ha : 0 ≤ a ∧ a < 32) (hb : 0 ≤ b ∧ b < 32) : bAnd (bAnd (bShr x a) (bShr x b)) 1 = b2 (BT x a.toNat ∧ BT x b.toNat) := by
  have h1 := isbit hx ha
  have h2 := isbit hx hb
  have g1 : x.toNat / 2 ^ a.toNat ≤ x.toNat := Nat.div_le_self _ _
  have g2 : x.toNat / 2 ^ b.toNat ≤ x.toNat := Nat.div_le_self _ _
  rw [bShr_n hx ha] at h1 ⊢
  rw [bShr_n hx hb] at h2 ⊢
  generalize x.toNat / 2 ^ a.toNat = p at h1 g1 ⊢
  generalize x.toNat / 2 ^ b.toNat = q at h2 g2 ⊢
  have e0 : ((p : Int)).toNat = p := by omega
  have e1 : ((q : Int)).toNat = q := by omega
  rw [bAnd_n ⟨by omega, by omega⟩ (by omega)] at h1 h2
  have e2 : p &&& q ≤ p := Nat.and_le_left
  rw [bAnd_n (x := (p : Int)) ⟨by omega, by omega⟩ (by omega), e0, e1, bAnd_n ⟨by omega, by omega⟩ (by omega)]
  rw [e0] at h1
  rw [e1] at h2
  have e3 : ((p &&& q : Nat) : Int).toNat = p &&& q := by omega
  rw [e3]
  show ((p &&& q &&& 1 : Nat) : Int) = _
  have h1' : ((p &&& 1 : Nat) : Int) = b2 (BT x a.toNat) := h1
  have h2' : ((q &&& 1 : Nat) : Int) = b2 (BT x b.toNat) := h2
  rw [Nat.and_one_is_mod] at h1' h2' ⊢
  have e4 : (p &&& q) % 2 = p % 2 * (q % 2) := by
    have := Nat.testBit_and p q 0
    rw [Nat.testBit_zero, Nat.testBit_zero, Nat.testBit_zero] at this
    rcases Nat.mod_two_eq_zero_or_one p with hp | hp <;> rcases Nat.mod_two_eq_zero_or_one q with hq | hq <;> rcases Nat.mod_two_eq_zero_or_one (p &&& q) with hr | hr <;> simp [hp, hq, hr] at this ⊢
  rw [e4]
  by_cases ca : BT x a.toNat <;> by_cases cb : BT x b.toNat
  · rw [b2_t ca] at h1'
    rw [b2_t cb] at h2'
    rw [b2_t ⟨ca, cb⟩, show p % 2 = 1 by omega, show q % 2 = 1 by omega]
    rfl
  · rw [b2_f cb] at h2'
    rw [b2_f (fun z => cb z.2), show q % 2 = 0 by omega, Nat.mul_zero]
    rfl
  · rw [b2_f ca] at h1'
    rw [b2_f (fun z => ca z.1), show p % 2 = 0 by omega, Nat.zero_mul]
    rfl
  · rw [b2_f ca] at h1'
    rw [b2_f (fun z => ca z.1), show p % 2 = 0 by omega, Nat.zero_mul]
    rfl
def RCH (x : Int) : Int := bAnd (bOr (bOr x (bShl x 1)) (bShr x 1)) 255

theorem BIR_n {C N T : Nat → Int} {i t b : Int} (hi : 0 ≤ i) (hn : ¬ (C i.toNat = 1 ∧ T i.toNat = t)) (h : BIR i.toNat C N T t b) : BIR (i + 1).toNat C N T t b := by
  rw [tn_s hi]
  rcases h with ⟨h1, h2⟩ | ⟨k, h1, h2, h3, h4, h5⟩
  · refine Or.inl ⟨h1, fun j hj => ?_⟩
    by_cases e : j = i.toNat
    · rw [e]; exact hn
    · exact h2 j (by omega)
  · refine Or.inr ⟨k, by omega, h2, h3, h4, fun j hj g1 g2 => ?_⟩
    by_cases e : j = i.toNat
    · rw [e] at g1 g2; exact absurd ⟨g1, g2⟩ hn
    · exact h5 j (by omega) g1 g2
theorem BIR_1 {C N T : Nat → Int} {i t b : Int} (hi : 0 ≤ i) (hc : C i.toNat = 1) (ht : T i.toNat = t) (hN : ∀ j, 0 ≤ N j) (hb : b = -1) (h : BIR i.toNat C N T t b) : BIR (i + 1).toNat C N T t (N i.toNat) := by
  rw [tn_s hi]
  rcases h with ⟨h1, h2⟩ | ⟨k, h1, h2, h3, h4, h5⟩
  · refine Or.inr ⟨i.toNat, by omega, hc, ht, rfl, fun j hj g1 g2 => ?_⟩
    by_cases e : j = i.toNat
    · rw [e]; exact Int.le_refl _
    · exact absurd ⟨g1, g2⟩ (h2 j (by omega))
  · have := hN k; omega
theorem BIR_2 {C N T : Nat → Int} {i t b : Int} (hi : 0 ≤ i) (hc : C i.toNat = 1) (ht : T i.toNat = t) (hb : b ≠ -1) (hle : b ≤ N i.toNat) (h : BIR i.toNat C N T t b) : BIR (i + 1).toNat C N T t b := by
  rw [tn_s hi]
  rcases h with ⟨h1, h2⟩ | ⟨k, h1, h2, h3, h4, h5⟩
  · exact absurd h1 hb
  · refine Or.inr ⟨k, by omega, h2, h3, h4, fun j hj g1 g2 => ?_⟩
    by_cases e : j = i.toNat
    · rw [e]; exact hle
    · exact h5 j (by omega) g1 g2
theorem BIR_3 {C N T : Nat → Int} {i t b : Int} (hi : 0 ≤ i) (hc : C i.toNat = 1) (ht : T i.toNat = t) (hb : b ≠ -1) (hlt : N i.toNat < b) (h : BIR i.toNat C N T t b) : BIR (i + 1).toNat C N T t (N i.toNat) := by
  rw [tn_s hi]
  rcases h with ⟨h1, h2⟩ | ⟨k, h1, h2, h3, h4, h5⟩
  · exact absurd h1 hb
  · refine Or.inr ⟨i.toNat, by omega, hc, ht, rfl, fun j hj g1 g2 => ?_⟩
    by_cases e : j = i.toNat
    · rw [e]; exact Int.le_refl _
    · have := h5 j (by omega) g1 g2; omega
