/-! rows of kit/laws/BITS.to-paste, for longs -/
theorem wb_tb (n : Nat) : (lN n).toBitVec = BitVec.ofNat 64 n := rfl
theorem wb_inj {a b : Int64} (h : a.toBitVec = b.toBitVec) : a = b := Int64.toBitVec_inj.mp h
theorem wb_tn {n : Nat} (h : n < 2 ^ 64) : (lN n).toBitVec.toNat = n := by rw [wb_tb, BitVec.toNat_ofNat, Nat.mod_eq_of_lt h]
theorem wb_c : ∀ k, k < 64 → ((nI k).toInt64 &&& 63) = lN k := by decide +kernel
theorem wb_sm : ∀ k, k < 64 → (BitVec.ofNat 64 k).smod 64 = BitVec.ofNat 64 k := by decide +kernel
theorem wb_shl (n : Nat) {k : Nat} (hk : k < 64) : lN n <<< ((nI k).toInt64 &&& 63) = lN (n * 2 ^ k) := by
  rw [wb_c k hk]
  apply wb_inj
  rw [Int64.toBitVec_shiftLeft, wb_tb, wb_tb, wb_tb, wb_sm k hk]
  apply BitVec.eq_of_toNat_eq
  rw [BitVec.shiftLeft_eq', BitVec.toNat_shiftLeft, BitVec.toNat_ofNat, BitVec.toNat_ofNat, BitVec.toNat_ofNat, Nat.mod_eq_of_lt (show k < 2 ^ 64 by omega), Nat.shiftLeft_eq, Nat.mul_mod, Nat.mod_mod, ← Nat.mul_mod]
theorem wb_and {a b : Nat} (ha : a < 2 ^ 64) (hb : b < 2 ^ 64) : lN a &&& lN b = lN (a &&& b) := by
  apply wb_inj
  rw [Int64.toBitVec_and, wb_tb, wb_tb, wb_tb]
  apply BitVec.eq_of_toNat_eq
  rw [BitVec.toNat_and, BitVec.toNat_ofNat, BitVec.toNat_ofNat, BitVec.toNat_ofNat, Nat.mod_eq_of_lt ha, Nat.mod_eq_of_lt hb, Nat.mod_eq_of_lt (Nat.and_lt_two_pow _ hb)]
theorem pf_lI {a : Nat} (h : a < 2 ^ 63) : (lN a).toInt = (a : Int) := lg_ofNat_toInt h
theorem pf_shr {a d : Nat} {D : Int64} (hD : (D.toBitVec.smod 64).toNat = d) (h : a < 2 ^ 62) : lN a >>> D = lN (a / 2 ^ d) := by
  have hd : a / 2 ^ d ≤ a := Nat.div_le_self _ _
  apply Int64.toInt_inj.mp
  have e : (lN a >>> D).toInt = (lN a).toInt >>> d := by
    rw [← hD]
    exact BitVec.toInt_sshiftRight ..
  rw [e, Int.shiftRight_eq_div_pow, pf_lI (by omega), pf_lI (by omega)]
  rfl
theorem i64_lN {x : Int} (h : 0 ≤ x) : i64 x = lN x.toNat := by
  obtain ⟨n, rfl⟩ := Int.eq_ofNat_of_zero_le h
  exact Int64.toBitVec_inj.1 (BitVec.ofInt_natCast 64 n)
theorem lAnd_1 {x : Int} (h : 0 ≤ x ∧ x < 4611686018427387904) : lAnd x 1 = x % 2 := by
  unfold lAnd
  rw [i64_lN h.1, i64_lN (show (0 : Int) ≤ 1 by omega), wb_and (by omega) (by decide)]
  rw [show (1 : Int).toNat = 1 from rfl, Nat.and_one_is_mod, pf_lI (by omega)]
  omega
theorem lShr_1 {x : Int} (h : 0 ≤ x ∧ x < 4611686018427387904) : lShr x 1 = x / 2 := by
  unfold lShr
  rw [i64_lN h.1, pf_shr (d := 1) (by decide +kernel) (by omega), pf_lI (by omega)]
  omega
theorem lShl_1 {k : Int} (h : 0 ≤ k ∧ k ≤ 32) : lShl 1 k = ((2 ^ k.toNat : Nat) : Int) := by
  unfold lShl
  have h1 : (2 : Nat) ^ k.toNat ≤ 2 ^ 32 := Nat.pow_le_pow_right (by omega) (by omega)
  rw [i64_lN (show (0 : Int) ≤ 1 by omega), i32_nI h.1, wb_shl _ (by omega), show (1 : Int).toNat * 2 ^ k.toNat = 2 ^ k.toNat from Nat.one_mul _, pf_lI (by omega)]
/-! chances -/
def PWR (c : Int) (m : Nat) (h : Int) : Int := ((c.toNat ^ (PCN h).toNat * (16 - c).toNat ^ (m - (PCN h).toNat) : Nat) : Int)
theorem pow_le16 {b k : Nat} (hb : b ≤ 16) (hk : k ≤ 8) : b ^ k ≤ 16 ^ k ∧ (16 : Nat) ^ k ≤ 4294967296 := ⟨Nat.pow_le_pow_left hb k, Nat.le_trans (Nat.pow_le_pow_right (by omega) hk) (by decide)⟩
theorem PWR_in {c : Int} {m : Nat} {h : Int} (hc : 0 ≤ c ∧ c ≤ 16) (hm : m ≤ 8) (hp : (PCN h).toNat ≤ m) : 0 ≤ PWR c m h ∧ PWR c m h ≤ 4294967296 := by
  unfold PWR
  have h1 := pow_le16 (b := c.toNat) (k := (PCN h).toNat) (by omega) (by omega)
  have h2 := pow_le16 (b := (16 - c).toNat) (k := m - (PCN h).toNat) (by omega) (by omega)
  have h3 := Nat.mul_le_mul h1.1 h2.1
  rw [← Nat.pow_add] at h3
  have h4 : (16 : Nat) ^ ((PCN h).toNat + (m - (PCN h).toNat)) ≤ 4294967296 := Nat.le_trans (Nat.pow_le_pow_right (by omega) (show _ ≤ 8 by omega)) (by decide)
  omega
/-- cases out of 16 to the m in which he is cleared of charge j: cb by the events held -/
noncomputable def FAV (cb : Nat → Int) (c : Int) (m j : Nat) : Nat → Int := sm (fun h => bC (BT (cb h) j) * PWR c m (h : Int))
theorem FAV_in {cb : Nat → Int} {c : Int} {m j n : Nat} (hc : 0 ≤ c ∧ c ≤ 16) (hm : m ≤ 8) (hp : ∀ h : Nat, h < n → (PCN (h : Int)).toNat ≤ m) : 0 ≤ FAV cb c m j n ∧ FAV cb c m j n ≤ n * 4294967296 := by
  have key : ∀ h, h < n → 0 ≤ bC (BT (cb h) j) * PWR c m (h : Int) ∧ bC (BT (cb h) j) * PWR c m (h : Int) ≤ 4294967296 := by
    intro h hh
    have h1 := PWR_in (c := c) (m := m) (h := (h : Int)) hc hm (hp h hh)
    by_cases q : BT (cb h) j
    · rw [bC_t q]; omega
    · rw [bC_f q]; omega
  exact ⟨sm_ge (fun h hh => (key h hh).1), sm_le (fun h hh => (key h hh).2)⟩
theorem FAV_i {cb : Nat → Int} {c i : Int} {m j : Nat} (h : 0 ≤ i) : FAV cb c m j (i + 1).toNat = FAV cb c m j i.toNat + bC (BT (cb i.toNat) j) * PWR c m i := by
  unfold FAV
  rw [sm_i h, show ((i.toNat : Nat) : Int) = i by omega]
theorem PCN_m : ∀ m, m ≤ 8 → ∀ h : Nat, h < 2 ^ m → (PCN (h : Int)).toNat ≤ m := by
  intro m hm h hh
  have h0 := PCN_in (h : Int)
  have h1 : PCN (h : Int) = sm (fun k => b2 (BT (h : Int) k)) m := by
    unfold PCN
    have hz : ∀ k, m ≤ k → b2 (BT (h : Int) k) = 0 := fun k hk => b2_f (BT_big (n := m) (by omega) hk)
    have : ∀ d, sm (fun k => b2 (BT (h : Int) k)) (m + d) = sm (fun k => b2 (BT (h : Int) k)) m := by
      intro d
      induction d with
      | zero => rfl
      | succ d ih => rw [show m + (d + 1) = (m + d) + 1 by omega, sm_s, ih, hz (m + d) (by omega)]; omega
    have := this (12 - m)
    rw [show m + (12 - m) = 12 by omega] at this
    exact this
  have h2 := sm_le (f := fun k => b2 (BT (h : Int) k)) (n := m) (b := 1) (fun j _ => (b2_in _).2)
  omega
/-- a over 2 to the t is s over 2 to the e, in lowest terms -/
def LOW (s : Int) (e : Nat) (a : Int) (t : Nat) : Prop := t ≤ e ∧ 0 ≤ a ∧ a * ((2 ^ (e - t) : Nat) : Int) = s ∧ (t = 0 ∨ a % 2 = 1)
def aLow (s : Int) (e : Nat) (what x : Int) : Prop := ∃ a t, LOW s e a t ∧ ((what = 0 ∧ x = a) ∨ (what = 1 ∧ x = ((2 ^ t : Nat) : Int)))
noncomputable def fFAV (F : FG) (Q : QG) (c : Int) (j : Nat) : Int := FAV (fun h => fCB (-1) (setK F (KEF (h : Int) (gK F))) Q) c (gm F) j (2 ^ gm F)
def aChance (sz : Int) (F : FG) (Q : QG) (c j what x : Int) : Prop := ((c < 0 ∨ 16 < c ∨ j < 0 ∨ sz ≤ j ∨ what < 0 ∨ 1 < what) ∧ x = -9223372036854775806) ∨ (0 ≤ c ∧ c ≤ 16 ∧ 0 ≤ j ∧ j < sz ∧ 0 ≤ what ∧ what ≤ 1 ∧ aLow (fFAV F Q c j.toNat) (4 * gm F) what x)
def aSpare (F : FG) (Q : QG) (i x : Int) : Prop := ((i < -1 ∨ 1 < i) ∧ x = -2) ∨ (-1 ≤ i ∧ i ≤ 1 ∧ ∃ num a b, SPR F Q num a b ∧ ((num = -1 ∧ x = -1) ∨ (num ≠ -1 ∧ ((i = -1 ∧ x = num) ∨ (i = 0 ∧ x = a) ∨ (i = 1 ∧ x = b)))))
theorem sp_t1 : ∀ a, a < 8 → PCN (bShl 1 ((a : Nat) : Int)) = 1 ∧ BLW (bShl 1 ((a : Nat) : Int)) a = 0 ∧ BT (bShl 1 ((a : Nat) : Int)) a ∧ ∀ i, i < 8 → BT (bShl 1 ((a : Nat) : Int)) i → i = a := by decide +kernel
theorem sp_t2 : ∀ b, b < 8 → ∀ a, a < b → PCN (bOr (bShl 1 ((a : Nat) : Int)) (bShl 1 ((b : Nat) : Int))) = 2 ∧ BLW (bOr (bShl 1 ((a : Nat) : Int)) (bShl 1 ((b : Nat) : Int))) a = 0 ∧ BLW (bOr (bShl 1 ((a : Nat) : Int)) (bShl 1 ((b : Nat) : Int))) b = 1 ∧ BT (bOr (bShl 1 ((a : Nat) : Int)) (bShl 1 ((b : Nat) : Int))) a ∧ BT (bOr (bShl 1 ((a : Nat) : Int)) (bShl 1 ((b : Nat) : Int))) b ∧ ∀ i, i < 8 → BT (bOr (bShl 1 ((a : Nat) : Int)) (bShl 1 ((b : Nat) : Int))) i → i = a ∨ i = b := by decide +kernel
/-- the bits of SPR as the class tells them -/
theorem SPR_bits {F : FG} {Q : QG} {num a b x : Int} (hm : gm F ≤ 8) (h : SPR F Q num a b) (hb : (num = 0 ∧ x = 0) ∨ (num = 1 ∧ x = bShl 1 a) ∨ (num = 2 ∧ x = bOr (bShl 1 a) (bShl 1 b)) ∨ (num = -1 ∧ x = -1)) : (num = -1 ∧ x = -1) ∨ (num ≠ -1 ∧ 0 ≤ x ∧ x < 256 ∧ PCN x = num ∧ (∀ y, NTH x 0 y → y = a) ∧ ∀ y, NTH x 1 y → y = b) := by
  rcases h with ⟨-, g2, g3, g4⟩ | ⟨-, ⟨i, g1, -, -, g2, g3, g4⟩ | ⟨-, ⟨i, j, g0, g1, -, -, g2, g3, g4⟩ | ⟨-, g2, g3, g4⟩⟩⟩
  · right
    have hx : x = 0 := by omega
    subst hx
    refine ⟨by omega, by omega, by omega, by rw [PCN_0]; omega, fun y hy => ?_, fun y hy => ?_⟩ <;> rcases hy with ⟨k, -, -, q, -⟩ | ⟨q, -⟩
    · exact absurd q (BT_0 k)
    · omega
    · exact absurd q (BT_0 k)
    · omega
  · right
    have hx : x = bShl 1 ((i : Nat) : Int) := by rw [← g3]; omega
    have q8 := bShl_lt (k := (i : Int)) (n := 8) (by omega) (by omega)
    obtain ⟨t1, t2, t3, t4⟩ := sp_t1 i (by omega)
    rw [← hx] at q8 t1 t2 t3 t4
    refine ⟨by omega, by omega, by omega, by omega, fun y hy => ?_, fun y hy => ?_⟩ <;> rcases hy with ⟨k, k1, k2, q, k3⟩ | ⟨q, k1⟩
    · have := t4 k k1 q; omega
    · exact absurd t2 (k1 i (by omega) t3)
    · have := t4 k k1 q; subst this; omega
    · omega
  · right
    have hx : x = bOr (bShl 1 ((i : Nat) : Int)) (bShl 1 ((j : Nat) : Int)) := by rw [← g3, ← g4]; omega
    have q1 := bShl_lt (k := (i : Int)) (n := 8) (by omega) (by omega)
    have q2 := bShl_lt (k := (j : Int)) (n := 8) (by omega) (by omega)
    have q8 := bOr_lt (n := 8) (by omega) q1 q2
    obtain ⟨t1, t2, t3, t4, t5, t6⟩ := sp_t2 j (by omega) i g0
    rw [← hx] at q8 t1 t2 t3 t4 t5 t6
    refine ⟨by omega, by omega, by omega, by omega, fun y hy => ?_, fun y hy => ?_⟩ <;> rcases hy with ⟨k, k1, k2, q, k3⟩ | ⟨q, k1⟩
    · rcases t6 k k1 q with e | e <;> subst e <;> omega
    · exact absurd t2 (k1 i (by omega) t4)
    · rcases t6 k k1 q with e | e <;> subst e <;> omega
    · exact absurd t3 (k1 j (by omega) t5)
  · left; omega
