/-! bits of numbers from 0 on -/
theorem fb_and (a b : Nat) : nI a &&& nI b = nI (a &&& b) := by
  apply Int32.toBitVec_inj.1
  show BitVec.ofNat 32 a &&& BitVec.ofNat 32 b = BitVec.ofNat 32 (a &&& b)
  apply BitVec.eq_of_getLsbD_eq
  intro i hi
  simp [hi]
theorem fb_or (a b : Nat) : nI a ||| nI b = nI (a ||| b) := by
  apply Int32.toBitVec_inj.1
  show BitVec.ofNat 32 a ||| BitVec.ofNat 32 b = BitVec.ofNat 32 (a ||| b)
  apply BitVec.eq_of_getLsbD_eq
  intro i hi
  simp [hi]
theorem fb_andn (a b : Nat) : nI a &&& (nI b ^^^ i32 (-1)) = nI (a ^^^ (a &&& b)) := by
  apply Int32.toBitVec_inj.1
  show BitVec.ofNat 32 a &&& (BitVec.ofNat 32 b ^^^ BitVec.ofInt 32 (-1)) = BitVec.ofNat 32 (a ^^^ (a &&& b))
  rw [show BitVec.ofInt 32 (-1) = BitVec.allOnes 32 by decide +kernel]
  apply BitVec.eq_of_getLsbD_eq
  intro i hi
  simp only [BitVec.getLsbD_and, BitVec.getLsbD_xor, BitVec.getLsbD_allOnes, BitVec.getLsbD_ofNat, hi, decide_true, Bool.true_and, Nat.testBit_xor, Nat.testBit_and]
  cases a.testBit i <;> cases b.testBit i <;> rfl
theorem fb_sl : ∀ n, n < 32 → ((nI n &&& 31).toBitVec.smod 32).toNat = n := by decide +kernel
theorem fb_su : ∀ n, n < 32 → (((nI n).toUInt32 &&& Int32.toUInt32 31).toBitVec % 32).toNat = n := by decide +kernel
theorem i32_nI {x : Int} (h : 0 ≤ x) : i32 x = nI x.toNat := by
  obtain ⟨n, rfl⟩ := Int.eq_ofNat_of_zero_le h
  exact Int32.toBitVec_inj.1 (BitVec.ofInt_natCast 32 n)
theorem nI_I {n : Nat} (h : n < 2147483648) : (nI n).toInt = (n : Int) := nI_toInt h
abbrev BT (x : Int) (k : Nat) : Prop := x.toNat.testBit k = true
theorem bAnd_n {x y : Int} (hx : 0 ≤ x ∧ x < 2147483648) (hy : 0 ≤ y) : bAnd x y = ((x.toNat &&& y.toNat : Nat) : Int) := by
  unfold bAnd
  have h1 : x.toNat &&& y.toNat ≤ x.toNat := Nat.and_le_left
  rw [i32_nI hx.1, i32_nI hy, fb_and, nI_I (by omega)]
theorem bOr_n {x y : Int} (hx : 0 ≤ x ∧ x < 2147483648) (hy : 0 ≤ y ∧ y < 2147483648) : bOr x y = ((x.toNat ||| y.toNat : Nat) : Int) := by
  unfold bOr
  have h1 : x.toNat ||| y.toNat < 2 ^ 31 := Nat.or_lt_two_pow (by omega) (by omega)
  rw [i32_nI hx.1, i32_nI hy.1, fb_or, nI_I (by omega)]
theorem bAndn_n {x y : Int} (hx : 0 ≤ x ∧ x < 2147483648) (hy : 0 ≤ y ∧ y < 2147483648) : bAnd x (bXor y (-1)) = ((x.toNat ^^^ (x.toNat &&& y.toNat) : Nat) : Int) := by
  unfold bAnd bXor
  have h1 : x.toNat ^^^ (x.toNat &&& y.toNat) < 2 ^ 31 := Nat.xor_lt_two_pow (by omega) (Nat.and_lt_two_pow _ (by omega))
  rw [i32_of, i32_nI hx.1, i32_nI hy.1, fb_andn, nI_I (by omega)]
theorem bShl_1 {k : Int} (hk : 0 ≤ k ∧ k < 31) : bShl 1 k = ((2 ^ k.toNat : Nat) : Int) := by
  unfold bShl
  have h1 : 2 ^ k.toNat < 2 ^ 31 := Nat.pow_lt_pow_right (by omega) (by omega)
  rw [i32_nI hk.1, i32_nI (show (0 : Int) ≤ 1 by omega), pk_shlN (n := (1 : Int).toNat) _ k.toNat (fb_sl _ (by omega)) (by show 1 * 2 ^ k.toNat < 2 ^ 32; omega)]
  rw [show (1 : Int).toNat * 2 ^ k.toNat = 2 ^ k.toNat from Nat.one_mul _, nI_I (by omega)]
theorem bShr_n {x k : Int} (hx : 0 ≤ x ∧ x < 2147483648) (hk : 0 ≤ k ∧ k < 32) : bShr x k = ((x.toNat / 2 ^ k.toNat : Nat) : Int) := by
  unfold bShr
  have h1 : x.toNat / 2 ^ k.toNat ≤ x.toNat := Nat.div_le_self _ _
  rw [i32_nI hk.1, i32_nI hx.1, pk_shrN (by omega) _ k.toNat (fb_sl _ (by omega)), nI_I (by omega)]
theorem bUsh_n {x k : Int} (hx : 0 ≤ x ∧ x < 2147483648) (hk : 0 ≤ k ∧ k < 32) : bUsh x k = ((x.toNat / 2 ^ k.toNat : Nat) : Int) := by
  unfold bUsh
  have h1 : x.toNat / 2 ^ k.toNat ≤ x.toNat := Nat.div_le_self _ _
  rw [i32_nI hk.1, i32_nI hx.1, pk_ushrN (by omega) _ k.toNat (fb_su _ (by omega)), nI_I (by omega)]
theorem isbit {x k : Int} (hx : 0 ≤ x ∧ x < 2147483648) (hk : 0 ≤ k ∧ k < 32) : bAnd (bShr x k) 1 = b2 (BT x k.toNat) := by
  have h1 : x.toNat / 2 ^ k.toNat ≤ x.toNat := Nat.div_le_self _ _
  rw [bShr_n hx hk]
  unfold b2 BT
  rw [Nat.testBit_eq_decide_div_mod_eq]
  generalize x.toNat / 2 ^ k.toNat = q at h1 ⊢
  rw [bAnd_n ⟨by omega, by omega⟩ (by omega)]
  show ((q &&& 1 : Nat) : Int) = _
  rw [Nat.and_one_is_mod]
  by_cases h : q % 2 = 1
  · rw [if_pos (by simp [h]), h]
    rfl
  · rw [if_neg (by simp [h]), show q % 2 = 0 by omega]
    rfl
theorem BT_or {x y : Int} (hx : 0 ≤ x ∧ x < 2147483648) (hy : 0 ≤ y ∧ y < 2147483648) {j : Nat} : BT (bOr x y) j ↔ BT x j ∨ BT y j := by
  unfold BT
  rw [bOr_n hx hy]
  simp [Nat.testBit_or]
theorem BT_and {x y : Int} (hx : 0 ≤ x ∧ x < 2147483648) (hy : 0 ≤ y) {j : Nat} : BT (bAnd x y) j ↔ BT x j ∧ BT y j := by
  unfold BT
  rw [bAnd_n hx hy]
  simp [Nat.testBit_and]
theorem BT_andn {x y : Int} (hx : 0 ≤ x ∧ x < 2147483648) (hy : 0 ≤ y ∧ y < 2147483648) {j : Nat} : BT (bAnd x (bXor y (-1))) j ↔ BT x j ∧ ¬ BT y j := by
  unfold BT
  rw [bAndn_n hx hy]
  simp [Nat.testBit_xor, Nat.testBit_and]
theorem BT_shl {k : Int} (hk : 0 ≤ k ∧ k < 31) {j : Nat} : BT (bShl 1 k) j ↔ j = k.toNat := by
  unfold BT
  rw [bShl_1 hk, Int.toNat_natCast, Nat.testBit_two_pow]
  simp only [decide_eq_true_eq]
  exact eq_comm
theorem bOr_lt {x y : Int} {n : Nat} (hn : n ≤ 31) (hx : 0 ≤ x ∧ x < (2 ^ n : Nat)) (hy : 0 ≤ y ∧ y < (2 ^ n : Nat)) : 0 ≤ bOr x y ∧ bOr x y < (2 ^ n : Nat) := by
  have h2 : 2 ^ n ≤ 2 ^ 31 := Nat.pow_le_pow_right (by omega) hn
  rw [bOr_n (by omega) (by omega)]
  have h1 : x.toNat ||| y.toNat < 2 ^ n := Nat.or_lt_two_pow (by omega) (by omega)
  omega
theorem bShl_lt {k : Int} {n : Nat} (hn : n ≤ 31) (hk : 0 ≤ k ∧ k < n) : 0 ≤ bShl 1 k ∧ bShl 1 k < (2 ^ n : Nat) := by
  rw [bShl_1 (by omega)]
  have h1 : 2 ^ k.toNat < 2 ^ n := Nat.pow_lt_pow_right (by omega) (by omega)
  generalize 2 ^ k.toNat = q at h1 ⊢
  generalize 2 ^ n = q2 at h1 ⊢
  omega
theorem bAnd_lt {x y : Int} (hx : 0 ≤ x ∧ x < 2147483648) (hy : 0 ≤ y) : 0 ≤ bAnd x y ∧ bAnd x y ≤ x ∧ bAnd x y ≤ y := by
  rw [bAnd_n hx hy]
  have h1 : x.toNat &&& y.toNat ≤ x.toNat := Nat.and_le_left
  have h2 : x.toNat &&& y.toNat ≤ y.toNat := Nat.and_le_right
  omega
theorem bAndn_lt {x y : Int} {n : Nat} (hn : n ≤ 31) (hx : 0 ≤ x ∧ x < (2 ^ n : Nat)) (hy : 0 ≤ y ∧ y < 2147483648) : 0 ≤ bAnd x (bXor y (-1)) ∧ bAnd x (bXor y (-1)) < (2 ^ n : Nat) := by
  have h2 : 2 ^ n ≤ 2 ^ 31 := Nat.pow_le_pow_right (by omega) hn
  rw [bAndn_n (by omega) hy]
  have h1 : x.toNat ^^^ (x.toNat &&& y.toNat) < 2 ^ n := Nat.xor_lt_two_pow (by omega) (Nat.lt_of_le_of_lt Nat.and_le_left (by omega))
  omega
theorem BT_big {x : Int} {n k : Nat} (hx : x < (2 ^ n : Nat)) (hk : n ≤ k) : ¬ BT x k := by
  unfold BT
  have h2 : 2 ^ n ≤ 2 ^ k := Nat.pow_le_pow_right (by omega) hk
  have h3 := Nat.two_pow_pos n
  rw [Nat.testBit_lt_two_pow (by omega)]
  simp
/-- two numbers from 0 on with the same bits are one -/
theorem BT_ext {x y : Int} (hx : 0 ≤ x) (hy : 0 ≤ y) (h : ∀ k, BT x k ↔ BT y k) : x = y := by
  have h1 : x.toNat = y.toNat := by
    apply Nat.eq_of_testBit_eq
    intro i
    have h2 := h i
    unfold BT at h2
    cases ha : x.toNat.testBit i <;> cases hb : y.toNat.testBit i <;> simp [ha, hb] at h2 ⊢
  omega
theorem BT_0 (k : Nat) : ¬ BT 0 k := by
  unfold BT
  simp
/-- how many of the bits 0 .. 11 -/
def PCN (x : Int) : Int := sm (fun k => b2 (BT x k)) 12
/-- the memory but for some cells -/
def FR (l : List Nat) (M N : Mem) : Prop := ∀ a, a ∉ l → N a = M a
theorem FR.rf {l : List Nat} {M : Mem} : FR l M M := fun _ _ => rfl
theorem FR.put {l : List Nat} {M N M' : Mem} {k j : Nat} {v : Int} (h : FR l M N) (hM : M' = up N k j v) (hk : k ∈ l) : FR l M M' := by
  intro a ha
  rw [hM, up_off (show a ≠ k from fun e => ha (by rw [e]; exact hk))]
  exact h a ha
theorem FR.tr {l l2 : List Nat} {M N M' : Mem} (h : FR l M N) (h2 : FR l2 N M') (hs : ∀ a ∈ l2, a ∈ l) : FR l M M' := by
  intro a ha
  rw [h2 a (fun q => ha (hs a q)), h a ha]
theorem FR.mono {l l2 : List Nat} {M N : Mem} (h : FR l M N) (hs : ∀ a ∈ l, a ∈ l2) : FR l2 M N := fun a ha => h a (fun q => ha (hs a q))
theorem row_s {N M' : Mem} {k : Nat} {x v : Int} {g : Nat → Int} (hx : 0 ≤ x) (hM : M' = up N k x.toNat v) (h : ∀ e, e < x.toNat → N k e = g e) (hv : v = g x.toNat) : ∀ e, e < (x + 1).toNat → M' k e = g e := by
  intro e he
  rw [tn_s hx] at he
  rw [hM]
  by_cases h1 : e = x.toNat
  · rw [h1, up_at, hv]
  · rw [up_nj h1]
    exact h e (by omega)
theorem up_ne {M N : Mem} {k j a b : Nat} {v : Int} (hM : N = up M k j v) (h : a ≠ k ∨ b ≠ j) : N a b = M a b := by
  rw [hM]
  unfold up
  rw [if_neg (by omega)]
theorem up_eq {M N : Mem} {k j : Nat} {v : Int} (hM : N = up M k j v) : N k j = v := by rw [hM, up_at]
