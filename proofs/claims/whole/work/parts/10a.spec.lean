/-! chances in the reference -/
def WTF (c s : Int) : Nat → Int
  | 0 => 1
  | e + 1 => WTF c s e * (if BT s e then 16 - c else c)
theorem WTF_i {c s i : Int} (h : 0 ≤ i) : WTF c s (i + 1).toNat = WTF c s i.toNat * (if BT s i.toNat then 16 - c else c) := by
  rw [tn_s h]
  rfl
theorem BLW_in (s : Int) (e : Nat) : 0 ≤ BLW s e ∧ BLW s e ≤ e := by
  unfold BLW
  have h1 := sm_ge (f := fun j => b2 (BT s j)) (n := e) (fun j _ => (b2_in _).1)
  have h2 := sm_le (f := fun j => b2 (BT s j)) (n := e) (b := 1) (fun j _ => (b2_in _).2)
  omega
theorem WTF_e {c s : Int} (hc : 0 ≤ c ∧ c ≤ 16) : ∀ e, WTF c s e = (((16 - c).toNat ^ (BLW s e).toNat * c.toNat ^ (e - (BLW s e).toNat) : Nat) : Int)
  | 0 => rfl
  | e + 1 => by
    have ih := WTF_e (s := s) hc e
    have hb := BLW_in s e
    have hs : BLW s (e + 1) = BLW s e + b2 (BT s e) := rfl
    unfold WTF
    rw [ih, hs]
    by_cases q : BT s e
    · rw [if_pos q, b2_t q, show (BLW s e + 1).toNat = (BLW s e).toNat + 1 by omega, show e + 1 - ((BLW s e).toNat + 1) = e - (BLW s e).toNat by omega, Nat.pow_succ]
      rw [show (16 - c : Int) = (((16 - c).toNat : Nat) : Int) by omega, ← Int.natCast_mul]
      rw [show (((((16 - c).toNat : Nat) : Int)).toNat) = (16 - c).toNat by omega]
      congr 1
      rw [Nat.mul_assoc, Nat.mul_comm (c.toNat ^ _), ← Nat.mul_assoc]
    · rw [if_neg q, b2_f q, Int.add_zero, show e + 1 - (BLW s e).toNat = (e - (BLW s e).toNat) + 1 by omega, Nat.pow_succ]
      have e1 : c = ((c.toNat : Nat) : Int) := by omega
      generalize c.toNat = cn at e1 ⊢
      subst e1
      rw [← Int.natCast_mul]
      congr 1
      rw [Nat.mul_assoc]
theorem WTF_in {c s : Int} (hc : 0 ≤ c ∧ c ≤ 16) {e : Nat} (he : e ≤ 8) : 0 ≤ WTF c s e ∧ WTF c s e ≤ 4294967296 := by
  rw [WTF_e hc]
  have hb := BLW_in s e
  have h1 := pow_le16 (b := (16 - c).toNat) (k := (BLW s e).toNat) (by omega) (by omega)
  have h2 := pow_le16 (b := c.toNat) (k := e - (BLW s e).toNat) (by omega) (by omega)
  have h3 := Nat.mul_le_mul h1.1 h2.1
  rw [← Nat.pow_add] at h3
  have h4 : (16 : Nat) ^ ((BLW s e).toNat + (e - (BLW s e).toNat)) ≤ 4294967296 := Nat.le_trans (Nat.pow_le_pow_right (by omega) (show _ ≤ 8 by omega)) (by decide)
  omega
theorem mul16 {a b : Int} (ha : 0 ≤ a ∧ a ≤ 4294967296) (hb : 0 ≤ b ∧ b ≤ 16) : 0 ≤ a * b ∧ a * b ≤ 68719476736 := by
  refine ⟨Int.mul_nonneg ha.1 hb.1, ?_⟩
  have := Int.mul_le_mul ha.2 hb.2 hb.1 (by omega)
  omega
theorem sm_tail {f : Nat → Int} {m : Nat} (h : ∀ k, m ≤ k → f k = 0) : ∀ d, sm f (m + d) = sm f m
  | 0 => rfl
  | d + 1 => by
    rw [show m + (d + 1) = (m + d) + 1 by omega, sm_s, sm_tail h d, h (m + d) (by omega)]
    omega
theorem BT_cmp {m s j : Nat} (hs : s < 2 ^ m) : BT (((2 ^ m - (s + 1) : Nat)) : Int) j ↔ j < m ∧ ¬ BT ((s : Nat) : Int) j := by
  unfold BT
  rw [Int.toNat_natCast, Int.toNat_natCast, Nat.testBit_two_pow_sub_succ hs]
  simp
theorem PCN_cmp {m s : Nat} (hm : m ≤ 8) (hs : s < 2 ^ m) : PCN (((2 ^ m - (s + 1) : Nat)) : Int) = m - BLW ((s : Nat) : Int) m := by
  unfold PCN
  have h1 := sm_tail (f := fun k => b2 (BT (((2 ^ m - (s + 1) : Nat)) : Int) k)) (m := m) (fun k hk => b2_f (fun q => by rw [BT_cmp hs] at q; omega)) (12 - m)
  rw [show m + (12 - m) = 12 by omega] at h1
  rw [h1]
  have key : ∀ n, n ≤ m → sm (fun k => b2 (BT (((2 ^ m - (s + 1) : Nat)) : Int) k)) n = n - BLW ((s : Nat) : Int) n := by
    intro n
    induction n with
    | zero => intro _; rfl
    | succ n ih =>
      intro hn
      have e := ih (by omega)
      rw [sm_s, e, show BLW ((s : Nat) : Int) (n + 1) = BLW ((s : Nat) : Int) n + b2 (BT ((s : Nat) : Int) n) from rfl]
      by_cases q : BT ((s : Nat) : Int) n
      · rw [b2_t q, b2_f (fun z => ((BT_cmp hs).mp z).2 q)]; omega
      · rw [b2_f q, b2_t ((BT_cmp hs).mpr ⟨by omega, q⟩)]; omega
  exact key m (Nat.le_refl m)
/-- the reference's weight of a set left out is the class's of what is held -/
theorem WTF_pwr {c : Int} {m s : Nat} (hc : 0 ≤ c ∧ c ≤ 16) (hm : m ≤ 8) (hs : s < 2 ^ m) : WTF c ((s : Nat) : Int) m = PWR c m (((2 ^ m - (s + 1) : Nat)) : Int) := by
  have hb := BLW_in ((s : Nat) : Int) m
  rw [WTF_e hc]
  unfold PWR
  rw [PCN_cmp hm hs, show ((m : Int) - BLW ((s : Nat) : Int) m).toNat = m - (BLW ((s : Nat) : Int) m).toNat by omega, show m - (m - (BLW ((s : Nat) : Int) m).toNat) = (BLW ((s : Nat) : Int) m).toNat by omega, Nat.mul_comm]
theorem KEN_KEF {K : Nat → Int} {m s e : Nat} (hs : s < 2 ^ m) (he : e < m) : KEN ((s : Nat) : Int) K e = KEF (((2 ^ m - (s + 1) : Nat)) : Int) K e := by
  unfold KEN KEF
  by_cases q : BT ((s : Nat) : Int) e
  · rw [if_pos q, if_neg (fun z => ((BT_cmp hs).mp z).2 q)]
  · rw [if_neg q, if_pos ((BT_cmp hs).mpr ⟨he, q⟩)]
theorem sm_hd {f : Nat → Int} : ∀ n, sm f (n + 1) = f 0 + sm (fun i => f (i + 1)) n
  | 0 => by show 0 + f 0 = f 0 + 0; omega
  | n + 1 => by rw [sm_s, sm_hd n, sm_s]; omega
theorem sm_rev : ∀ (n : Nat) (f : Nat → Int), sm (fun s => f (n - (s + 1))) n = sm f n
  | 0, _ => rfl
  | n + 1, f => by
    rw [sm_s, sm_hd, show n + 1 - (n + 1) = 0 by omega, sm_c (g := fun s => (fun i => f (i + 1)) (n - (s + 1))) (fun s hs => by show f _ = f _; congr 1; omega), sm_rev n (fun i => f (i + 1))]
    omega
noncomputable def gCH (F : FG) (Q : QG) (c : Int) (j h : Nat) : Int := bC (BT (fCB (-1) (setK F (KEF (h : Int) (gK F))) Q) j) * PWR c (gm F) (h : Int)
theorem gCH_sum {F : FG} {Q : QG} {c : Int} {j : Nat} : sm (fun s => gCH F Q c j (2 ^ gm F - (s + 1))) (2 ^ gm F) = fFAV F Q c j := sm_rev (2 ^ gm F) (gCH F Q c j)
/-! lowest terms by the greatest common measure -/
theorem LOW_ex : ∀ (e : Nat) (s : Int), 0 ≤ s → ∃ a t, LOW s e a t
  | 0, s, h => ⟨s, 0, by omega, h, by rw [show 0 - 0 = 0 from rfl]; omega, Or.inl rfl⟩
  | e + 1, s, h => by
    by_cases q : s % 2 = 1
    · refine ⟨s, e + 1, by omega, h, ?_, Or.inr q⟩
      rw [Nat.sub_self]
      omega
    · obtain ⟨a, t, h1, h2, h3, h4⟩ := LOW_ex e (s / 2) (by omega)
      refine ⟨a, t, by omega, h2, ?_, h4⟩
      rw [show e + 1 - t = (e - t) + 1 by omega, Nat.pow_succ, Int.natCast_mul, ← Int.mul_assoc, h3]
      show s / 2 * 2 = s
      omega
theorem LOW_gcd {s : Int} {e g : Nat} (hs : 0 ≤ s) (hg : g = Nat.gcd s.toNat (2 ^ e)) : ∃ t, LOW s e (s / (g : Int)) t ∧ ((2 ^ e : Nat) : Int) / (g : Int) = ((2 ^ t : Nat) : Int) := by
  obtain ⟨a, t, hl⟩ := LOW_ex e s hs
  have hl2 := hl
  obtain ⟨h1, h2, h3, h4⟩ := hl
  have e1 : s.toNat = a.toNat * 2 ^ (e - t) := by
    have e0 : ((a.toNat * 2 ^ (e - t) : Nat) : Int) = s := by rw [Int.natCast_mul, show ((a.toNat : Nat) : Int) = a by omega]; exact h3
    omega
  have e2 : 2 ^ e = 2 ^ t * 2 ^ (e - t) := by rw [← Nat.pow_add]; congr 1; omega
  have e3 : Nat.gcd a.toNat (2 ^ t) = 1 := by
    rcases h4 with q | q
    · rw [q]; simp
    · refine Nat.Coprime.pow_right t ?_
      show Nat.gcd a.toNat 2 = 1
      rw [Nat.gcd_comm, Nat.gcd_rec, show a.toNat % 2 = 1 by omega]
      rfl
  have e4 : g = 2 ^ (e - t) := by rw [hg, e1, e2, Nat.gcd_mul_right, e3, Nat.one_mul]
  have hp : ((g : Nat) : Int) ≠ 0 := by rw [e4]; have := Nat.two_pow_pos (e - t); omega
  refine ⟨t, ?_, ?_⟩
  · have e5 : s / (g : Int) = a := by
      rw [← h3, ← e4]
      exact Int.mul_ediv_cancel a hp
    rw [e5]; exact hl2
  · rw [e2, Int.natCast_mul, ← e4]
    exact Int.mul_ediv_cancel _ hp
theorem gcd_step {x y : Int} (hx : 0 ≤ x) (hy : 0 < y) : Nat.gcd y.toNat (x % y).toNat = Nat.gcd x.toNat y.toNat := by
  have e : (x % y).toNat = x.toNat % y.toNat := by
    obtain ⟨a, rfl⟩ := Int.eq_ofNat_of_zero_le hx
    obtain ⟨b, rfl⟩ := Int.eq_ofNat_of_zero_le (Int.le_of_lt hy)
    rfl
  rw [e, Nat.gcd_comm y.toNat, ← Nat.gcd_rec, Nat.gcd_comm]
