/-! the reference: standing, night by night -/
theorem SWT_in {n : Nat} {G N T : Nat → Int} {night town : Int} (hn : n ≤ 12) (hG : ∀ j, 0 ≤ G j ∧ G j ≤ 3) : 0 ≤ SWT n G N T night town ∧ SWT n G N T night town ≤ 36 := by
  unfold SWT
  have h1 := sm_ge (f := fun i => if T i = town ∧ N i ≤ night then G i else 0) (n := n) (fun j _ => by have := hG j; split <;> omega)
  have h2 := sm_le (f := fun i => if T i = town ∧ N i ≤ night then G i else 0) (n := n) (b := 3) (fun j _ => by have := hG j; split <;> omega)
  omega
theorem LET_in {m : Nat} {K EN EX : Nat → Int} {b night town : Int} (hm : m ≤ 8) : 0 ≤ LET m K EN EX b night town ∧ LET m K EN EX b night town ≤ 24 := by
  unfold LET
  have h1 := sm_ge (f := fun e => if K e = 2 ∧ EX e = town ∧ b ≤ EN e ∧ EN e ≤ night then (3 : Int) else 0) (n := m) (fun j _ => by split <;> omega)
  have h2 := sm_le (f := fun e => if K e = 2 ∧ EX e = town ∧ b ≤ EN e ∧ EN e ≤ night then (3 : Int) else 0) (n := m) (b := 3) (fun j _ => by split <;> omega)
  omega
theorem sm_z {f : Nat → Int} {n : Nat} (h : ∀ j, j < n → f j = 0) : sm f n = 0 := by
  induction n with
  | zero => rfl
  | succ n ih => rw [sm_s, ih (fun j hj => h j (by omega)), h n (by omega)]; rfl
theorem SWT_neg {n : Nat} {G N T : Nat → Int} {night town : Int} (hN : ∀ j, night < N j) : SWT n G N T night town = 0 := by
  unfold SWT
  exact sm_z (fun j _ => if_neg (by have := hN j; omega))
theorem LET_neg {m : Nat} {K EN EX : Nat → Int} {b night town : Int} (h : night < b) : LET m K EN EX b night town = 0 := by
  unfold LET
  exact sm_z (fun j _ => if_neg (by omega))
/-- c is the night in which a man came to be in town t, none: 24 -/
def CAM (n : Nat) (C N T : Nat → Int) (t c : Int) : Prop := (c = 24 ∧ BIR n C N T t (-1)) ∨ (0 ≤ c ∧ c ≤ 23 ∧ BIR n C N T t c)
theorem CAM_0 {C N T : Nat → Int} {t : Int} : CAM (0 : Int).toNat C N T t 24 := Or.inl ⟨rfl, Or.inl ⟨rfl, fun i h => absurd h (Nat.not_lt_zero i)⟩⟩
theorem CAM_n {C N T : Nat → Int} {i t c : Int} (hi : 0 ≤ i) (hn : ¬ (C i.toNat = 1 ∧ T i.toNat = t)) (h : CAM i.toNat C N T t c) : CAM (i + 1).toNat C N T t c := by
  rcases h with ⟨h1, h2⟩ | ⟨h1, h2, h3⟩
  · exact Or.inl ⟨h1, BIR_n hi hn h2⟩
  · exact Or.inr ⟨h1, h2, BIR_n hi hn h3⟩
theorem CAM_y {C N T : Nat → Int} {i t c : Int} (hi : 0 ≤ i) (hc : C i.toNat = 1) (ht : T i.toNat = t) (hN : ∀ j, 0 ≤ N j ∧ N j ≤ 23) (hlt : N i.toNat < c) (h : CAM i.toNat C N T t c) : CAM (i + 1).toNat C N T t (N i.toNat) := by
  have q := hN i.toNat
  rcases h with ⟨h1, h2⟩ | ⟨h1, h2, h3⟩
  · exact Or.inr ⟨q.1, q.2, BIR_1 hi hc ht (fun j => (hN j).1) rfl h2⟩
  · exact Or.inr ⟨q.1, q.2, BIR_3 hi hc ht (by omega) hlt h3⟩
theorem CAM_k {C N T : Nat → Int} {i t c : Int} (hi : 0 ≤ i) (hc : C i.toNat = 1) (ht : T i.toNat = t) (hN : ∀ j, 0 ≤ N j ∧ N j ≤ 23) (hle : c ≤ N i.toNat) (h : CAM i.toNat C N T t c) : CAM (i + 1).toNat C N T t c := by
  have q := hN i.toNat
  rcases h with ⟨h1, h2⟩ | ⟨h1, h2, h3⟩
  · omega
  · exact Or.inr ⟨h1, h2, BIR_2 hi hc ht (by omega) hle h3⟩
theorem CAM_b {n : Nat} {C N T : Nat → Int} {t c : Int} (h : CAM n C N T t c) : ∃ b, BIR n C N T t b ∧ ((c = 24 ∧ b = -1) ∨ (0 ≤ c ∧ c ≤ 23 ∧ b = c)) := by
  rcases h with ⟨h1, h2⟩ | ⟨h1, h2, h3⟩
  · exact ⟨_, h2, Or.inl ⟨h1, rfl⟩⟩
  · exact ⟨_, h3, Or.inr ⟨h1, h2, rfl⟩⟩
theorem STD_lt {n m : Nat} {b c : Int} {G N T K EN EX : Nat → Int} {night town : Int} (hcb : (c = 24 ∧ b = -1) ∨ (0 ≤ c ∧ c ≤ 23 ∧ b = c)) (h : night < c) : STD n m b G N T K EN EX night town = -1 := by
  unfold STD
  rw [if_pos (by omega)]
theorem STD_gt {n m : Nat} {b c : Int} {G N T K EN EX : Nat → Int} {night town : Int} (hcb : (c = 24 ∧ b = -1) ∨ (0 ≤ c ∧ c ≤ 23 ∧ b = c)) (h : c ≤ night) (hk : night ≤ 23) : STD n m b G N T K EN EX night town = min 40 (night - c + SWT n G N T night town + LET m K EN EX c night town) := by
  unfold STD
  rw [if_neg (by omega), show b = c by omega]
theorem RNK_a {s : Int} (h : s = -1) : RNK s = 0 := by unfold RNK; rw [if_pos h]
theorem RNK_b {s : Int} (h : 0 ≤ s ∧ s < 6) : RNK s = 1 := by unfold RNK; rw [if_neg (by omega), if_pos (by omega)]
theorem RNK_d {s : Int} (h : 6 ≤ s ∧ s < 15) : RNK s = 2 := by unfold RNK; rw [if_neg (by omega), if_neg (by omega), if_pos (by omega)]
theorem RNK_e {s : Int} (h : 15 ≤ s) : RNK s = 3 := by unfold RNK; rw [if_neg (by omega), if_neg (by omega), if_neg (by omega)]
/-- the reference's rows for town t and night k -/
def SEQ (n m : Nat) (b : Int) (G N T K EN EX A B R : Nat → Int) (t : Int) (k : Nat) : Prop := A (24 * t.toNat + k) = WIN n G N T (k : Int) t ∧ B (24 * t.toNat + k) = max 0 (STD n m b G N T K EN EX (k : Int) t) ∧ R (24 * t.toNat + k) = RNK (STD n m b G N T K EN EX (k : Int) t)
theorem SEQ_k {n m : Nat} {b : Int} {G N T K EN EX A B R A' B' R' : Nat → Int} {t : Int} {k : Nat} (h : SEQ n m b G N T K EN EX A B R t k) (h1 : A' (24 * t.toNat + k) = A (24 * t.toNat + k)) (h2 : B' (24 * t.toNat + k) = B (24 * t.toNat + k)) (h3 : R' (24 * t.toNat + k) = R (24 * t.toNat + k)) : SEQ n m b G N T K EN EX A' B' R' t k := by
  unfold SEQ at h ⊢
  rw [h1, h2, h3]
  exact h
theorem SEQ_mk {n m : Nat} {b : Int} {G N T K EN EX A B R : Nat → Int} {t x : Int} {i : Nat} (hx : 0 ≤ x) (hi : i = 24 * t.toNat + x.toNat) (h1 : A i = WIN n G N T x t) (h2 : B i = max 0 (STD n m b G N T K EN EX x t)) (h3 : R i = RNK (STD n m b G N T K EN EX x t)) : SEQ n m b G N T K EN EX A B R t x.toNat := by
  unfold SEQ
  rw [← hi, show ((x.toNat : Nat) : Int) = x by omega]
  exact ⟨h1, h2, h3⟩
/-- of the first of the greatest: the greatest -/
theorem AMX_mx {f : Nat → Int} {own : Int} (hf : ∀ t, 0 ≤ f t) : ∀ (n : Nat) (x y : Int), AMX (GX own f) (-1) n x y → (x = -1 ∧ MXO f own n = 0) ∨ (0 ≤ x ∧ y = MXO f own n)
  | 0, x, y, h => by
    rcases h with ⟨h1, h2, h3⟩ | ⟨a, h1, _⟩
    · exact Or.inl ⟨h1, rfl⟩
    · exact absurd h1 (Nat.not_lt_zero a)
  | n + 1, x, y, h => by
    have hex : ∃ x' y', AMX (GX own f) (-1) n x' y' := by
      rcases h with ⟨h1, h2, h3⟩ | ⟨a, h1, h2, h3, h4, h5, h6⟩
      · exact ⟨-1, -1, Or.inl ⟨rfl, rfl, fun b hb => h3 b (by omega)⟩⟩
      · clear h1 h2 h3 h4 h5 h6
        induction n with
        | zero => exact ⟨-1, -1, AMX_0 _ _⟩
        | succ n ih =>
          obtain ⟨x', y', q⟩ := ih
          by_cases c : y' < GX own f n
          · exact ⟨_, _, AMX_up (i := (n : Int)) (by omega) q c⟩
          · exact ⟨_, _, AMX_no (i := (n : Int)) (by omega) q (Int.not_lt.mp c)⟩
    obtain ⟨x', y', q⟩ := hex
    have ih := AMX_mx hf n x' y' q
    have hg := AMX_ge q
    have hfn := hf n
    by_cases e : (n : Int) = own
    · have g1 : GX own f n = -1 := by unfold GX; rw [if_pos e]
      have q2 := AMX_no (i := (n : Int)) (by omega) q (by rw [show (n : Int).toNat = n by omega, g1]; exact hg)
      rw [show ((n : Int) + 1).toNat = n + 1 by omega] at q2
      obtain ⟨e1, e2⟩ := AMX_u (fun _ _ => rfl) h q2
      rw [show MXO f own (n + 1) = MXO f own n by show (if (n : Int) = own then _ else _) = _; rw [if_pos e], e1, e2]
      exact ih
    · have g1 : GX own f n = f n := by unfold GX; rw [if_neg e]
      rw [show MXO f own (n + 1) = max (MXO f own n) (f n) by show (if (n : Int) = own then _ else _) = _; rw [if_neg e]]
      by_cases c : y' < f n
      · have q2 := AMX_up (i := (n : Int)) (by omega) q (by rw [show (n : Int).toNat = n by omega, g1]; exact c)
        rw [show ((n : Int) + 1).toNat = n + 1 by omega, show (n : Int).toNat = n by omega, g1] at q2
        obtain ⟨e1, e2⟩ := AMX_u (fun _ _ => rfl) h q2
        right
        rcases ih with ih | ih <;> omega
      · have q2 := AMX_no (i := (n : Int)) (by omega) q (by rw [show (n : Int).toNat = n by omega, g1]; omega)
        rw [show ((n : Int) + 1).toNat = n + 1 by omega] at q2
        obtain ⟨e1, e2⟩ := AMX_u (fun _ _ => rfl) h q2
        rcases ih with ih | ih
        · rcases q with ⟨k1, k2, k3⟩ | ⟨a, k1, k2, k3, k4⟩ <;> omega
        · right; omega
theorem AMX_8 {f : Nat → Int} {own x y : Int} (hf : ∀ t, 0 ≤ f t) (h : AMX (GX own f) (-1) 8 x y) : 0 ≤ x ∧ x < 8 ∧ y = MXO f own 8 ∧ y = f x.toNat := by
  rcases h with ⟨h1, h2, h3⟩ | ⟨a, h1, h2, h3, h4, h5, h6⟩
  · exfalso
    have q0 := h3 0 (by omega)
    have q1 := h3 1 (by omega)
    unfold GX at q0 q1
    have f0 := hf 0
    have f1 := hf 1
    by_cases e : ((0 : Nat) : Int) = own
    · rw [if_neg (by omega)] at q1; omega
    · rw [if_neg e] at q0; omega
  · have h := AMX_mx hf 8 x y (Or.inr ⟨a, h1, h2, h3, h4, h5, h6⟩)
    have ea : x.toNat = a := by omega
    have eg : GX own f a = f a := by
      unfold GX at h4 ⊢
      by_cases e : (a : Int) = own
      · rw [if_pos e] at h4; omega
      · rw [if_neg e]
    rw [ea, ← eg]
    omega
theorem SEQ_blf {n m : Nat} {B G N T K EN EX A S R : Nat → Int} {night own : Int} (hn : 0 ≤ night ∧ night ≤ 23) (ho : 0 ≤ own ∧ own ≤ 7) (h : ∀ t : Nat, t < 8 → ∀ k, k < 24 → SEQ n m (B t) G N T K EN EX A S R (t : Int) k) : MXO (fun t => A (24 * t + night.toNat) * R (24 * t + night.toNat)) own 8 - A (24 * own.toNat + night.toNat) = BLF n m B G N T K EN EX night own := by
  unfold BLF
  have h1 := h own.toNat (by omega) night.toNat (by omega)
  unfold SEQ at h1
  rw [show ((own.toNat : Nat) : Int) = own by omega, show ((night.toNat : Nat) : Int) = night by omega] at h1
  rw [h1.1]
  congr 1
  refine MXO_c 8 (fun t ht => ?_)
  have h2 := h t ht night.toNat (by omega)
  unfold SEQ at h2
  rw [show ((t : Int)).toNat = t by omega, show ((night.toNat : Nat) : Int) = night by omega] at h2
  show A _ * R _ = SUP n m B G N T K EN EX night t
  unfold SUP
  rw [h2.1, h2.2.2]
