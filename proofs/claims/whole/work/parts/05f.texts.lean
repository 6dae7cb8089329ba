/-! texts: which byte may stand at which place of a part; the fault; what is told -/
abbrev FIT (st p b : Int) : Prop := (p = st - 1 ∧ b = 59) ∨ (p ≠ st - 1 ∧ p = 0 ∧ 97 ≤ b ∧ b ≤ 120) ∨ (p ≠ st - 1 ∧ p = 1 ∧ 48 ≤ b ∧ b ≤ 55) ∨ (p ≠ st - 1 ∧ p = 2 ∧ 48 ≤ b ∧ b ≤ 57) ∨ (p ≠ st - 1 ∧ p ≠ 0 ∧ p ≠ 1 ∧ p ≠ 2 ∧ (b = 115 ∨ b = 100 ∨ b = 107))
abbrev FITa (st : Nat) (B : Nat → Int) (a : Nat) : Prop := FIT (st : Int) ((a % st : Nat) : Int) (B a)
/-- no fault -/
def NF (st n : Nat) (B : Nat → Int) : Prop := (∀ a, a < n → FITa st B a) ∧ (n = 0 ∨ n % st = st - 1)
def FLT (st n : Nat) (B : Nat → Int) (x : Int) : Prop := (∃ a : Nat, a < n ∧ x = (a : Int) ∧ ¬ FITa st B a ∧ ∀ b, b < a → FITa st B b) ∨ ((∀ a, a < n → FITa st B a) ∧ (((n = 0 ∨ n % st = st - 1) ∧ x = -1) ∨ (¬ (n = 0 ∨ n % st = st - 1) ∧ x = (n : Int))))
theorem FLT_nf {st n : Nat} {B : Nat → Int} {x : Int} (h : FLT st n B x) : x = -1 ↔ NF st n B := by
  unfold NF
  rcases h with ⟨a, h1, h2, h3, h4⟩ | ⟨h1, ⟨h2, h3⟩ | ⟨h2, h3⟩⟩
  · constructor
    · intro h; omega
    · rintro ⟨g1, g2⟩; exact absurd (g1 a h1) h3
  · exact ⟨fun _ => ⟨h1, h2⟩, fun _ => h3⟩
  · constructor
    · intro h; omega
    · rintro ⟨g1, g2⟩; exact absurd g2 h2
theorem FLT_u {st n : Nat} {B B' : Nat → Int} {x x' : Int} (he : ∀ a, a < n → B a = B' a) (h : FLT st n B x) (h' : FLT st n B' x') : x = x' := by
  have hf : ∀ a, a < n → (FITa st B a ↔ FITa st B' a) := by
    intro a ha
    unfold FITa
    rw [he a ha]
  rcases h with ⟨a, h1, h2, h3, h4⟩ | ⟨h1, h2⟩ <;> rcases h' with ⟨a', k1, k2, k3, k4⟩ | ⟨k1, k2⟩
  · rcases Nat.lt_trichotomy a a' with q | q | q
    · exact absurd ((hf a h1).mpr (k4 a q)) h3
    · omega
    · exact absurd ((hf a' k1).mp (h4 a' q)) k3
  · exact absurd ((hf a h1).mpr (k1 a h1)) h3
  · exact absurd ((hf a' k1).mp (h1 a' k1)) k3
  · omega
def SRT (b : Int) : Int := if b = 115 then 0 else if b = 100 then 1 else 2
/-- the tales as told by a text of n bytes B -/
def TOLD (n : Nat) (B : Nat → Int) (sz : Int) (N T W S : Nat → Int) : Prop := (NF 5 n B → sz = ((n + 1) / 5 : Nat)) ∧ (¬ NF 5 n B → sz = 0) ∧ ∀ i : Nat, (i : Int) < sz → N i = B (5 * i) - 97 ∧ T i = B (5 * i + 1) - 48 ∧ W i = B (5 * i + 2) - 48 ∧ S i = SRT (B (5 * i + 3))
def CHAR (n : Nat) (B : Nat → Int) (sz : Int) (N T : Nat → Int) : Prop := (NF 3 n B → sz = ((n + 1) / 3 : Nat)) ∧ (¬ NF 3 n B → sz = 0) ∧ ∀ i : Nat, (i : Int) < sz → N i = B (3 * i) - 97 ∧ T i = B (3 * i + 1) - 48
theorem fit5 {n i : Nat} {B : Nat → Int} (h : ∀ a, a < n → FITa 5 B a) (hi : 5 * i + 3 < n) : (97 ≤ B (5 * i) ∧ B (5 * i) ≤ 120) ∧ (48 ≤ B (5 * i + 1) ∧ B (5 * i + 1) ≤ 55) ∧ (48 ≤ B (5 * i + 2) ∧ B (5 * i + 2) ≤ 57) ∧ (B (5 * i + 3) = 115 ∨ B (5 * i + 3) = 100 ∨ B (5 * i + 3) = 107) := by
  have h0 := h (5 * i) (by omega)
  have h1 := h (5 * i + 1) (by omega)
  have h2 := h (5 * i + 2) (by omega)
  have h3 := h (5 * i + 3) (by omega)
  unfold FITa FIT at h0 h1 h2 h3
  rw [show (5 * i) % 5 = 0 by omega] at h0
  rw [show (5 * i + 1) % 5 = 1 by omega] at h1
  rw [show (5 * i + 2) % 5 = 2 by omega] at h2
  rw [show (5 * i + 3) % 5 = 3 by omega] at h3
  omega
theorem fit3 {n i : Nat} {B : Nat → Int} (h : ∀ a, a < n → FITa 3 B a) (hi : 3 * i + 1 < n) : (97 ≤ B (3 * i) ∧ B (3 * i) ≤ 120) ∧ (48 ≤ B (3 * i + 1) ∧ B (3 * i + 1) ≤ 55) := by
  have h0 := h (3 * i) (by omega)
  have h1 := h (3 * i + 1) (by omega)
  unfold FITa FIT at h0 h1
  rw [show (3 * i) % 3 = 0 by omega] at h0
  rw [show (3 * i + 1) % 3 = 1 by omega] at h1
  omega
