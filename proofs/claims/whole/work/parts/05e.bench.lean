/-! the bench: tales (nights N, towns T, witnesses W, sorts S), events (kinds K as held to be, nights EN, numbers EX) -/
abbrev SPe (K EN EX N T W : Nat → Int) (i e : Nat) : Prop := (K e = 0 ∧ EX e = W i ∧ EN e ≤ N i) ∨ (K e = 1 ∧ EX e = T i ∧ EN e = N i)
def SPO (K EN EX N T W : Nat → Int) (m i : Nat) : Prop := ∃ e, e < m ∧ SPe K EN EX N T W i e
/-- an event's kind, -1 if it isn't held to be -/
def KEF (held : Int) (K : Nat → Int) (e : Nat) : Int := if BT held e then K e else -1
def OTH (n : Nat) (C N T W : Nat → Int) (i : Nat) : Int := sm (fun w => b2 ((w : Int) ≠ W i ∧ 0 < sm (fun j => b2 (C j = 1 ∧ N j = N i ∧ T j = T i ∧ W j = (w : Int))) n)) 10
def FAL (lo : Int) (n : Nat) (C W : Nat → Int) (w : Int) : Int := sm (fun j => b2 ((j : Int) ≠ lo ∧ W j = w ∧ C j = 0)) n
def WG (lo : Int) (n : Nat) (C N T W S : Nat → Int) (i : Nat) : Int := if S i = 0 then 3 else if S i = 1 then min 3 (1 + OTH n C N T W i) else if 0 < FAL lo n C W (W i) then 0 else 2
def WGT (lo : Int) (n : Nat) (C N T W S : Nat → Int) (i : Nat) : Int := if C i = 1 then WG lo n C N T W S i else 0
/-- which count: lo is left out -/
def CNT (lo : Int) (n m : Nat) (K EN EX N T W C : Nat → Int) : Prop := ∀ i, i < n → (C i = 1 ↔ ((i : Int) ≠ lo ∧ ¬ SPO K EN EX N T W m i ∧ ∀ a, a < i → ¬ (C a = 1 ∧ AP W T N a i)))
/-- b is the least night of a tale of town t that counts, none: -1 -/
def BIR (n : Nat) (C N T : Nat → Int) (t b : Int) : Prop := (b = -1 ∧ ∀ i, i < n → ¬ (C i = 1 ∧ T i = t)) ∨ ∃ i, i < n ∧ C i = 1 ∧ T i = t ∧ N i = b ∧ ∀ j, j < n → C j = 1 → T j = t → b ≤ N j
def SWT (n : Nat) (G N T : Nat → Int) (night town : Int) : Int := sm (fun i => if T i = town ∧ N i ≤ night then G i else 0) n
def LET (m : Nat) (K EN EX : Nat → Int) (b night town : Int) : Int := sm (fun e => if K e = 2 ∧ EX e = town ∧ b ≤ EN e ∧ EN e ≤ night then 3 else 0) m
def STD (n m : Nat) (b : Int) (G N T K EN EX : Nat → Int) (night town : Int) : Int := if b = -1 ∨ night < b then -1 else min 40 (night - b + SWT n G N T night town + LET m K EN EX b night town)
def RNK (s : Int) : Int := if s = -1 then 0 else if s < 6 then 1 else if s < 15 then 2 else 3
def WIN (n : Nat) (G N T : Nat → Int) (night town : Int) : Int := sm (fun i => if N i = night ∧ T i = town then G i else 0) n
/-- the greatest of f over those of 0 .. n - 1 that aren't own, 0 at least -/
def MXO (f : Nat → Int) (own : Int) : Nat → Int
  | 0 => 0
  | n + 1 => if (n : Int) = own then MXO f own n else max (MXO f own n) (f n)
/-- the first of the greatest -/
def FMX (f : Nat → Int) (n : Nat) (x : Int) : Prop := ∃ a : Nat, a < n ∧ x = (a : Int) ∧ (∀ b, b < a → f b < f a) ∧ ∀ b, b < n → f b ≤ f a
theorem OTH_in (n : Nat) (C N T W : Nat → Int) (i : Nat) : 0 ≤ OTH n C N T W i ∧ OTH n C N T W i ≤ 10 := by
  unfold OTH
  have h1 := sm_ge (f := fun w => b2 ((w : Int) ≠ W i ∧ 0 < sm (fun j => b2 (C j = 1 ∧ N j = N i ∧ T j = T i ∧ W j = (w : Int))) n)) (n := 10) (fun j _ => (b2_in _).1)
  have h2 := sm_le (f := fun w => b2 ((w : Int) ≠ W i ∧ 0 < sm (fun j => b2 (C j = 1 ∧ N j = N i ∧ T j = T i ∧ W j = (w : Int))) n)) (n := 10) (b := 1) (fun j _ => (b2_in _).2)
  omega
theorem FAL_in (lo : Int) (n : Nat) (C W : Nat → Int) (w : Int) : 0 ≤ FAL lo n C W w ∧ FAL lo n C W w ≤ n := by
  unfold FAL
  have h1 := sm_ge (f := fun j => b2 ((j : Int) ≠ lo ∧ W j = w ∧ C j = 0)) (n := n) (fun j _ => (b2_in _).1)
  have h2 := sm_le (f := fun j => b2 ((j : Int) ≠ lo ∧ W j = w ∧ C j = 0)) (n := n) (b := 1) (fun j _ => (b2_in _).2)
  omega
theorem WG_in (lo : Int) (n : Nat) (C N T W S : Nat → Int) (i : Nat) : 0 ≤ WG lo n C N T W S i ∧ WG lo n C N T W S i ≤ 3 := by
  have h := OTH_in n C N T W i
  unfold WG
  split
  · omega
  · split
    · omega
    · split <;> omega
theorem RNK_in (s : Int) : 0 ≤ RNK s ∧ RNK s ≤ 3 := by
  unfold RNK
  split
  · omega
  · split
    · omega
    · split <;> omega
/-- bits set by the first places: B has bit w just where some j below x has w -/
def HAS (P : Nat → Nat → Prop) (x : Nat) (w : Nat) : Prop := ∃ j, j < x ∧ P j w
theorem sm_pos {P : Nat → Prop} [DecidablePred P] {n : Nat} : 0 < sm (fun j => b2 (P j)) n ↔ ∃ j, j < n ∧ P j := by
  induction n with
  | zero => simp [sm]
  | succ n ih =>
    have h0 := sm_ge (f := fun j => b2 (P j)) (n := n) (fun j _ => (b2_in _).1)
    have h1 := b2_in (P n)
    rw [sm_s]
    constructor
    · intro h
      by_cases hp : P n
      · exact ⟨n, by omega, hp⟩
      · rw [b2_f hp] at h
        obtain ⟨j, hj, hq⟩ := ih.mp (by omega)
        exact ⟨j, by omega, hq⟩
    · rintro ⟨j, hj, hq⟩
      by_cases e : j = n
      · subst e
        rw [b2_t hq]
        omega
      · have := ih.mpr ⟨j, by omega, hq⟩
        omega
theorem sm_10 (f : Nat → Int) (h : ∀ k, 10 ≤ k → f k = 0) : sm f 12 = sm f 10 := by
  rw [sm_s f 11, sm_s f 10, h 10 (by omega), h 11 (by omega)]
  omega
theorem ex_s {P : Nat → Prop} {i : Int} (h : 0 ≤ i) : (∃ j, j < (i + 1).toNat ∧ P j) ↔ (∃ j, j < i.toNat ∧ P j) ∨ P i.toNat := by
  rw [tn_s h]
  constructor
  · rintro ⟨j, hj, hp⟩
    by_cases e : j = i.toNat
    · exact Or.inr (e ▸ hp)
    · exact Or.inl ⟨j, by omega, hp⟩
  · rintro (⟨j, hj, hp⟩ | hp)
    · exact ⟨j, by omega, hp⟩
    · exact ⟨_, by omega, hp⟩
theorem oth_pcn {n i : Nat} {C N T W : Nat → Int} {B v z : Int} (hB : 0 ≤ B ∧ B < 1024) (hv : v = W i) (hv2 : 0 ≤ v ∧ v ≤ 9) (hb : ∀ w : Nat, BT B w ↔ ∃ j, j < n ∧ (C j = 1 ∧ N j = N i ∧ T j = T i ∧ W j = (w : Int))) (hz : z = bAnd B (bXor (bShl 1 v) (-1))) : 0 ≤ z ∧ z < 4096 ∧ PCN z = OTH n C N T W i := by
  have hs := bShl_lt (k := v) (n := 10) (by omega) (by omega)
  have hl := bAndn_lt (x := B) (y := bShl 1 v) (n := 10) (by omega) (by omega) (by omega)
  rw [← hz] at hl
  refine ⟨hl.1, by omega, ?_⟩
  unfold PCN OTH
  rw [sm_10 _ (fun k hk => b2_f (BT_big (n := 10) hl.2 hk))]
  apply sm_c
  intro k hk
  apply b2_c
  rw [hz, BT_andn (by omega) (by omega), BT_shl (by omega), hb, sm_pos (P := fun j => C j = 1 ∧ N j = N i ∧ T j = T i ∧ W j = (k : Int))]
  constructor
  · rintro ⟨h1, h2⟩
    exact ⟨by omega, h1⟩
  · rintro ⟨h1, h2⟩
    exact ⟨h2, by omega⟩
theorem WIN_in {n : Nat} {G N T : Nat → Int} {night town : Int} (hn : n ≤ 12) (hG : ∀ j, 0 ≤ G j ∧ G j ≤ 3) : 0 ≤ WIN n G N T night town ∧ WIN n G N T night town ≤ 36 := by
  unfold WIN
  have h1 := sm_ge (f := fun i => if N i = night ∧ T i = town then G i else 0) (n := n) (fun j _ => by have := hG j; split <;> omega)
  have h2 := sm_le (f := fun i => if N i = night ∧ T i = town then G i else 0) (n := n) (b := 3) (fun j _ => by have := hG j; split <;> omega)
  omega
theorem mulb {a b : Int} (ha : 0 ≤ a ∧ a ≤ 36) (hb : 0 ≤ b ∧ b ≤ 3) : 0 ≤ a * b ∧ a * b ≤ 108 := by
  rcases (show b = 0 ∨ b = 1 ∨ b = 2 ∨ b = 3 by omega) with rfl | rfl | rfl | rfl <;> omega
def SUP (n m : Nat) (B G N T K EN EX : Nat → Int) (night : Int) (t : Nat) : Int := WIN n G N T night (t : Int) * RNK (STD n m (B t) G N T K EN EX night (t : Int))
theorem SUP_in {n m : Nat} {B G N T K EN EX : Nat → Int} {night : Int} (hn : n ≤ 12) (hG : ∀ j, 0 ≤ G j ∧ G j ≤ 3) (t : Nat) : 0 ≤ SUP n m B G N T K EN EX night t ∧ SUP n m B G N T K EN EX night t ≤ 108 := mulb (WIN_in hn hG) (RNK_in _)
theorem MXO_in {f : Nat → Int} {own : Int} (h : ∀ t, 0 ≤ f t ∧ f t ≤ 108) (n : Nat) : 0 ≤ MXO f own n ∧ MXO f own n ≤ 108 := by
  induction n with
  | zero => simp [MXO]
  | succ n ih =>
    have := h n
    unfold MXO
    split <;> omega
theorem MXO_i {f : Nat → Int} {own i : Int} (h : 0 ≤ i) : MXO f own (i + 1).toNat = if i = own then MXO f own i.toNat else max (MXO f own i.toNat) (f i.toNat) := by
  rw [tn_s h]
  show (if ((i.toNat : Nat) : Int) = own then _ else _) = _
  rw [show ((i.toNat : Nat) : Int) = i by omega]
/-- f, but -1 at own -/
def GX (own : Int) (f : Nat → Int) (t : Nat) : Int := if (t : Int) = own then -1 else f t
theorem GX_own {own i : Int} {f : Nat → Int} (h : 0 ≤ i) (e : i = own) : GX own f i.toNat = -1 := by unfold GX; rw [if_pos (by omega)]
theorem GX_ne {own i : Int} {f : Nat → Int} (h : 0 ≤ i) (e : i ≠ own) : GX own f i.toNat = f i.toNat := by unfold GX; rw [if_neg (by omega)]
/-- best and most behind n tries: x the first of the greatest beyond init, y that -/
def AMX (g : Nat → Int) (init : Int) (n : Nat) (x y : Int) : Prop := (x = -1 ∧ y = init ∧ ∀ b, b < n → g b ≤ init) ∨ ∃ a : Nat, a < n ∧ x = (a : Int) ∧ y = g a ∧ init < g a ∧ (∀ b, b < a → g b < g a) ∧ ∀ b, b < n → g b ≤ g a
theorem AMX_0 (g : Nat → Int) (init : Int) : AMX g init (0 : Int).toNat (-1) init := Or.inl ⟨rfl, rfl, fun b h => absurd h (Nat.not_lt_zero b)⟩
theorem AMX_up {g : Nat → Int} {init i x y : Int} (hi : 0 ≤ i) (h : AMX g init i.toNat x y) (hg : y < g i.toNat) : AMX g init (i + 1).toNat i (g i.toNat) := by
  rw [tn_s hi]
  rcases h with ⟨h1, h2, h3⟩ | ⟨a, h1, h2, h3, h4, h5, h6⟩
  · refine Or.inr ⟨i.toNat, by omega, by omega, rfl, by omega, fun b hb => by have := h3 b hb; omega, fun b hb => ?_⟩
    by_cases e : b = i.toNat
    · rw [e]; exact Int.le_refl _
    · have := h3 b (by omega); omega
  · refine Or.inr ⟨i.toNat, by omega, by omega, rfl, by omega, fun b hb => by have := h6 b hb; omega, fun b hb => ?_⟩
    by_cases e : b = i.toNat
    · rw [e]; exact Int.le_refl _
    · have := h6 b (by omega); omega
theorem AMX_no {g : Nat → Int} {init i x y : Int} (hi : 0 ≤ i) (h : AMX g init i.toNat x y) (hg : g i.toNat ≤ y) : AMX g init (i + 1).toNat x y := by
  rw [tn_s hi]
  rcases h with ⟨h1, h2, h3⟩ | ⟨a, h1, h2, h3, h4, h5, h6⟩
  · refine Or.inl ⟨h1, h2, fun b hb => ?_⟩
    by_cases e : b = i.toNat
    · rw [e]; omega
    · exact h3 b (by omega)
  · refine Or.inr ⟨a, by omega, h2, h3, h4, h5, fun b hb => ?_⟩
    by_cases e : b = i.toNat
    · rw [e]; omega
    · exact h6 b (by omega)
theorem AMX_u {g g' : Nat → Int} {init : Int} {n : Nat} {x y x' y' : Int} (he : ∀ b, b < n → g b = g' b) (h : AMX g init n x y) (h' : AMX g' init n x' y') : x = x' ∧ y = y' := by
  rcases h with ⟨h1, h2, h3⟩ | ⟨a, h1, h2, h3, h4, h5, h6⟩ <;> rcases h' with ⟨k1, k2, k3⟩ | ⟨a', k1, k2, k3, k4, k5, k6⟩
  · omega
  · have := h3 a' k1; have := he a' k1; omega
  · have := k3 a h1; have := he a h1; omega
  · have e1 := he a h1
    have e2 := he a' k1
    have q1 := h6 a' k1
    have q2 := k6 a h1
    rcases Nat.lt_trichotomy a a' with q | q | q
    · have := k5 a q; omega
    · subst q; omega
    · have := h5 a' q; omega
theorem AMX_in {g : Nat → Int} {init : Int} {n : Nat} {x y lo hi : Int} (h : AMX g init n x y) (hg : ∀ b, b < n → lo ≤ g b ∧ g b ≤ hi) (hi2 : lo ≤ init ∧ init ≤ hi) : -1 ≤ x ∧ x < n ∧ lo ≤ y ∧ y ≤ hi := by
  rcases h with ⟨h1, h2, h3⟩ | ⟨a, h1, h2, h3, h4, h5, h6⟩
  · omega
  · have := hg a h1; omega
theorem BT_255 : ∀ t, t < 8 → BT 255 t := by decide
/-- the towns that sworn tales of a night leave, as bits -/
def SWF (C S N T : Nat → Int) (night : Int) : Nat → Int
  | 0 => 255
  | i + 1 => if C i = 1 ∧ S i = 0 ∧ N i = night then bAnd (SWF C S N T night i) (bShl 1 (T i)) else SWF C S N T night i
theorem SWF_in {C S N T : Nat → Int} {night : Int} (hT : ∀ j, 0 ≤ T j ∧ T j ≤ 7) (n : Nat) : 0 ≤ SWF C S N T night n ∧ SWF C S N T night n ≤ 255 := by
  induction n with
  | zero => simp [SWF]
  | succ n ih =>
    unfold SWF
    split
    · have q1 := bShl_lt (k := T n) (n := 8) (by omega) (by have := hT n; omega)
      have q2 := bAnd_lt (x := SWF C S N T night n) (y := bShl 1 (T n)) (by omega) (by omega)
      omega
    · exact ih
theorem SWF_i {C S N T : Nat → Int} {night i : Int} (h : 0 ≤ i) : SWF C S N T night (i + 1).toNat = if C i.toNat = 1 ∧ S i.toNat = 0 ∧ N i.toNat = night then bAnd (SWF C S N T night i.toNat) (bShl 1 (T i.toNat)) else SWF C S N T night i.toNat := by
  rw [tn_s h]
  rfl
def bcF (x0 : Int) : Int :=
  let x1 := wr (x0 - bAnd (bUsh x0 1) 1431655765)
  let x2 := wr (bAnd x1 858993459 + bAnd (bUsh x1 2) 858993459)
  let x3 := bAnd (wr (x2 + bUsh x2 4)) 252645135
  let x4 := wr (x3 + bUsh x3 8)
  let x5 := wr (x4 + bUsh x4 16)
  bAnd x5 63
theorem bcF_n : ∀ a, a < 64 → ∀ b, b < 64 → bcF ((64 * a + b : Nat) : Int) = PCN ((64 * a + b : Nat) : Int) := by decide +kernel
theorem bcF_ok {x : Int} (h : 0 ≤ x ∧ x < 4096) : bcF x = PCN x := by
  have := bcF_n (x.toNat / 64) (by omega) (x.toNat % 64) (by omega)
  rwa [show ((64 * (x.toNat / 64) + x.toNat % 64 : Nat) : Int) = x by omega] at this
theorem PCN_in (x : Int) : 0 ≤ PCN x ∧ PCN x ≤ 12 := by
  unfold PCN
  have h1 := sm_ge (f := fun k => b2 (BT x k)) (n := 12) (fun j _ => (b2_in _).1)
  have h2 := sm_le (f := fun k => b2 (BT x k)) (n := 12) (b := 1) (fun j _ => (b2_in _).2)
  omega
theorem AMX_ge {g : Nat → Int} {init : Int} {n : Nat} {x y : Int} (h : AMX g init n x y) : init ≤ y := by
  rcases h with ⟨h1, h2, h3⟩ | ⟨a, h1, h2, h3, h4, h5, h6⟩ <;> omega
