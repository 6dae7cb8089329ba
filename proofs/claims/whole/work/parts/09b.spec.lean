/-! the reference's figure -/
def KEN (no : Int) (K : Nat → Int) (e : Nat) : Int := if BT no e then -1 else K e
def fgR (M : Mem) : FG := ((M 32 15).toNat, (M 32 11).toNat, KEN (M 32 21) (M 41), M 42, M 43, M 44, M 45, M 46, M 47)
def SHK (K EN EX N T W : Nat → Int) (lo : Int) (n : Nat) (i : Int) : Prop := i = lo ∨ SPO K EN EX N T W n i.toNat
theorem SHK_0 {K EN EX N T W : Nat → Int} {lo i : Int} : SHK K EN EX N T W lo (0 : Int).toNat i ↔ i = lo := ⟨fun h => h.elim id (fun ⟨_, he, _⟩ => absurd he (Nat.not_lt_zero _)), Or.inl⟩
theorem SHK_s {K EN EX N T W : Nat → Int} {lo i k : Int} (h : 0 ≤ k) : SHK K EN EX N T W lo (k + 1).toNat i ↔ SHK K EN EX N T W lo k.toNat i ∨ SPe K EN EX N T W i.toNat k.toNat := by
  unfold SHK SPO
  rw [ex_s h]
  exact or_assoc.symm
theorem SHK_1 {K EN EX N T W : Nat → Int} {lo i k x : Int} (h : 0 ≤ k) (hx : x = 1 ↔ SHK K EN EX N T W lo k.toNat i) (hn : x ≠ 0) (h01 : x = 0 ∨ x = 1) : (1 : Int) = 1 ↔ SHK K EN EX N T W lo (k + 1).toNat i := ⟨fun _ => (SHK_s h).mpr (Or.inl (hx.mp (by omega))), fun _ => rfl⟩
theorem SHK_p {K EN EX N T W : Nat → Int} {lo i k : Int} (h : 0 ≤ k) (p : SPe K EN EX N T W i.toNat k.toNat) : (1 : Int) = 1 ↔ SHK K EN EX N T W lo (k + 1).toNat i := ⟨fun _ => (SHK_s h).mpr (Or.inr p), fun _ => rfl⟩
theorem SHK_n {K EN EX N T W : Nat → Int} {lo i k x : Int} (h : 0 ≤ k) (hx : x = 1 ↔ SHK K EN EX N T W lo k.toNat i) (hn : x = 0) (p : ¬ SPe K EN EX N T W i.toNat k.toNat) : (0 : Int) = 1 ↔ SHK K EN EX N T W lo (k + 1).toNat i := ⟨fun h => absurd h (by decide), fun q => ((SHK_s h).mp q).elim (fun a => absurd (hx.mpr a) (by rw [hn]; decide)) (fun b => absurd b p)⟩
theorem SHK_i {K EN EX N T W : Nat → Int} {lo i k x : Int} (h : 0 ≤ k) (hx : x = 1 ↔ SHK K EN EX N T W lo k.toNat i) (p : ¬ SPe K EN EX N T W i.toNat k.toNat) : x = 1 ↔ SHK K EN EX N T W lo (k + 1).toNat i := hx.trans ⟨fun a => (SHK_s h).mpr (Or.inl a), fun q => ((SHK_s h).mp q).elim id (fun b => absurd b p)⟩
