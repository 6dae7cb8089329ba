/-! a tale left out: by a flag, or by closing the row up -/
def shx (k i : Nat) : Nat := if i < k then i else i + 1
def ins (k : Nat) (C : Nat → Int) (i : Nat) : Int := if i < k then C i else if i = k then 0 else C (i - 1)
def SHF (F : FG) (k : Nat) : FG := (gn F - 1, gm F, gK F, gEN F, gEX F, fun i => gN F (shx k i), fun i => gT F (shx k i), fun i => gW F (shx k i), fun i => gS F (shx k i))
theorem shx_ne (k i : Nat) : shx k i ≠ k := by
  unfold shx
  split <;> omega
theorem shx_lt {k i j : Nat} : shx k i < shx k j ↔ i < j := by
  unfold shx
  split <;> split <;> omega
theorem shx_in {k i n : Nat} (hk : k < n) (h : i < n - 1) : shx k i < n := by
  unfold shx
  split <;> omega
theorem shx_of {k i n : Nat} (hk : k < n) (hi : i < n) (hne : i ≠ k) : ∃ j, j < n - 1 ∧ i = shx k j := by
  by_cases h : i < k
  · exact ⟨i, by omega, by unfold shx; rw [if_pos h]⟩
  · exact ⟨i - 1, by omega, by unfold shx; rw [if_neg (by omega)]; omega⟩
theorem ins_k (k : Nat) (C : Nat → Int) : ins k C k = 0 := by
  unfold ins
  rw [if_neg (by omega), if_pos rfl]
theorem ins_s (k : Nat) (C : Nat → Int) (i : Nat) : ins k C (shx k i) = C i := by
  unfold ins shx
  by_cases h : i < k
  · rw [if_pos h, if_pos h]
  · rw [if_neg h, if_neg (by omega), if_neg (by omega), show i + 1 - 1 = i by omega]
theorem sm_drop {f : Nat → Int} {k : Nat} : ∀ (n : Nat), k < n → sm f n = sm (fun i => f (shx k i)) (n - 1) + f k
  | 0, h => absurd h (Nat.not_lt_zero _)
  | n + 1, h => by
    rw [sm_s, show n + 1 - 1 = n by omega]
    by_cases e : k = n
    · subst e
      rw [sm_c (f := f) (g := fun i => f (shx k i)) (fun j hj => by show f j = f (shx k j); unfold shx; rw [if_pos hj])]
    · have ih := sm_drop (f := f) (k := k) n (by omega)
      obtain ⟨p, rfl⟩ : ∃ p, n = p + 1 := ⟨n - 1, by omega⟩
      rw [ih, sm_s, show p + 1 - 1 = p by omega, show shx k p = p + 1 by unfold shx; rw [if_neg (by omega)]]
      omega
section DROPs
variable {F : FG} {k : Nat} {C G B : Nat → Int}
theorem drop_oth (hk : k < gn F) (j : Nat) : OTH (gn F) (ins k C) (gN F) (gT F) (gW F) (shx k j) = OTH (gn F - 1) C (fun i => gN F (shx k i)) (fun i => gT F (shx k i)) (fun i => gW F (shx k i)) j := by
  unfold OTH
  apply sm_c
  intro w _
  rw [sm_drop (f := fun j_1 => b2 (ins k C j_1 = 1 ∧ gN F j_1 = gN F (shx k j) ∧ gT F j_1 = gT F (shx k j) ∧ gW F j_1 = (w : Int))) (k := k) (gn F) hk]
  rw [show b2 (ins k C k = 1 ∧ gN F k = gN F (shx k j) ∧ gT F k = gT F (shx k j) ∧ gW F k = (w : Int)) = 0 from b2_f (by rw [ins_k]; omega), Int.add_zero]
  rw [sm_c (g := fun i => b2 (C i = 1 ∧ gN F (shx k i) = gN F (shx k j) ∧ gT F (shx k i) = gT F (shx k j) ∧ gW F (shx k i) = (w : Int))) (fun i _ => by rw [ins_s])]
theorem drop_fal (hk : k < gn F) (w : Int) : FAL (k : Int) (gn F) (ins k C) (gW F) w = FAL (-1) (gn F - 1) C (fun i => gW F (shx k i)) w := by
  unfold FAL
  rw [sm_drop (f := fun j => b2 ((j : Int) ≠ (k : Int) ∧ gW F j = w ∧ ins k C j = 0)) (k := k) (gn F) hk]
  rw [show b2 ((k : Int) ≠ (k : Int) ∧ gW F k = w ∧ ins k C k = 0) = 0 from b2_f (fun q => q.1 rfl), Int.add_zero]
  apply sm_c
  intro j _
  apply b2_c
  rw [ins_s]
  have hne := shx_ne k j
  exact ⟨fun q => ⟨by omega, q.2⟩, fun q => ⟨by omega, q.2⟩⟩
theorem drop_run (hk : k < gn F) (h : RUNf (-1) (SHF F k) C G B) : RUNf (k : Int) F (ins k C) (ins k G) B := by
  obtain ⟨h1, h2, h3, h4⟩ := h
  refine ⟨fun i hi => ?_, fun i => ?_, fun i hi => ?_, fun t ht => ?_⟩
  · by_cases e : i = k
    · rw [e, ins_k]
      exact ⟨fun q => by omega, fun q => absurd rfl q.1⟩
    · obtain ⟨j, hj, rfl⟩ := shx_of hk hi e
      rw [ins_s, h1 j hj]
      refine ⟨fun q => ⟨by omega, q.2.1, fun a ha z => ?_⟩, fun q => ⟨by omega, q.2.1, fun b hb z => ?_⟩⟩
      · by_cases ea : a = k
        · rw [ea, ins_k] at z; omega
        · obtain ⟨b, hb, rfl⟩ := shx_of hk (show a < gn F by omega) ea
          rw [ins_s] at z
          exact q.2.2 b (shx_lt.mp ha) z
      · exact q.2.2 (shx k b) (shx_lt.mpr hb) (by rw [ins_s]; exact z)
  · unfold ins
    split
    · exact h2 i
    · split
      · exact Or.inl rfl
      · exact h2 _
  · by_cases e : i = k
    · rw [e, ins_k]
      unfold WGT
      rw [ins_k, if_neg (by omega)]
    · obtain ⟨j, hj, rfl⟩ := shx_of hk hi e
      rw [ins_s, h3 j hj]
      unfold WGT WG
      rw [ins_s, drop_oth hk, drop_fal hk]
      rfl
  · rcases h4 t ht with ⟨g1, g2⟩ | ⟨j, g1, g2, g3, g4, g5⟩
    · refine Or.inl ⟨g1, fun i hi z => ?_⟩
      by_cases e : i = k
      · rw [e, ins_k] at z; omega
      · obtain ⟨j, hj, rfl⟩ := shx_of hk hi e
        rw [ins_s] at z
        exact g2 j hj z
    · refine Or.inr ⟨shx k j, shx_in hk g1, by rw [ins_s]; exact g2, g3, g4, fun i hi z1 z2 => ?_⟩
      by_cases e : i = k
      · rw [e, ins_k] at z1; omega
      · obtain ⟨b, hb, rfl⟩ := shx_of hk hi e
        rw [ins_s] at z1
        exact g5 b hb z1 z2
theorem drop_win (hk : k < gn F) (night town : Int) : WIN (gn F) (ins k G) (gN F) (gT F) night town = WIN (gn F - 1) G (fun i => gN F (shx k i)) (fun i => gT F (shx k i)) night town := by
  unfold WIN
  rw [sm_drop (k := k) (gn F) hk, ins_k]
  rw [show (if gN F k = night ∧ gT F k = town then (0 : Int) else 0) = 0 by split <;> rfl, Int.add_zero]
  exact sm_c (fun i _ => by rw [ins_s])
theorem drop_swt (hk : k < gn F) (night town : Int) : SWT (gn F) (ins k G) (gN F) (gT F) night town = SWT (gn F - 1) G (fun i => gN F (shx k i)) (fun i => gT F (shx k i)) night town := by
  unfold SWT
  rw [sm_drop (k := k) (gn F) hk, ins_k]
  rw [show (if gT F k = town ∧ gN F k ≤ night then (0 : Int) else 0) = 0 by split <;> rfl, Int.add_zero]
  exact sm_c (fun i _ => by rw [ins_s])
theorem drop_blf (hk : k < gn F) (night own : Int) : BLF (gn F) (gm F) B (ins k G) (gN F) (gT F) (gK F) (gEN F) (gEX F) night own = BLF (gn F - 1) (gm F) B G (fun i => gN F (shx k i)) (fun i => gT F (shx k i)) (gK F) (gEN F) (gEX F) night own := by
  unfold BLF
  rw [drop_win hk]
  congr 1
  apply MXO_c
  intro t _
  unfold SUP STD
  rw [drop_win hk, drop_swt hk]
theorem drop_fCB {Q : QG} (hk : k < gn F) (hN : ∀ j, 0 ≤ gN F j) (hn : Q.2.1 ≤ 8) (h : RUNf (-1) (SHF F k) C G B) : fCB (-1) (SHF F k) Q = fCB (k : Int) F Q := by
  unfold fCB
  refine BTF_e (by omega) (BTF_s _ (by omega)) (fun c hc => ?_)
  rw [← fBLF_e (F := SHF F k) FGe.rf (fun j => hN _) h, ← fBLF_e (F := F) FGe.rf hN (drop_run hk h), drop_blf hk]
  rfl
end DROPs
