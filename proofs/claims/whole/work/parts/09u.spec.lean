theorem RNK_z {s : Int} (h : s = -1 ∨ 0 ≤ s ∧ s ≤ 40) : (s = -1 ∧ RNK s = 0) ∨ (0 ≤ s ∧ 1 ≤ RNK s) := by
  unfold RNK
  split
  · omega
  · split
    · omega
    · split <;> omega
theorem FWD_23 {s : Nat → Int} (hs : ∀ t, 0 ≤ s t ∧ s t ≤ 255) : bAnd (FWD s 23) (BWD s 0) = FWD s 23 := by
  have hF := FWD_in hs 23
  refine BT_ext (bAnd_lo hF (hs 23).1).1 hF.1 (fun k => ?_)
  show BT (bAnd (FWD s 23) (s 23)) k ↔ _
  rw [BT_and (by omega) (hs 23).1]
  exact ⟨fun q => q.1, fun q => ⟨q, FWD_s hs 23 k q⟩⟩
theorem fSW_in {F : FG} (hT : ∀ j, 0 ≤ gT F j ∧ gT F j ≤ 7) (t : Nat) : 0 ≤ fSW F t ∧ fSW F t ≤ 255 := SWF_in hT _
theorem RUNS_of {M M1 M2 : Mem} {cs fs : List Nat} (h : RUNS M M1) (hf : FX cs fs M1 M2) (hd : (∀ a ∈ [48, 49, 50, 51, 52, 53], a ∉ cs ∧ a ≠ 32) ∧ 32 ∉ cs ∧ 28 ∉ fs) : RUNS M M2 := by
  unfold RUNS at h ⊢
  rw [hf.at 48 (hd.1 48 (by decide)), hf.at 49 (hd.1 49 (by decide)), hf.at 50 (hd.1 50 (by decide)), hf.at 51 (hd.1 51 (by decide)), hf.at 52 (hd.1 52 (by decide)), hf.at 53 (hd.1 53 (by decide)), hf.fd 28 ⟨hd.2.1, hd.2.2⟩]
  exact h
theorem PCN_8 {x : Int} (h : 0 ≤ x ∧ x ≤ 255) : 0 ≤ PCN x ∧ PCN x ≤ 8 := by
  have h1 := PCN_in x
  have h2 := PCN_m 8 (by omega) x.toNat (by omega)
  rw [show ((x.toNat : Nat) : Int) = x by omega] at h2
  omega
