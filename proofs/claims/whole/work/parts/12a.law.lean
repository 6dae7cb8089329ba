/-! the world that the law keeps: the class's and the reference's cells agree -/
def SCI : Nat := 1000000
def SHJ (tl : List CD) (M : Mem) (s : Nat) : Prop := (M 29 s = -1 ∧ M 60 s = 0) ∨ ∃ q n : Nat, M 29 s = (q : Int) ∧ SHQ tl q n ∧ M 60 s = 1 ∧ M 61 s = M q 0 ∧ M 62 s = (n : Int) ∧ ∀ i, i < n → M 63 (60 * s + i) = M (q + 1) i
def TLd (len : Nat) (d : CD) : Prop := match d with
  | .inl (_, fds) => ∀ fd ∈ fds, (fd.1 = 1 → fd.2.1.toNat < len) ∧ (fd.1 ≠ 0 → fd.1 ≠ 1 → fd.2.2 < (len : Int))
  | .inr _ => True
def TLok (tl : List CD) : Prop := (∀ d ∈ LB ++ tl, TLd (LB ++ tl).length d) ∧ ∀ (k n : Nat) (lo hi : Int), (LB ++ tl)[k]? = some (.inr (3, n, lo, hi)) → k = 29
def JA (tl : List CD) (M : Mem) : Prop := JQ M ∧ M 32 43 = M 0 14 ∧ (∀ s, s < 4 → SHJ tl M s) ∧ (∀ s t, s < 4 → t < 4 → s ≠ t → 0 ≤ M 29 s → M 29 s ≠ M 29 t) ∧ (∀ j, M 29 j < ((LB ++ tl).length : Int)) ∧ TLok tl
theorem SHJ_of {tl : List CD} {M N : Mem} {s : Nat} (h : SHJ tl M s) (h29 : N 29 s = M 29 s) (h60 : N 60 s = M 60 s) (h61 : N 61 s = M 61 s) (h62 : N 62 s = M 62 s) (h63 : ∀ i, i < 60 → N 63 (60 * s + i) = M 63 (60 * s + i)) (hq : ∀ q : Nat, 65 ≤ q → M 29 s = (q : Int) → N q 0 = M q 0 ∧ N (q + 1) = M (q + 1)) : SHJ tl N s := by
  rcases h with ⟨h1, h2⟩ | ⟨q, n, h1, h2, h3, h4, h5, h6⟩
  · exact Or.inl ⟨by rw [h29]; exact h1, by rw [h60]; exact h2⟩
  · obtain ⟨g1, g2⟩ := hq q h2.1 h1
    refine Or.inr ⟨q, n, by rw [h29]; exact h1, h2, by rw [h60]; exact h3, by rw [h61, g1]; exact h4, by rw [h62]; exact h5, fun i hi => ?_⟩
    rw [h63 i (by have := h2.2.2.2; omega), g2]
    exact h6 i hi
/-- nothing of the world has changed but the class's scratch, the reference's -/
theorem JA_keep {tl : List CD} {M N : Mem} (h : JA tl M) (hq : JQ N) (hf : N 32 43 = N 0 14) (hk : ∀ a, (a = 29 ∨ a = 60 ∨ a = 61 ∨ a = 62 ∨ a = 63 ∨ 65 ≤ a) → N a = M a) : JA tl N := by
  obtain ⟨-, -, h3, h4, h5, h6⟩ := h
  have e29 := hk 29 (by omega)
  refine ⟨hq, hf, fun s hs => SHJ_of (h3 s hs) (by rw [e29]) (by rw [hk 60 (by omega)]) (by rw [hk 61 (by omega)]) (by rw [hk 62 (by omega)]) (fun i _ => by rw [hk 63 (by omega)]) (fun q hq _ => ⟨by rw [hk q (by omega)], hk (q + 1) (by omega)⟩), ?_, ?_, h6⟩
  · rw [e29]; exact h4
  · rw [e29]; exact h5
theorem SC_far {a : Nat} (h : a = 29 ∨ a = 60 ∨ a = 61 ∨ a = 62 ∨ a = 63 ∨ 65 ≤ a) : a ∉ SC := by
  intro q
  simp only [SC, List.mem_cons, List.not_mem_nil, or_false] at q
  omega
theorem RC_far {a : Nat} (h : a = 29 ∨ a = 60 ∨ a = 61 ∨ a = 62 ∨ a = 63 ∨ 65 ≤ a) : a ∉ RC ∧ a ≠ 32 := by
  refine ⟨fun q => ?_, by omega⟩
  simp only [RC, List.mem_cons, List.not_mem_nil, or_false] at q
  omega
theorem JQ_fr {M N : Mem} (h : JQ M) (hf : FR SC M N) : JQ N := JQ_of h (fun a ha => hf a (by revert ha a; decide)) (by rw [hf 32 (by decide)]) (by rw [hf 32 (by decide)]) (by rw [hf 32 (by decide)])
theorem JA_fr {tl : List CD} {M N : Mem} (h : JA tl M) (hf : FR SC M N) : JA tl N := JA_keep h (JQ_fr h.1 hf) (by rw [hf 32 (by decide), hf 0 (by decide)]; exact h.2.1) (fun a ha => hf a (SC_far ha))
theorem JA_fx {tl : List CD} {M N : Mem} (h : JA tl M) (hf : FX RC RF M N) : JA tl N := JA_keep h (JQ_fx h.1 hf (by decide)) (by rw [hf.fd 43 (by decide), hf.at 0 (by decide)]; exact h.2.1) (fun a ha => hf.at a (RC_far ha))
theorem JA_q {tl : List CD} {M N N2 : Mem} (h : JA tl M) (hf : FR SC M N) (hf2 : FX RC RF N N2) : JA tl N2 := JA_fx (JA_fr h hf) hf2
/-! the script -/
def SX (X : CTX) (Ln : Nat) (xs : Nat → Int32) : Prop := match X with
  | (_, _, _, _, s, _, _, _, _, _, _, _, _, _, _, ad, A) => va_X (ad SCI) Ln xs s s.heap ∧ ad SCI < s.heap.size ∧ ¬ A (ad SCI)
section AWs
variable {X : CTX} {L : List CD} {nL pc dd : Nat} {loc : List (Nat × AV)} {stk : List AV} {M : Mem} {cc : ByteArray} {own : String} {Ln : Nat} {xs : Nat → Int32}
theorem aw_sld {i : Int} (cx : Cx X cc own nL dd) (sx : SX X Ln xs) (d : decode cc pc = .ok (.iaload, 1)) (hi : 0 ≤ i ∧ i < Ln) (kk : ∀ z, z = (xs i.toNat).toInt → AW X L nL (pc + 1) loc (aI z :: stk) M) : AW X L nL pc loc (aI i :: aR SCI :: stk) M := by
  obtain ⟨p, l, e, R, s, m, args, below, meth, c, cells, slots, Q, D, ca, ad, A⟩ := X
  obtain ⟨hx, hb, hml, hown, hts, hK, hN, hA, hfr, hlo, hce, hsl⟩ := cx
  obtain ⟨hX, hbl, hbA⟩ := sx
  intro H locs ls hP hD hS hl ol os om
  have hr : okV (aI i) := os0 os
  refine va_sld hx hb hX hbl hbA hS (i32_in hr hi) d ?_
  rw [i32_clamp hr, ← i32_of (xs i.toNat)]
  have hv : okV (aI (xs i.toNat).toInt) := i32_rng _
  exact kk _ rfl H locs ls hP hD hS hl ol (osc hv (os1 (os1 os))) om
theorem aw_slen (cx : Cx X cc own nL dd) (sx : SX X Ln xs) (d : decode cc pc = .ok (.arraylength, 1)) (hL : Ln ≤ 3072) (kk : AW X L nL (pc + 1) loc (aI (Ln : Int) :: stk) M) : AW X L nL pc loc (aR SCI :: stk) M := by
  obtain ⟨p, l, e, R, s, m, args, below, meth, c, cells, slots, Q, D, ca, ad, A⟩ := X
  obtain ⟨hx, hb, hml, hown, hts, hK, hN, hA, hfr, hlo, hce, hsl⟩ := cx
  obtain ⟨hX, hbl, hbA⟩ := sx
  intro H locs ls hP hD hS hl ol os om
  have hv : okV (aI (Ln : Int)) := ⟨by omega, by omega⟩
  refine va_slen hx hb hX hbl hbA hS d ?_
  have h := kk H locs ls hP hD hS hl ol (osc hv (os1 os)) om
  have e : i32 (Ln : Int) = Int32.ofNat Ln := by
    have q := i32_nI (x := (Ln : Int)) (by omega)
    rw [q]
    rfl
  rw [← e]
  exact h
end AWs
