section AWm
variable {X : CTX} {L : List CD} {nL pc dd : Nat} {loc : List (Nat × AV)} {stk : List AV} {M : Mem} {cc : ByteArray} {own : String}
theorem aw_mmax {x y : Int} {idx : Nat} (cx : Cx X cc own nL dd) (d : decode cc pc = .ok (.invokestatic idx, 3)) (hlk : Cond.methodLink own idx yJ9_max_7cf53 ∈ WS) (h1 : 1 ≤ dd) (hw : (stk.map ctV).sum ≤ 8) (kk : ∀ z, z = max x y → AW X L nL (pc + 3) loc (aI z :: stk) M) : AW X L nL pc loc (aI y :: aI x :: stk) M := by
  obtain ⟨p, l, e, R, s, m, args, below, meth, c, cells, slots, Q, D, ca, ad, A⟩ := X
  obtain ⟨hx, hb, hml, hown, hts, hK, hN, hA, hfr, hlo, hce, hsl⟩ := cx
  intro H locs ls hP hD hS hl ol os om
  obtain ⟨m1, m2, m3, -⟩ := ms_J9_max_7cf53
  have hy : okV (aI y) := os0 os
  have hx2 : okV (aI x) := os0 (os1 os)
  have hy1 := hy.1
  have hy2 := hy.2
  have hx3 := hx2.1
  have hx4 := hx2.2
  refine va_mmax hx hb (hml.trans hl.1.symm) hown (hts _ hlk) (hts _ m1) (hts _ m2) (hts _ m3) (by omega) (by rw [st_ct]; omega) hce hsl d ?_
  rw [show (if i32 x < i32 y then i32 y else i32 x) = i32 (max x y) by
    by_cases h : x < y
    · rw [if_pos ((i32_lt hx2 hy).mpr h), show max x y = y by omega]
    · rw [if_neg (fun q => h ((i32_lt hx2 hy).mp q)), show max x y = x by omega]]
  exact kk _ rfl H locs ls hP hD hS hl ol (osc (show _ ∧ _ from ⟨by omega, by omega⟩) (os1 (os1 os))) om
theorem aw_mmin {x y : Int} {idx : Nat} (cx : Cx X cc own nL dd) (d : decode cc pc = .ok (.invokestatic idx, 3)) (hlk : Cond.methodLink own idx yJ9_min_7cf53 ∈ WS) (h1 : 1 ≤ dd) (hw : (stk.map ctV).sum ≤ 8) (kk : ∀ z, z = min x y → AW X L nL (pc + 3) loc (aI z :: stk) M) : AW X L nL pc loc (aI y :: aI x :: stk) M := by
  obtain ⟨p, l, e, R, s, m, args, below, meth, c, cells, slots, Q, D, ca, ad, A⟩ := X
  obtain ⟨hx, hb, hml, hown, hts, hK, hN, hA, hfr, hlo, hce, hsl⟩ := cx
  intro H locs ls hP hD hS hl ol os om
  obtain ⟨m1, m2, m3, -⟩ := ms_J9_min_7cf53
  have hy : okV (aI y) := os0 os
  have hx2 : okV (aI x) := os0 (os1 os)
  have hy1 := hy.1
  have hy2 := hy.2
  have hx3 := hx2.1
  have hx4 := hx2.2
  refine va_mmin hx hb (hml.trans hl.1.symm) hown (hts _ hlk) (hts _ m1) (hts _ m2) (hts _ m3) (by omega) (by rw [st_ct]; omega) hce hsl d ?_
  rw [show (if i32 y < i32 x then i32 y else i32 x) = i32 (min x y) by
    by_cases h : y < x
    · rw [if_pos ((i32_lt hy hx2).mpr h), show min x y = y by omega]
    · rw [if_neg (fun q => h ((i32_lt hy hx2).mp q)), show min x y = x by omega]]
  exact kk _ rfl H locs ls hP hD hS hl ol (osc (show _ ∧ _ from ⟨by omega, by omega⟩) (os1 (os1 os))) om
theorem aw_mabs {x : Int} {idx : Nat} (cx : Cx X cc own nL dd) (d : decode cc pc = .ok (.invokestatic idx, 3)) (hlk : Cond.methodLink own idx yJ9_abs_0f7a4 ∈ WS) (h1 : 1 ≤ dd) (hw : (stk.map ctV).sum ≤ 8) (hr : -2147483648 < x) (kk : ∀ z, z = max x (-x) → AW X L nL (pc + 3) loc (aI z :: stk) M) : AW X L nL pc loc (aI x :: stk) M := by
  obtain ⟨p, l, e, R, s, m, args, below, meth, c, cells, slots, Q, D, ca, ad, A⟩ := X
  obtain ⟨hx, hb, hml, hown, hts, hK, hN, hA, hfr, hlo, hce, hsl⟩ := cx
  intro H locs ls hP hD hS hl ol os om
  obtain ⟨m1, m2, m3, -⟩ := ms_J9_abs_0f7a4
  have hx2 : okV (aI x) := os0 os
  have hx4 := hx2.2
  have zz : -2147483648 ≤ (0 : Int) ∧ (0 : Int) < 2147483648 := ⟨by omega, by omega⟩
  refine va_mabs hx hb (hml.trans hl.1.symm) hown (hts _ hlk) (hts _ m1) (hts _ m2) (hts _ m3) (by omega) (by rw [st_ct]; omega) hce hsl d ?_
  rw [show (if 0 ≤ i32 x then i32 x else 0 - i32 x) = i32 (max x (-x)) by
    rw [← i32_0]
    by_cases h : 0 ≤ x
    · rw [if_pos ((i32_le zz hx2).mpr h), show max x (-x) = x by omega]
    · rw [if_neg (fun q => h ((i32_le zz hx2).mp q)), i32_sub, show max x (-x) = 0 - x by omega]]
  exact kk _ rfl H locs ls hP hD hS hl ol (osc (show _ ∧ _ from ⟨by omega, by omega⟩) (os1 os)) om
end AWm
