/-! sheets: cells behind the fixed ones; copying a row's places -/
theorem ac_ml : Cond.methodLink RX6 257 arraycopyName ∈ WS := (WS_mem (List.mem_of_getElem? (i := 645) (by decide +kernel)) (by decide +kernel))
theorem ac_nat : Cond.native arraycopyName ∈ WS := (WS_mem (List.mem_of_getElem? (i := 647) (by decide +kernel)) (by decide +kernel))
theorem ac_st : Cond.static arraycopyName ∈ WS := (WS_mem (List.mem_of_getElem? (i := 646) (by decide +kernel)) (by decide +kernel))
theorem ac_in : Cond.initialized "java/lang/System" ∈ WS := (WS_mem (List.mem_of_getElem? (i := 88) (by decide +kernel)) (by decide +kernel))
def cpM (M : Mem) (k0 k1 sp dp n : Nat) : Mem := fun a b => if a = k1 ∧ dp ≤ b ∧ b < dp + n then M k0 (sp + (b - dp)) else M a b
theorem cpM_off {M : Mem} {k0 k1 sp dp n a : Nat} (h : a ≠ k1) : cpM M k0 k1 sp dp n a = M a := by
  funext b
  unfold cpM
  rw [if_neg (fun q => h q.1)]
theorem conc_cp {ca : Nat → ClassId} {ad : Nat → Nat} {L : List CD} {M : Mem} {k0 k1 sp dp n n0 n1 : Nat} {lo hi : Int} (h1 : L[k1]? = some (.inr (0, n1, lo, hi))) : (conc ca ad L M).set k1 (ad k1, .inl (ca 0, n1, .inl (va_cpy (fun j => i32 (M k0 j)) (fun j => i32 (M k1 j)) sp dp n))) = conc ca ad L (cpM M k0 k1 sp dp n) := by
  apply List.ext_getElem?
  intro i
  unfold conc
  rw [List.getElem?_set, List.getElem?_mapIdx, List.getElem?_mapIdx]
  have hk : k1 < L.length := (List.getElem?_eq_some_iff.mp h1).1
  by_cases hi2 : k1 = i
  · subst hi2
    rw [if_pos rfl, if_pos (by rw [List.length_mapIdx]; exact hk), h1]
    show some (ad k1, (Sum.inl (ca 0, n1, Sum.inl _) : va_E)) = some (ad k1, (Sum.inl (ca 0, n1, carr ad 0 _) : va_E))
    have e : va_cpy (fun j => i32 (M k0 j)) (fun j => i32 (M k1 j)) sp dp n = fun j => i32 (cpM M k0 k1 sp dp n k1 j) := by
      funext j
      unfold va_cpy cpM
      by_cases q : dp ≤ j ∧ j < dp + n
      · rw [if_pos q, if_pos ⟨rfl, q⟩]
      · rw [if_neg q, if_neg (fun z => q z.2)]
    rw [e]
    rfl
  · rw [if_neg hi2]
    cases hL : L[i]? with
    | none => rfl
    | some d' =>
      show some _ = some _
      rw [cpM_off (fun q => hi2 q.symm)]
theorem okM_cp {L : List CD} {M : Mem} {k0 k1 sp dp n n0 n1 : Nat} {lo hi : Int} (h0 : L[k0]? = some (.inr (0, n0, lo, hi))) (h1 : L[k1]? = some (.inr (0, n1, lo, hi))) (om : okM L M) : okM L (cpM M k0 k1 sp dp n) := by
  intro a d ha
  by_cases hk : a = k1
  · subst hk
    rw [h1] at ha
    cases ha
    refine ⟨(om a _ h1).1, fun b => ?_⟩
    show lo ≤ cpM M k0 a sp dp n a b ∧ cpM M k0 a sp dp n a b ≤ hi
    unfold cpM
    split
    · exact (om k0 _ h0).2 _
    · exact (om a _ h1).2 b
  · rw [cpM_off hk]
    exact om a d ha
theorem aw_copy {X : CTX} {L : List CD} {nL pc dd idx : Nat} {loc : List (Nat × AV)} {stk : List AV} {M : Mem} {cc : ByteArray} {own : String} {k0 k1 n0 n1 : Nat} {lo hi sp dp n : Int} (cx : Cx X cc own nL dd) (d : decode cc pc = .ok (.invokestatic idx, 3)) (hlk : Cond.methodLink own idx arraycopyName ∈ WS) (hd : 1 ≤ dd) (hw : (stk.map ctV).sum ≤ 8) (h0 : L[k0]? = some (.inr (0, n0, lo, hi))) (h1 : L[k1]? = some (.inr (0, n1, lo, hi))) (hs : 0 ≤ sp) (hdp : 0 ≤ dp) (hn : 0 ≤ n) (hb0 : sp + n ≤ n0) (hb1 : dp + n ≤ n1) (kk : AW X L nL (pc + 3) loc stk (cpM M k0 k1 sp.toNat dp.toNat n.toNat)) : AW X L nL pc loc (aI n :: aI dp :: aR k1 :: aI sp :: aR k0 :: stk) M := by
  obtain ⟨p, l, e, R, s, m, args, below, meth, c, cells, slots, Q, D, ca, ad, A⟩ := X
  obtain ⟨hx, hb, hml, hown, hts, hK, hN, hA, hfr, hlo, hce, hsl⟩ := cx
  intro H locs ls hP hD hS hl ol os om
  have rn : okV (aI n) := os0 os
  have rd : okV (aI dp) := os0 (os1 os)
  have rs : okV (aI sp) := os0 (os1 (os1 (os1 os)))
  have zz : -2147483648 ≤ (0 : Int) ∧ (0 : Int) < 2147483648 := ⟨by omega, by omega⟩
  have neg : ∀ x : Int, okV (aI x) → 0 ≤ x → ¬ i32 x < 0 := fun x h1 h2 q => by
    rw [← i32_0, i32_lt h1 zz] at q
    omega
  refine va_copyi hx hb (hml.trans hl.1.symm) hown (hts _ hlk) (hts _ ac_nat) (hts _ ac_st) (hts _ ac_in) hK hP hD hS k0 k1 0 0 (conc_get h0) (conc_get h1) rfl rfl rfl (neg sp rs hs) (neg dp rd hdp) (neg n rn hn) (by rw [i32_clamp rs, i32_clamp rn]; omega) (by rw [i32_clamp rd, i32_clamp rn]; omega) (fun i _ => rfl) (by omega) ?_ d (fun H1 locs1 hP1 hD1 hS1 => ?_)
  · have hwords : nativeFrameWords "java/lang/System" "arraycopy" 5 ≤ 20 := by decide +kernel
    rw [st_ct]
    omega
  · rw [i32_clamp rs, i32_clamp rd, i32_clamp rn] at hP1 hD1
    have hcu := conc_cp (ca := ca) (ad := ad) (M := M) (k0 := k0) (sp := sp.toNat) (dp := dp.toNat) (n := n.toNat) (n0 := n0) h1
    have hP1 := (show va_P D vwCl ((conc ca ad L M).set k1 (ad k1, .inl (ca 0, n1, .inl (va_cpy (fun j => i32 (M k0 j)) (fun j => i32 (M k1 j)) sp.toNat dp.toNat n.toNat)))) H1 from hP1)
    have hD1 := (show va_D A ((conc ca ad L M).set k1 (ad k1, .inl (ca 0, n1, .inl (va_cpy (fun j => i32 (M k0 j)) (fun j => i32 (M k1 j)) sp.toNat dp.toNat n.toNat)))) from hD1)
    rw [hcu] at hP1 hD1
    exact kk H1 locs1 ls hP1 hD1 hS1 hl ol (os1 (os1 (os1 (os1 (os1 os))))) (okM_cp h0 h1 om)
def CUT (f v : Int) : Int := if f = 0 then toB v else if f = 1 then toS v else v
theorem CUT_in {f v : Int} (hv : -2147483648 ≤ v ∧ v < 2147483648) : -2147483648 ≤ CUT f v ∧ CUT f v ≤ 2147483647 := by
  unfold CUT
  split
  · have := i32_rng ((i32 v).toInt8.toInt32); unfold toB; omega
  · split
    · have := i32_rng ((i32 v).toInt16.toInt32); unfold toS; omega
    · omega
/-- the sheet in cell q has n items -/
def SHQ (tl : List CD) (q n : Nat) : Prop := 65 ≤ q ∧ (LB ++ tl)[q]? = some (.inl (3, [(0, 0, 2), (1, ((q + 1 : Nat) : Int), 0)])) ∧ (LB ++ tl)[q + 1]? = some (.inr (0, n, -2147483648, 2147483647)) ∧ n ≤ 60
theorem sl_n {M : Mem} {s : Int} (h : M 29 s.toNat = -1) : aN = if M 29 s.toNat < 0 then aN else aR (M 29 s.toNat).toNat := by
  rw [h]
  rfl
theorem sl_q {M : Mem} {s : Int} {q : Nat} (h : M 29 s.toNat = (q : Int)) : aR q = if M 29 s.toNat < 0 then aN else aR (M 29 s.toNat).toNat := by
  rw [h, if_neg (by omega), show ((q : Int)).toNat = q by omega]
