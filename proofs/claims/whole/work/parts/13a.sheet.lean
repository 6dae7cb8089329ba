/-! a new sheet: the layout grows -/
def shO (k : Nat) : CD := .inl (3, [(0, 0, 2), (1, ((k + 1 : Nat) : Int), 0)])
def shA (n : Nat) : CD := .inr (0, n, -2147483648, 2147483647)
def shM (M : Mem) (k s : Nat) (f : Int) : Mem := fun a b => if a = k then (if b = 0 then f else 0) else if a = k + 1 then 0 else if a = 29 ∧ b = s then (k : Int) else M a b
def shAd (ad : Nat → Nat) (k q q' : Nat) : Nat → Nat := fun i => if i = k then q else if i = k + 1 then q' else ad i
def RefC (len : Nat) (d : CD) (f : Nat → Int) : Prop := match d with
  | .inl (_, fds) => ∀ (j : Nat) (fd : FD), fds[j]? = some fd → (fd.1 = 1 → fd.2.1.toNat < len) ∧ (fd.1 ≠ 0 → fd.1 ≠ 1 → (f j).toNat < len)
  | .inr (t, _, _, _) => t = 3 → ∀ j, (f j).toNat < len
theorem ccell_ad {ca : Nat → ClassId} {ad ad' : Nat → Nat} {len : Nat} {d : CD} {f : Nat → Int} (h : RefC len d f) (ha : ∀ k, k < len → ad' k = ad k) : ccell ca ad' d f = ccell ca ad d f := by
  rcases d with ⟨ci, fds⟩ | ⟨t, n, lo, hi⟩
  · show Sum.inr (ci, fds.mapIdx (fun j fd => cfd ad' fd (f j))) = Sum.inr (ci, fds.mapIdx (fun j fd => cfd ad fd (f j)))
    congr 2
    apply List.ext_getElem?
    intro i
    rw [List.getElem?_mapIdx, List.getElem?_mapIdx]
    cases hf : fds[i]? with
    | none => rfl
    | some fd =>
      obtain ⟨h1, h2⟩ := h i fd hf
      show some _ = some _
      congr 1
      show cfd ad' fd (f i) = cfd ad fd (f i)
      unfold cfd
      by_cases c0 : fd.1 = 0
      · rw [if_pos c0, if_pos c0]
      · rw [if_neg c0, if_neg c0]
        by_cases c1 : fd.1 = 1
        · rw [if_pos c1, if_pos c1, ha _ (h1 c1)]
        · rw [if_neg c1, if_neg c1, ha _ (h2 c0 c1)]
  · show Sum.inl (ca t, n, carr ad' t f) = Sum.inl (ca t, n, carr ad t f)
    congr 3
    unfold carr
    by_cases c2 : t = 2
    · rw [if_pos c2, if_pos c2]
    · rw [if_neg c2, if_neg c2]
      by_cases c3 : t = 3
      · rw [if_pos c3, if_pos c3]
        congr 4
        funext j
        rw [ha _ (h c3 j)]
      · rw [if_neg c3, if_neg c3]
theorem conc_len {ca : Nat → ClassId} {ad : Nat → Nat} {L : List CD} {M : Mem} : (conc ca ad L M).length = L.length := by
  unfold conc
  rw [List.length_mapIdx]
theorem shM_29 {M : Mem} {k s j : Nat} {f : Int} (h : 65 ≤ k) : shM M k s f 29 j = if j = s then (k : Int) else M 29 j := by
  unfold shM
  rw [if_neg (by omega), if_neg (by omega)]
  by_cases e : j = s
  · rw [if_pos ⟨rfl, e⟩, if_pos e]
  · rw [if_neg (fun z => e z.2), if_neg e]
theorem conc_sh {ca : Nat → ClassId} {ad : Nat → Nat} {L : List CD} {M : Mem} {s k q q' : Nat} {f lo hi : Int} (h29 : L[29]? = some (.inr (3, 4, lo, hi))) (hR : ∀ (i : Nat) (d : CD), L[i]? = some d → RefC L.length d (M i)) (hk : 65 ≤ L.length) :
    ((conc ca ad L M ++ ([(q, .inr (3, [.int (i32 f), .ref q'])), (q', .inl (ca 0, k, .inl (fun _ => i32 0)))] : va_W)).set 29 (ad 29, .inl (ca 3, 4, .inr (.inr (.inr (.inr (va_up (fun j => if M 29 j < 0 then none else some (ad (M 29 j).toNat)) s (some q)))))))) = conc ca (shAd ad L.length q q') (L ++ [shO L.length, shA k]) (shM M L.length s f) := by
  have hlen := conc_len (ca := ca) (ad := ad) (L := L) (M := M)
  have hadk : ∀ i, i < L.length → shAd ad L.length q q' i = ad i := by
    intro i hi
    unfold shAd
    rw [if_neg (by omega), if_neg (by omega)]
  apply List.ext_getElem?
  intro i
  rw [List.getElem?_set]
  by_cases e29 : 29 = i
  · subst e29
    rw [if_pos rfl, if_pos (by rw [List.length_append, hlen]; omega)]
    have hg : (L ++ [shO L.length, shA k])[29]? = some (.inr (3, 4, lo, hi)) := by rw [List.getElem?_append_left (by omega)]; exact h29
    rw [conc_get hg, hadk 29 (by omega)]
    congr 2
    show Sum.inl (ca 3, 4, _) = Sum.inl (ca 3, 4, carr (shAd ad L.length q q') 3 (shM M L.length s f 29))
    congr 3
    unfold carr
    rw [if_neg (by decide), if_pos rfl]
    congr 4
    funext j
    unfold va_up
    rw [shM_29 hk]
    by_cases ej : j = s
    · rw [if_pos ej, if_pos ej, if_neg (by omega)]
      unfold shAd
      rw [if_pos (by omega)]
    · rw [if_neg ej, if_neg ej]
      show (if M 29 j < 0 then none else some (ad (M 29 j).toNat)) = (if M 29 j < 0 then none else some (shAd ad L.length q q' (M 29 j).toNat))
      by_cases c : M 29 j < 0
      · rw [if_pos c, if_pos c]
      · rw [if_neg c, if_neg c]
        congr 1
        exact (hadk _ ((hR 29 _ h29) rfl j)).symm
  · rw [if_neg e29]
    by_cases h1 : i < L.length
    · rw [List.getElem?_append_left (by rw [hlen]; exact h1)]
      obtain ⟨d, hd⟩ : ∃ d, L[i]? = some d := ⟨L[i], List.getElem?_eq_getElem h1⟩
      have hg : (L ++ [shO L.length, shA k])[i]? = some d := by rw [List.getElem?_append_left h1]; exact hd
      rw [conc_get hd, conc_get hg, hadk i h1]
      have hm : shM M L.length s f i = M i := by
        funext b
        unfold shM
        rw [if_neg (by omega), if_neg (by omega), if_neg (fun z => e29 z.1.symm)]
      rw [hm, ccell_ad (hR i d hd) hadk]
    · rw [List.getElem?_append_right (by rw [hlen]; omega), hlen]
      by_cases h2 : i = L.length
      · subst h2
        have hg : (L ++ [shO L.length, shA k])[L.length]? = some (shO L.length) := by simp
        rw [conc_get hg, Nat.sub_self]
        show some _ = some _
        congr 1
        refine Prod.ext ?_ ?_
        · show q = shAd ad L.length q q' L.length
          unfold shAd
          rw [if_pos rfl]
        · show Sum.inr (3, [Value.int (i32 f), Value.ref q']) = Sum.inr (3, [cfd (shAd ad L.length q q') (0, 0, 2) (shM M L.length s f L.length 0), cfd (shAd ad L.length q q') (1, ((L.length + 1 : Nat) : Int), 0) (shM M L.length s f L.length 1)])
          have e0 : shM M L.length s f L.length 0 = f := by
            unfold shM
            rw [if_pos rfl, if_pos rfl]
          have e1 : cfd (shAd ad L.length q q') (1, ((L.length + 1 : Nat) : Int), 0) (shM M L.length s f L.length 1) = .ref q' := by
            show Value.ref (shAd ad L.length q q' (((L.length + 1 : Nat) : Int)).toNat) = _
            rw [Int.toNat_natCast]
            unfold shAd
            rw [if_neg (by omega), if_pos rfl]
          rw [e0, e1]
          rfl
      · by_cases h3 : i = L.length + 1
        · subst h3
          have hg : (L ++ [shO L.length, shA k])[L.length + 1]? = some (shA k) := by
            rw [List.getElem?_append_right (by omega), show L.length + 1 - L.length = 1 by omega]
            rfl
          rw [conc_get hg, show L.length + 1 - L.length = 1 by omega]
          show some _ = some _
          congr 1
          refine Prod.ext ?_ ?_
          · show q' = shAd ad L.length q q' (L.length + 1)
            unfold shAd
            rw [if_neg (by omega), if_pos rfl]
          · show Sum.inl (ca 0, k, Sum.inl (fun _ => i32 0)) = Sum.inl (ca 0, k, Sum.inl (fun j => i32 (shM M L.length s f (L.length + 1) j)))
            congr 4
            funext j
            unfold shM
            rw [if_neg (by omega), if_pos rfl]
        · rw [List.getElem?_eq_none (by simp; omega), List.getElem?_eq_none (by rw [conc_len, List.length_append]; simp; omega)]
theorem RefM_of {tl : List CD} {M : Mem} (om : okM (LB ++ tl) M) (ht : TLok tl) (h29 : ∀ j, M 29 j < ((LB ++ tl).length : Int)) : ∀ (i : Nat) (d : CD), (LB ++ tl)[i]? = some d → RefC (LB ++ tl).length d (M i) := by
  intro i d hd
  have hm := ht.1 d (List.mem_of_getElem? hd)
  have h65 : 65 ≤ (LB ++ tl).length := by
    rw [List.length_append]
    have : LB.length = 65 := rfl
    omega
  rcases d with ⟨ci, fds⟩ | ⟨t, n, lo, hi⟩
  · intro j fd hf
    obtain ⟨a, b⟩ := hm fd (List.mem_of_getElem? hf)
    refine ⟨a, fun c0 c1 => ?_⟩
    have := okF om hd hf c1
    have := b c0 c1
    omega
  · intro h3 j
    subst h3
    have e := ht.2 i n lo hi hd
    subst e
    have := h29 j
    omega
theorem okM_sh {L : List CD} {M : Mem} {s k : Nat} {f : Int} (om : okM L M) (hk : k ≤ 60) (hf : 0 ≤ f ∧ f ≤ 2) (h65 : 65 ≤ L.length) (hL : L.length < 2147483647) (h29 : L[29]? = some (.inr (3, 4, -1, 2147483647))) : okM (L ++ [shO L.length, shA k]) (shM M L.length s f) := by
  intro i d hd
  by_cases h1 : i < L.length
  · rw [List.getElem?_append_left h1] at hd
    obtain ⟨a, b⟩ := om i d hd
    refine ⟨a, ?_⟩
    by_cases e29 : i = 29
    · subst e29
      rw [h29] at hd
      cases hd
      intro j
      have := b j
      unfold shM
      rw [if_neg (by omega), if_neg (by omega)]
      split
      · exact ⟨by omega, by omega⟩
      · exact this
    · have hm : shM M L.length s f i = M i := by
        funext b
        unfold shM
        rw [if_neg (by omega), if_neg (by omega), if_neg (fun z => e29 z.1)]
      rw [hm]
      exact b
  · rw [List.getElem?_append_right (by omega)] at hd
    have h2 : i - L.length < 2 := (List.getElem?_eq_some_iff.mp hd).1
    rcases (show i = L.length ∨ i = L.length + 1 by omega) with e | e
    · rw [e, Nat.sub_self] at hd
      cases hd
      refine ⟨⟨?_, _, rfl, rfl⟩, ?_⟩
      · intro fd hfd
        simp only [List.mem_cons, List.not_mem_nil, or_false] at hfd
        rcases hfd with rfl | rfl
        · intro _; exact ⟨by decide, by decide⟩
        · intro h; exact absurd h (show ¬ (1 : Nat) = 0 by decide)
      · intro j fd hj h1
        rw [e]
        match j, hj with
        | 0, hj =>
          cases hj
          unfold shM
          rw [if_pos rfl, if_pos rfl]
          exact hf
        | 1, hj => cases hj; exact absurd rfl h1
        | j + 2, hj => simp at hj
    · rw [e, show L.length + 1 - L.length = 1 by omega] at hd
      cases hd
      refine ⟨⟨?_, by decide, by omega⟩, ?_⟩
      · rw [if_neg (by decide)]; exact ⟨by decide, by decide⟩
      · intro j
        rw [e]
        unfold shM
        rw [if_neg (by omega), if_pos rfl]
        exact ⟨by decide, by decide⟩
/-! the class's sheet() -/
def QSH (D : va_G) (ca : Nat → ClassId) (ad : Nat → Nat) (L : List CD) (M : Mem) (s f n : Int) (A : Nat → Prop) : Array Value → State → Outcome → State → Prop := fun _ st oc t => (∃ x : Int, oc = .returned (some (.int (i32 x))) ∧ okV (aI x) ∧ (((s < 0 ∨ 4 ≤ s ∨ f < 0 ∨ 3 ≤ f ∨ 60 < n) ∧ x = -2 ∧ va_P D vwCl (conc ca ad L M) t.heap) ∨ (((0 ≤ s ∧ s < 4 ∧ 0 ≤ f ∧ f < 3) ∧ n < 0) ∧ x = -15 ∧ va_P D vwCl (conc ca ad L (up M 0 14 5)) t.heap ∧ okM L (up M 0 14 5)) ∨ (((0 ≤ s ∧ s < 4 ∧ 0 ≤ f ∧ f < 3) ∧ 0 ≤ n ∧ n ≤ 60) ∧ x = n ∧ ∃ q q' : Nat, va_P D vwCl (conc ca (shAd ad L.length q q') (L ++ [shO L.length, shA n.toNat]) (shM M L.length s.toNat f)) t.heap ∧ va_D A (conc ca (shAd ad L.length q q') (L ++ [shO L.length, shA n.toNat]) (shM M L.length s.toNat f))))) ∧ va_F A st t
def RtS (X : CTX) (L : List CD) (M : Mem) (s f n : Int) : Prop := match X with
  | (_, _, _, R, st, _, args, below, meth, _, cells, slots, Q, D, ca, ad, A) => meth.sig.returnType = some .int ∧ meth.locks = false ∧ cells = 0 ∧ slots = 0 ∧ R = roomI 2 2 62 80 ∧ Q = MQ below (QSH D ca ad L M s f n A) args st 2 62 A
theorem aw_rS1 {X : CTX} {L : List CD} {M : Mem} {s f n : Int} {pc : Nat} {loc : List (Nat × AV)} (cx : Cx X cX6_sheet RX6 4 2) (rt : RtS X L M s f n) (d : decode cX6_sheet pc = .ok (.ireturn, 1)) (h : s < 0 ∨ 4 ≤ s ∨ f < 0 ∨ 3 ≤ f ∨ 60 < n) : AW X L 4 pc loc [aI (-2)] M := by
  obtain ⟨p, l, e, R, st, m, args, below, meth, c, cells, slots, Q, D, ca, ad, A⟩ := X
  obtain ⟨hx, hb, hml, hown, hts, hK, hN, hA, hfr, hlo, hce, hsl⟩ := cx
  obtain ⟨hr, hlk, rfl, rfl, rfl, rfl⟩ := rt
  intro H locs ls hP hD hS hl ol os om
  refine W.widen (k := 2) (n := 62) (by omega) (by omega) ?_
  exact W.iret (v := i32 (-2)) hx hb hr (fun t ht hW => ⟨⟨-2, rfl, os0 os, Or.inl ⟨h, rfl, by rw [ht]; exact hP⟩⟩, hS.F ht⟩) hS.2.2 d hlk
theorem aw_rS2 {X : CTX} {L : List CD} {M M1 : Mem} {s f n x : Int} {pc : Nat} {loc : List (Nat × AV)} (cx : Cx X cX6_sheet RX6 4 2) (rt : RtS X L M s f n) (d : decode cX6_sheet pc = .ok (.ireturn, 1)) (h : (0 ≤ s ∧ s < 4 ∧ 0 ≤ f ∧ f < 3) ∧ n < 0) (hM : M1 = up M 0 14 5) (hx5 : x = -15) : AW X L 4 pc loc [aI x] M1 := by
  obtain ⟨p, l, e, R, st, m, args, below, meth, c, cells, slots, Q, D, ca, ad, A⟩ := X
  obtain ⟨hx, hb, hml, hown, hts, hK, hN, hA, hfr, hlo, hce, hsl⟩ := cx
  obtain ⟨hr, hlk, rfl, rfl, rfl, rfl⟩ := rt
  subst hM
  intro H locs ls hP hD hS hl ol os om
  refine W.widen (k := 2) (n := 62) (by omega) (by omega) ?_
  exact W.iret (v := i32 x) hx hb hr (fun t ht hW => ⟨⟨x, rfl, os0 os, Or.inr (Or.inl ⟨h, hx5, by rw [ht]; exact hP, om⟩)⟩, hS.F ht⟩) hS.2.2 d hlk
set_option maxHeartbeats 4000000 in
set_option maxRecDepth 100000 in
theorem sh_tail {X : CTX} {tl : List CD} {M : Mem} {s f : Int} {k : Nat} (cx : Cx X cX6_sheet RX6 4 2) (rt : RtS X (LB ++ tl) M s f (k : Int)) (hs : 0 ≤ s ∧ s < 4) (hf : 0 ≤ f ∧ f < 3) (hk : k ≤ 60) (hR : ∀ (i : Nat) (d : CD), (LB ++ tl)[i]? = some d → RefC (LB ++ tl).length d (M i)) : AW X (LB ++ tl) 4 40 [(0, aR 0), (1, aI s), (2, aI f), (3, aI (k : Int))] [aI s, aR 29] M := by
  obtain ⟨p, l, e, R, st, m, args, below, meth, c, cells, slots, Q, D, ca, ad, A⟩ := X
  obtain ⟨hx, hb, hml, hown, hts, hK, hN, hA, hfr, hlo, hce, hsl⟩ := cx
  obtain ⟨hr, hlk, rfl, rfl, rfl, rfl⟩ := rt
  intro H locs ls hP hD hS hl ol os om
  have hl : lv_has ls 4 [(0, .ref (ad 0)), (1, .int (i32 s)), (2, .int (i32 f)), (3, .int (i32 (k : Int)))] := hl
  have rs : okV (aI s) := os0 os
  have h65 : 65 ≤ (LB ++ tl).length := by
    rw [List.length_append]
    have : LB.length = 65 := rfl
    omega
  refine va_new (ci := 3) (fs := [.int (i32 0), .null]) (C := RX3) (T := TX3) (N := 2) hx hb hts inW_X3 tyX3 tyX3_ok hown (hts _ cl_X6_61) (hts _ nt_X3) (hts _ nz_X3) hK hP hD hS hA rfl (fun j hj => match j, hj with | 0, _ => congrArg Value.int i32_0.symm | 1, _ => rfl | j + 2, h => absurd h (by omega)) (Nat.le_of_ble_eq_true rfl) (Nat.le_of_ble_eq_true rfl) dX6_sheet_40 (fun q H hP hD hS => ?_)
  refine lv_dup hx hb dX6_sheet_43 rfl ?_
  refine lv_iload_n hx hb dX6_sheet_44 rfl (lv_at hl 2 rfl) ?_
  refine lv_iload_n hx hb dX6_sheet_45 rfl (lv_at hl 3 rfl) ?_
  have hFc := free2 hD hS hA
  refine va_callv (va_runI (As := [.int (i32 f), .int (i32 (k : Int))]) (rest := [.ref q, .int (i32 s), .ref (ad 29)]) ⟨hx, hb, hml, hown, hts⟩ (ci_X3_init l D ca q H.size k (i32 f) (by omega)) (cwI 2 hts (goodCode cw_X3_init) rfl rfl rfl (hts _ nz_X3) (hts _ ml_X6_244) (hts _ mi_X3_init) rfl (by decide +kernel) ⟨Nat.le_of_ble_eq_true rfl, Nat.le_of_ble_eq_true rfl⟩) ⟨PCi_blind (fun _ _ _ _ h => h), fun U hU hW => ⟨rfl, by rw [hU], by rw [hU]; exact sub2 hP, va_K.moved hW.alike hK, trivial, one2 trivial⟩⟩ rfl rfl hl.1 rfl (lv_room (Nat.le_of_ble_eq_true rfl)) dX6_sheet_46 ⟨Nat.le_of_ble_eq_true rfl, show 0 + 2 + k ≤ 62 by omega⟩) hS (fun q _ h => hFc q h) hFc (fun u t H1 locs ht hvm _ hB hz1 hk1 hS => ?_)
  obtain ⟨hP1, hD1⟩ := hB
  rw [ht] at hP1
  obtain ⟨hP, hD⟩ := join2 hP hD hk1 hFc hP1 hD1
  have hlen := conc_len (ca := ca) (ad := ad) (L := LB ++ tl) (M := M)
  have h29 : (conc ca ad (LB ++ tl) M ++ ([(q, .inr (3, [.int (i32 f), .ref (u 0)])), (u 0, .inl (ca 0, k, .inl (fun _ => i32 0)))] : va_W))[29]? = some (ad 29, .inl (ca 3, 4, .inr (.inr (.inr (.inr (fun j => if M 29 j < 0 then none else some (ad (M 29 j).toNat))))))) := by
    rw [List.getElem?_append_left (by rw [hlen]; omega)]
    exact conc_get (lb_29 tl)
  have hv : (conc ca ad (LB ++ tl) M ++ ([(q, .inr (3, [.int (i32 f), .ref (u 0)])), (u 0, .inl (ca 0, k, .inl (fun _ => i32 0)))] : va_W))[(LB ++ tl).length]? = some (q, .inr (3, [.int (i32 f), .ref (u 0)])) := by
    rw [List.getElem?_append_right (by rw [hlen]; exact Nat.le_refl _), hlen, Nat.sub_self]
    rfl
  refine va_astq hx hb hK hP hD hS 29 3 (LB ++ tl).length 3 h29 rfl hv rfl (i32_in rs hs) dX6_sheet_49 (fun H2 locs2 hP hD hS => ?_)
  rw [i32_clamp rs, conc_sh (lb_29 tl) hR h65] at hP hD
  refine lv_iload_n hx hb dX6_sheet_50 rfl (lv_at hl 3 rfl) ?_
  refine W.widen (k := 2) (n := 62) (Nat.le_of_ble_eq_true rfl) (show 0 + 2 + k ≤ 62 by omega) ?_
  have ok : okV (aI (k : Int)) := ⟨by omega, by omega⟩
  exact W.iret (v := i32 (k : Int)) hx hb hr (fun t ht hW => ⟨⟨(k : Int), rfl, ok, Or.inr (Or.inr ⟨⟨⟨hs.1, hs.2, hf.1, hf.2⟩, by omega, by omega⟩, rfl, q, u 0, by rw [ht]; exact hP, hD⟩)⟩, hS.F ht⟩) hS.2.2 dX6_sheet_51 hlk
