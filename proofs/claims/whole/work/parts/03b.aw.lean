section AWh
variable {X : CTX} {L : List CD} {nL pc dd : Nat} {loc : List (Nat × AV)} {stk : List AV} {M : Mem} {cc : ByteArray} {own : String}
def FL (own : String) (idx ci j : Nat) : Prop := ∃ (C : String) (T : u_T) (N : Nat), vwCl[ci]? = some (C, T, N) ∧ j < N ∧ (∀ w ∈ u_ws C T N, w ∈ WS) ∧ Cond.fieldLink own idx (T j).1 (T j).2.1 (T j).2.2.1 ∈ WS
/-- what is known of a class's fields: their types, names apart -/
def KT (ci : Nat) (T : u_T) (N : Nat) (ty : Nat → FieldType) : Prop := (∃ C, vwCl[ci]? = some (C, T, N)) ∧ (∀ k, k < N → parseFieldDescriptor (T k).2.2.1 = some (ty k)) ∧ ∀ a, a < N → ∀ b, b < N → a ≠ b → (T a).2.1 ≠ (T b).2.1
theorem fv_at {ad : Nat → Nat} {fds : List FD} {f : Nat → Int} {j : Nat} {fd : FD} (h : fds[j]? = some fd) : (fds.mapIdx (fun j fd => cfd ad fd (f j)))[j]? = some (cfd ad fd (f j)) := by
  rw [List.getElem?_mapIdx, h]
  rfl
theorem fv_set {ad : Nat → Nat} {fds : List FD} {f : Nat → Int} {j : Nat} {fd : FD} {x : Int} (h : fds[j]? = some fd) : (fds.mapIdx (fun j fd => cfd ad fd (f j))).set j (cfd ad fd x) = fds.mapIdx (fun i fd => cfd ad fd (up1 f j x i)) := by
  apply List.ext_getElem?
  intro i
  have hj : j < fds.length := (List.getElem?_eq_some_iff.mp h).1
  rw [List.getElem?_set, List.getElem?_mapIdx, List.getElem?_mapIdx]
  by_cases hi : j = i
  · subst hi
    rw [if_pos rfl, if_pos (by rw [List.length_mapIdx]; exact hj), h]
    simp [up1]
  · rw [if_neg hi]
    cases hL : fds[i]? with
    | none => rfl
    | some d' =>
      have hij : ¬ i = j := fun q => hi q.symm
      simp [up1, hij]
theorem aw_getI {k ci j idx : Nat} {fds : List FD} {lo hi : Int} (cx : Cx X cc own nL dd) (d : decode cc pc = .ok (.getfield idx, 3)) (fl : FL own idx ci j) (hk : L[k]? = some (.inl (ci, fds))) (hf : fds[j]? = some (0, lo, hi)) (kk : ∀ z, z = M k j → lo ≤ z → z ≤ hi → AW X L nL (pc + 3) loc (aI z :: stk) M) : AW X L nL pc loc (aR k :: stk) M := by
  obtain ⟨p, l, e, R, s, m, args, below, meth, c, cells, slots, Q, D, ca, ad, A⟩ := X
  obtain ⟨hx, hb, hml, hown, hts, hK, hN, hA, hfr, hlo, hce, hsl⟩ := cx
  intro H locs ls hP hD hS hl ol os om
  obtain ⟨C, T, N, hc, hj, hin, hlk⟩ := fl
  have hb0 : lo ≤ M k j ∧ M k j ≤ hi := (om k _ hk).2 j _ hf (show (0 : Nat) ≠ 1 by decide)
  have hb1 : -2147483648 ≤ lo ∧ hi < 2147483648 := (om k _ hk).1.1 _ (List.mem_of_getElem? hf) rfl
  exact va_get hx hb hts hin hown hK hP k (conc_get hk) hc j hj (hts _ hlk) (fun _ h => h) (fv_at hf) d (kk _ rfl hb0.1 hb0.2 H locs ls hP hD hS hl ol (osc (show _ ∧ _ from ⟨by omega, by omega⟩) (os1 os)) om)
theorem aw_getR {k ci j idx q : Nat} {fds : List FD} {qi z : Int} (cx : Cx X cc own nL dd) (d : decode cc pc = .ok (.getfield idx, 3)) (fl : FL own idx ci j) (hk : L[k]? = some (.inl (ci, fds))) (hf : fds[j]? = some (1, qi, z)) (hq : qi.toNat = q) (kk : AW X L nL (pc + 3) loc (aR q :: stk) M) : AW X L nL pc loc (aR k :: stk) M := by
  obtain ⟨p, l, e, R, s, m, args, below, meth, c, cells, slots, Q, D, ca, ad, A⟩ := X
  obtain ⟨hx, hb, hml, hown, hts, hK, hN, hA, hfr, hlo, hce, hsl⟩ := cx
  intro H locs ls hP hD hS hl ol os om
  obtain ⟨C, T, N, hc, hj, hin, hlk⟩ := fl
  subst hq
  exact va_get hx hb hts hin hown hK hP k (conc_get hk) hc j hj (hts _ hlk) (fun _ h => h) (fv_at hf) d (kk H locs ls hP hD hS hl ol (osc (show okV (aR _) from trivial) (os1 os)) om)
theorem aw_getD {k ci j idx q : Nat} {fds : List FD} {lo hi : Int} (cx : Cx X cc own nL dd) (d : decode cc pc = .ok (.getfield idx, 3)) (fl : FL own idx ci j) (hk : L[k]? = some (.inl (ci, fds))) (hf : fds[j]? = some (2, lo, hi)) (hq : M k j = (q : Int)) (kk : AW X L nL (pc + 3) loc (aR q :: stk) M) : AW X L nL pc loc (aR k :: stk) M := by
  obtain ⟨p, l, e, R, s, m, args, below, meth, c, cells, slots, Q, D, ca, ad, A⟩ := X
  obtain ⟨hx, hb, hml, hown, hts, hK, hN, hA, hfr, hlo, hce, hsl⟩ := cx
  intro H locs ls hP hD hS hl ol os om
  obtain ⟨C, T, N, hc, hj, hin, hlk⟩ := fl
  refine va_get hx hb hts hin hown hK hP k (conc_get hk) hc j hj (hts _ hlk) (fun _ h => h) (fv_at hf) d ?_
  rw [show cfd ad (2, lo, hi) (M k j) = cv ad (aR q) by
    unfold cfd
    rw [if_neg (show ¬ (2 : Nat) = 0 by decide), if_neg (show ¬ (2 : Nat) = 1 by decide), hq, if_neg (by omega)]
    rfl]
  exact kk H locs ls hP hD hS hl ol (osc (show okV (aR _) from trivial) (os1 os)) om
theorem aw_putI {k ci j idx : Nat} {fds : List FD} {lo hi x : Int} {T : u_T} {N : Nat} {ty : Nat → FieldType} (cx : Cx X cc own nL dd) (d : decode cc pc = .ok (.putfield idx, 3)) (fl : FL own idx ci j) (kt : KT ci T N ty) (hfin : (T j).2.2.2 = false) (hty : ty j = .int) (hk : L[k]? = some (.inl (ci, fds))) (hf : fds[j]? = some (0, lo, hi)) (hv : lo ≤ x ∧ x ≤ hi) (kk : AW X L nL (pc + 3) loc stk (up M k j x)) : AW X L nL pc loc (aI x :: aR k :: stk) M := by
  obtain ⟨p, l, e, R, s, m, args, below, meth, c, cells, slots, Q, D, ca, ad, A⟩ := X
  obtain ⟨hx, hb, hml, hown, hts, hK, hN, hA, hfr, hlo, hce, hsl⟩ := cx
  intro H locs ls hP hD hS hl ol os om
  obtain ⟨C, T', N', hc, hj, hin, hlk⟩ := fl
  obtain ⟨⟨C', hc'⟩, hpt, hnm⟩ := kt
  rw [hc] at hc'
  cases hc'
  have hlen : j < (fds.mapIdx (fun j fd => cfd ad fd (M k j))).length := by rw [List.length_mapIdx]; exact (List.getElem?_eq_some_iff.mp hf).1
  refine va_put (v := .int (i32 x)) (ty := .int) hx hb hts hin ty hpt hnm hown hK hP hD hS k (conc_get hk) hc j hj (hts _ hlk) (fun _ h => h) hfin (by rw [hpt j hj, hty]) rfl rfl hlen d (fun H1 locs1 hP1 hD1 hS1 => ?_)
  have hset : (fds.mapIdx (fun j fd => cfd ad fd (M k j))).set j (.int (i32 x)) = fds.mapIdx (fun i fd => cfd ad fd (up1 (M k) j x i)) := fv_set hf
  rw [hset] at hP1 hD1
  have hcu := conc_up (ca := ca) (ad := ad) (M := M) (j := j) (v := x) hk
  have hP1 := (show va_P D vwCl ((conc ca ad L M).set k (ad k, ccell ca ad (.inl (ci, fds)) (up1 (M k) j x))) H1 from hP1)
  have hD1 := (show va_D A ((conc ca ad L M).set k (ad k, ccell ca ad (.inl (ci, fds)) (up1 (M k) j x))) from hD1)
  rw [hcu] at hP1 hD1
  exact kk H1 locs1 ls hP1 hD1 hS1 hl ol (os1 (os1 os)) (okM_upF hk hf om hv)
theorem aw_putR {k ci j idx q : Nat} {fds : List FD} {lo hi : Int} {T : u_T} {N : Nat} {ty : Nat → FieldType} {cn : String} (cx : Cx X cc own nL dd) (d : decode cc pc = .ok (.putfield idx, 3)) (fl : FL own idx ci j) (kt : KT ci T N ty) (hfin : (T j).2.2.2 = false) (hty : ty j = .object cn) (hk : L[k]? = some (.inl (ci, fds))) (hf : fds[j]? = some (2, lo, hi)) (hv : lo ≤ (q : Int) ∧ (q : Int) ≤ hi) (kk : AW X L nL (pc + 3) loc stk (up M k j (q : Int))) : AW X L nL pc loc (aR q :: aR k :: stk) M := by
  obtain ⟨p, l, e, R, s, m, args, below, meth, c, cells, slots, Q, D, ca, ad, A⟩ := X
  obtain ⟨hx, hb, hml, hown, hts, hK, hN, hA, hfr, hlo, hce, hsl⟩ := cx
  intro H locs ls hP hD hS hl ol os om
  obtain ⟨C, T', N', hc, hj, hin, hlk⟩ := fl
  obtain ⟨⟨C', hc'⟩, hpt, hnm⟩ := kt
  rw [hc] at hc'
  cases hc'
  have hlen : j < (fds.mapIdx (fun j fd => cfd ad fd (M k j))).length := by rw [List.length_mapIdx]; exact (List.getElem?_eq_some_iff.mp hf).1
  refine va_put (v := .ref (ad q)) (ty := .object cn) hx hb hts hin ty hpt hnm hown hK hP hD hS k (conc_get hk) hc j hj (hts _ hlk) (fun _ h => h) hfin (by rw [hpt j hj, hty]) rfl rfl hlen d (fun H1 locs1 hP1 hD1 hS1 => ?_)
  have hcf : cfd ad (2, lo, hi) (q : Int) = .ref (ad q) := by
    unfold cfd
    rw [if_neg (show ¬ (2 : Nat) = 0 by decide), if_neg (show ¬ (2 : Nat) = 1 by decide), if_neg (by omega)]
    rfl
  have hset : (fds.mapIdx (fun j fd => cfd ad fd (M k j))).set j (.ref (ad q)) = fds.mapIdx (fun i fd => cfd ad fd (up1 (M k) j (q : Int) i)) := by
    rw [← hcf]
    exact fv_set hf
  rw [hset] at hP1 hD1
  have hcu := conc_up (ca := ca) (ad := ad) (M := M) (j := j) (v := (q : Int)) hk
  have hP1 := (show va_P D vwCl ((conc ca ad L M).set k (ad k, ccell ca ad (.inl (ci, fds)) (up1 (M k) j (q : Int)))) H1 from hP1)
  have hD1 := (show va_D A ((conc ca ad L M).set k (ad k, ccell ca ad (.inl (ci, fds)) (up1 (M k) j (q : Int)))) from hD1)
  rw [hcu] at hP1 hD1
  exact kk H1 locs1 ls hP1 hD1 hS1 hl ol (os1 (os1 os)) (okM_upF hk hf om hv)
theorem i32_upd (f : Nat → Int) (j : Nat) (x : Int) : upd (fun j => i32 (f j)) j (i32 x) = fun b => i32 (up1 f j x b) := by
  funext b
  unfold upd up1
  split <;> rfl
theorem i64_upd (f : Nat → Int) (j : Nat) (x : Int) : vp_updL (fun j => i64 (f j)) j (i64 x) = fun b => i64 (up1 f j x b) := by
  funext b
  unfold vp_updL up1
  split <;> rfl

theorem aw_iald {k n : Nat} {i lo hi : Int} (cx : Cx X cc own nL dd) (d : decode cc pc = .ok (.iaload, 1)) (hk : L[k]? = some (.inr (0, n, lo, hi))) (hi2 : 0 ≤ i ∧ i < n) (kk : ∀ z, z = M k i.toNat → lo ≤ z → z ≤ hi → AW X L nL (pc + 1) loc (aI z :: stk) M) : AW X L nL pc loc (aI i :: aR k :: stk) M := by
  obtain ⟨p, l, e, R, s, m, args, below, meth, c, cells, slots, Q, D, ca, ad, A⟩ := X
  obtain ⟨hx, hb, hml, hown, hts, hK, hN, hA, hfr, hlo, hce, hsl⟩ := cx
  intro H locs ls hP hD hS hl ol os om
  have hr : okV (aI i) := os0 os
  have hb0 : lo ≤ M k i.toNat ∧ M k i.toNat ≤ hi := (om k _ hk).2 i.toNat
  have hb1 : -2147483648 ≤ lo ∧ hi < 2147483648 := (om k _ hk).1.1
  refine va_iald hx hb hK hP k 0 (conc_get hk) rfl (i32_in hr hi2) d ?_
  rw [i32_clamp hr]
  exact kk _ rfl hb0.1 hb0.2 H locs ls hP hD hS hl ol (osc (show _ ∧ _ from ⟨by omega, by omega⟩) (os1 (os1 os))) om
theorem aw_zald {k n : Nat} {i lo hi : Int} (cx : Cx X cc own nL dd) (d : decode cc pc = .ok (.baload, 1)) (hk : L[k]? = some (.inr (1, n, lo, hi))) (hi2 : 0 ≤ i ∧ i < n) (kk : ∀ z, z = M k i.toNat → lo ≤ z → z ≤ hi → AW X L nL (pc + 1) loc (aI z :: stk) M) : AW X L nL pc loc (aI i :: aR k :: stk) M := by
  obtain ⟨p, l, e, R, s, m, args, below, meth, c, cells, slots, Q, D, ca, ad, A⟩ := X
  obtain ⟨hx, hb, hml, hown, hts, hK, hN, hA, hfr, hlo, hce, hsl⟩ := cx
  intro H locs ls hP hD hS hl ol os om
  have hr : okV (aI i) := os0 os
  have hb0 : lo ≤ M k i.toNat ∧ M k i.toNat ≤ hi := (om k _ hk).2 i.toNat
  have hb1 : -2147483648 ≤ lo ∧ hi < 2147483648 := (om k _ hk).1.1
  refine va_zald hx hb hK hP k 1 (conc_get hk) rfl (i32_in hr hi2) d ?_
  rw [i32_clamp hr]
  exact kk _ rfl hb0.1 hb0.2 H locs ls hP hD hS hl ol (osc (show _ ∧ _ from ⟨by omega, by omega⟩) (os1 (os1 os))) om
theorem aw_lald {k n : Nat} {i lo hi : Int} (cx : Cx X cc own nL dd) (d : decode cc pc = .ok (.laload, 1)) (hk : L[k]? = some (.inr (2, n, lo, hi))) (hi2 : 0 ≤ i ∧ i < n) (kk : ∀ z, z = M k i.toNat → lo ≤ z → z ≤ hi → AW X L nL (pc + 1) loc (aL z :: stk) M) : AW X L nL pc loc (aI i :: aR k :: stk) M := by
  obtain ⟨p, l, e, R, s, m, args, below, meth, c, cells, slots, Q, D, ca, ad, A⟩ := X
  obtain ⟨hx, hb, hml, hown, hts, hK, hN, hA, hfr, hlo, hce, hsl⟩ := cx
  intro H locs ls hP hD hS hl ol os om
  have hr : okV (aI i) := os0 os
  have hb0 : lo ≤ M k i.toNat ∧ M k i.toNat ≤ hi := (om k _ hk).2 i.toNat
  have hb1 : -9223372036854775808 ≤ lo ∧ hi < 9223372036854775808 := (om k _ hk).1.1
  refine va_lald hx hb hK hP k 2 (conc_get hk) rfl (i32_in hr hi2) d ?_
  rw [i32_clamp hr]
  exact kk _ rfl hb0.1 hb0.2 H locs ls hP hD hS hl ol (osc (show _ ∧ _ from ⟨by omega, by omega⟩) (os1 (os1 os))) om
theorem aw_iast {k n : Nat} {i x lo hi : Int} (cx : Cx X cc own nL dd) (d : decode cc pc = .ok (.iastore, 1)) (hk : L[k]? = some (.inr (0, n, lo, hi))) (hi2 : 0 ≤ i ∧ i < n) (hv : lo ≤ x ∧ x ≤ hi) (kk : AW X L nL (pc + 1) loc stk (up M k i.toNat x)) : AW X L nL pc loc (aI x :: aI i :: aR k :: stk) M := by
  obtain ⟨p, l, e, R, s, m, args, below, meth, c, cells, slots, Q, D, ca, ad, A⟩ := X
  obtain ⟨hx, hb, hml, hown, hts, hK, hN, hA, hfr, hlo, hce, hsl⟩ := cx
  intro H locs ls hP hD hS hl ol os om
  have hr : okV (aI i) := os0 (os1 os)
  refine va_iast hx hb hK hP hD hS k 0 (conc_get hk) rfl (i32_in hr hi2) d (fun H1 locs1 hP1 hD1 hS1 => ?_)
  rw [i32_clamp hr, i32_upd] at hP1 hD1
  have hcu := conc_up (ca := ca) (ad := ad) (M := M) (j := i.toNat) (v := x) hk
  have hP1 := (show va_P D vwCl ((conc ca ad L M).set k (ad k, ccell ca ad (.inr (0, n, lo, hi)) (up1 (M k) i.toNat x))) H1 from hP1)
  have hD1 := (show va_D A ((conc ca ad L M).set k (ad k, ccell ca ad (.inr (0, n, lo, hi)) (up1 (M k) i.toNat x))) from hD1)
  rw [hcu] at hP1 hD1
  exact kk H1 locs1 ls hP1 hD1 hS1 hl ol (os1 (os1 (os1 os))) (okM_upA hk om hv)
theorem aw_last {k n : Nat} {i x lo hi : Int} (cx : Cx X cc own nL dd) (d : decode cc pc = .ok (.lastore, 1)) (hk : L[k]? = some (.inr (2, n, lo, hi))) (hi2 : 0 ≤ i ∧ i < n) (hv : lo ≤ x ∧ x ≤ hi) (kk : AW X L nL (pc + 1) loc stk (up M k i.toNat x)) : AW X L nL pc loc (aL x :: aI i :: aR k :: stk) M := by
  obtain ⟨p, l, e, R, s, m, args, below, meth, c, cells, slots, Q, D, ca, ad, A⟩ := X
  obtain ⟨hx, hb, hml, hown, hts, hK, hN, hA, hfr, hlo, hce, hsl⟩ := cx
  intro H locs ls hP hD hS hl ol os om
  have hr : okV (aI i) := os0 (os1 os)
  refine va_last hx hb hK hP hD hS k 2 (conc_get hk) rfl (i32_in hr hi2) d (fun H1 locs1 hP1 hD1 hS1 => ?_)
  rw [i32_clamp hr, i64_upd] at hP1 hD1
  have hcu := conc_up (ca := ca) (ad := ad) (M := M) (j := i.toNat) (v := x) hk
  have hP1 := (show va_P D vwCl ((conc ca ad L M).set k (ad k, ccell ca ad (.inr (2, n, lo, hi)) (up1 (M k) i.toNat x))) H1 from hP1)
  have hD1 := (show va_D A ((conc ca ad L M).set k (ad k, ccell ca ad (.inr (2, n, lo, hi)) (up1 (M k) i.toNat x))) from hD1)
  rw [hcu] at hP1 hD1
  exact kk H1 locs1 ls hP1 hD1 hS1 hl ol (os1 (os1 (os1 os))) (okM_upA hk om hv)
theorem nar_bool {x : Int} (h : x = 0 ∨ x = 1) : vp_nar .boolean (i32 x) = i32 x := by
  rcases h with rfl | rfl <;> decide +kernel
theorem aw_zast {k n : Nat} {i x lo hi : Int} (cx : Cx X cc own nL dd) (d : decode cc pc = .ok (.bastore, 1)) (hk : L[k]? = some (.inr (1, n, lo, hi))) (hi2 : 0 ≤ i ∧ i < n) (hv : lo ≤ x ∧ x ≤ hi) (h01 : x = 0 ∨ x = 1) (kk : AW X L nL (pc + 1) loc stk (up M k i.toNat x)) : AW X L nL pc loc (aI x :: aI i :: aR k :: stk) M := by
  obtain ⟨p, l, e, R, s, m, args, below, meth, c, cells, slots, Q, D, ca, ad, A⟩ := X
  obtain ⟨hx, hb, hml, hown, hts, hK, hN, hA, hfr, hlo, hce, hsl⟩ := cx
  intro H locs ls hP hD hS hl ol os om
  have hr : okV (aI i) := os0 (os1 os)
  refine va_zast hx hb hK hP hD hS k 1 (conc_get hk) rfl (i32_in hr hi2) d (fun H1 locs1 hP1 hD1 hS1 => ?_)
  rw [i32_clamp hr, nar_bool h01, i32_upd] at hP1 hD1
  have hcu := conc_up (ca := ca) (ad := ad) (M := M) (j := i.toNat) (v := x) hk
  have hP1 := (show va_P D vwCl ((conc ca ad L M).set k (ad k, ccell ca ad (.inr (1, n, lo, hi)) (up1 (M k) i.toNat x))) H1 from hP1)
  have hD1 := (show va_D A ((conc ca ad L M).set k (ad k, ccell ca ad (.inr (1, n, lo, hi)) (up1 (M k) i.toNat x))) from hD1)
  rw [hcu] at hP1 hD1
  exact kk H1 locs1 ls hP1 hD1 hS1 hl ol (os1 (os1 (os1 os))) (okM_upA hk om hv)
theorem aw_alen {k t n : Nat} {lo hi : Int} (cx : Cx X cc own nL dd) (d : decode cc pc = .ok (.arraylength, 1)) (hk : L[k]? = some (.inr (t, n, lo, hi))) (kk : AW X L nL (pc + 1) loc (aI (n : Int) :: stk) M) : AW X L nL pc loc (aR k :: stk) M := by
  obtain ⟨p, l, e, R, s, m, args, below, meth, c, cells, slots, Q, D, ca, ad, A⟩ := X
  obtain ⟨hx, hb, hml, hown, hts, hK, hN, hA, hfr, hlo, hce, hsl⟩ := cx
  intro H locs ls hP hD hS hl ol os om
  have hb1 : t < 4 ∧ n < 2147483648 := (om k _ hk).1.2
  obtain ⟨ty, ht⟩ : ∃ ty, (TY ca)[t]? = some (ca t, ty) := by
    match t, hb1.1 with
    | 0, _ => exact ⟨_, rfl⟩
    | 1, _ => exact ⟨_, rfl⟩
    | 2, _ => exact ⟨_, rfl⟩
    | 3, _ => exact ⟨_, rfl⟩
  exact va_alen hx hb hK hP k t (conc_get hk) ht (v := i32 (n : Int)) rfl d (kk H locs ls hP hD hS hl ol (osc (show _ ∧ _ from ⟨by omega, by omega⟩) (os1 os)) om)
theorem aw_aald {k n : Nat} {i lo hi : Int} {v : AV} (cx : Cx X cc own nL dd) (d : decode cc pc = .ok (.aaload, 1)) (hk : L[k]? = some (.inr (3, n, lo, hi))) (hi2 : 0 ≤ i ∧ i < n) (hv : v = if M k i.toNat < 0 then aN else aR (M k i.toNat).toNat) (kk : AW X L nL (pc + 1) loc (v :: stk) M) : AW X L nL pc loc (aI i :: aR k :: stk) M := by
  obtain ⟨p, l, e, R, s, m, args, below, meth, c, cells, slots, Q, D, ca, ad, A⟩ := X
  obtain ⟨hx, hb, hml, hown, hts, hK, hN, hA, hfr, hlo, hce, hsl⟩ := cx
  intro H locs ls hP hD hS hl ol os om
  have hr : okV (aI i) := os0 os
  refine va_aldq hx hb hK hP k 3 (conc_get hk) rfl (i32_in hr hi2) d ?_
  rw [i32_clamp hr]
  subst hv
  by_cases h : M k i.toNat < 0
  · rw [if_pos h]
    have kk := kk H locs ls hP hD hS hl ol (by rw [if_pos h]; exact osc (show okV aN from trivial) (os1 (os1 os))) om
    rw [if_pos h] at kk
    exact kk
  · rw [if_neg h]
    have kk := kk H locs ls hP hD hS hl ol (by rw [if_neg h]; exact osc (show okV (aR _) from trivial) (os1 (os1 os))) om
    rw [if_neg h] at kk
    exact kk
theorem rf_upN (ad : Nat → Nat) (f : Nat → Int) (j : Nat) : va_up (fun j => if f j < 0 then none else some (ad (f j).toNat)) j none = fun b => if up1 f j (-1) b < 0 then none else some (ad (up1 f j (-1) b).toNat) := by
  funext b
  unfold va_up up1
  by_cases h : b = j
  · simp [h]
  · simp [h]
theorem aw_aastN {k n : Nat} {i lo hi : Int} (cx : Cx X cc own nL dd) (d : decode cc pc = .ok (.aastore, 1)) (hk : L[k]? = some (.inr (3, n, lo, hi))) (hi2 : 0 ≤ i ∧ i < n) (hv : lo ≤ -1 ∧ -1 ≤ hi) (kk : AW X L nL (pc + 1) loc stk (up M k i.toNat (-1))) : AW X L nL pc loc (aN :: aI i :: aR k :: stk) M := by
  obtain ⟨p, l, e, R, s, m, args, below, meth, c, cells, slots, Q, D, ca, ad, A⟩ := X
  obtain ⟨hx, hb, hml, hown, hts, hK, hN, hA, hfr, hlo, hce, hsl⟩ := cx
  intro H locs ls hP hD hS hl ol os om
  have hr : okV (aI i) := os0 (os1 os)
  refine va_astqN hx hb hK hP hD hS k 3 (conc_get hk) rfl (i32_in hr hi2) d (fun H1 locs1 hP1 hD1 hS1 => ?_)
  rw [i32_clamp hr, rf_upN] at hP1 hD1
  have hcu := conc_up (ca := ca) (ad := ad) (M := M) (j := i.toNat) (v := -1) hk
  have hP1 := (show va_P D vwCl ((conc ca ad L M).set k (ad k, ccell ca ad (.inr (3, n, lo, hi)) (up1 (M k) i.toNat (-1)))) H1 from hP1)
  have hD1 := (show va_D A ((conc ca ad L M).set k (ad k, ccell ca ad (.inr (3, n, lo, hi)) (up1 (M k) i.toNat (-1)))) from hD1)
  rw [hcu] at hP1 hD1
  exact kk H1 locs1 ls hP1 hD1 hS1 hl ol (os1 (os1 (os1 os))) (okM_upA hk om hv)
end AWh
