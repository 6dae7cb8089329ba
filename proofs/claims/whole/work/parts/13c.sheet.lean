abbrev LOCl (x3 : Int) : List (Nat × AV) := [(3, aI x3), (2, aR 32), (1, aR 0), (0, aR SCI)]
set_option maxHeartbeats 4000000 in
theorem aw_callSh {p : Program} {l : Launch} {e : Env} {R : Room} {s0 : State} {m : MethodId} {args : Array Value} {below : List Frame} {meth : Method} {c : Code} {cells slots : Nat} {Q : State → Prop} {D : va_G} {ca : Nat → ClassId} {ad : Nat → Nat} {A : Nat → Prop} {tl : List CD} {M : Mem} {s f n x3 : Int}
    (cx : Cx (p, l, e, R, s0, m, args, below, meth, c, cells, slots, Q, D, ca, ad, A) cL_law RL 4 13) (hroom : cells + 2 ≤ R.cells ∧ slots + 62 ≤ R.slots) (hJ : JA tl M) (hlen : (LB ++ tl).length < 900000)
    (k1 : (s < 0 ∨ 4 ≤ s ∨ f < 0 ∨ 3 ≤ f ∨ 60 < n) → AW (p, l, e, R, s0, m, args, below, meth, c, cells + 2, slots + 62, Q, D, ca, ad, A) (LB ++ tl) 4 1030 (LOCl x3) [aI (-2)] M)
    (k2 : (0 ≤ s ∧ s < 4 ∧ 0 ≤ f ∧ f < 3) ∧ n < 0 → AW (p, l, e, R, s0, m, args, below, meth, c, cells + 2, slots + 62, Q, D, ca, ad, A) (LB ++ tl) 4 1030 (LOCl x3) [aI (-15)] (up M 0 14 5))
    (k3 : (0 ≤ s ∧ s < 4 ∧ 0 ≤ f ∧ f < 3) ∧ 0 ≤ n ∧ n ≤ 60 → ∀ q q' : Nat, AW (p, l, e, R, s0, m, args, below, meth, c, cells + 2, slots + 62, Q, D, ca, shAd ad (LB ++ tl).length q q', A) (LB ++ (tl ++ [shO (LB ++ tl).length, shA n.toNat])) 4 1030 (LOCl x3) [aI n] (shM M (LB ++ tl).length s.toNat f)) :
    AW (p, l, e, R, s0, m, args, below, meth, c, cells, slots, Q, D, ca, ad, A) (LB ++ tl) 4 1027 (LOCl x3) [aI n, aI f, aI s, aR 0] M := by
  obtain ⟨hx, hb, hml, hown, hts, hK, hN, hA, hfr, hlo, hce, hsl⟩ := cx
  intro H locs ls hP hD hS hl ol os om
  obtain ⟨m1, m2, m3, m4, m5, m6⟩ := mv_X6_sheet
  have oa : ∀ v ∈ [aR 0, aI s, aI f, aI n], okV v := List.forall_mem_cons.mpr ⟨trivial, List.forall_mem_cons.mpr ⟨os0 (os1 (os1 os)), List.forall_mem_cons.mpr ⟨os0 (os1 os), List.forall_mem_cons.mpr ⟨os0 os, fun v h => by cases h⟩⟩⟩⟩
  have hR := RefM_of om hJ.2.2.2.2.2 hJ.2.2.2.2.1
  have h65 : 65 ≤ (LB ++ tl).length := by
    rw [List.length_append]
    have : LB.length = 65 := rfl
    omega
  have hM := met_sheet tl M s f n l D ca ad H.size oa om hR
  have hr := va_runV (p := p) (l := l) (e := e) (R := R) (s := s0) (m := m) (args := args) (below := below) (meth := meth) (c := c) (H := H) (locs := locs) (cells := cells) (slots := slots) (g := F0 m 1027 ls [.int (i32 n), .int (i32 f), .int (i32 s), .ref (ad 0)]) (As := [.int (i32 s), .int (i32 f), .int (i32 n)]) (rest := []) (C := RX6) (bytes := cX6_sheet) (maxL := 4) (ret := some .int) ⟨hx, hb, hml, hown, hts⟩ hM ⟨callB_of 3 hts (goodCode m4) rfl rfl rfl (hts _ m3) (hts _ ml_L_138) m5 ⟨show 2 + 1 ≤ R.frames by omega, show 8 + (4 + 11) + 80 ≤ R.locals by omega⟩, hts _ m1, hts _ m2⟩ ⟨PC_blind _ _ _ _ _ _ _, va_recv hK hP (ci := 6) (q0 := 0) rfl (conc_get (lb_0 tl)), fun U hU hW => ⟨rfl, by rw [hU], by rw [hU]; exact hP, va_K.moved hW.alike hK, hN.warm hW, hD.weaken (fun _ _ _ _ => trivial)⟩⟩ rfl rfl hl.1 rfl (lv_room (Nat.le_of_ble_eq_true rfl)) dL_law_1027 hroom
  have hF : ∀ q, va_A (conc ca ad (LB ++ tl) M) H.size q → A q := by
    intro q h
    rcases h with ⟨k, e, h⟩ | h
    · exact hD.2 k _ h
    · exact hA q (Nat.le_trans hS.1 h)
  intro T hT X0
  obtain ⟨v, st₀, t, T', L', h0, X', hL, e1, e2, ⟨⟨x, hv, hok, hcases⟩, hz, hk⟩, st⟩ := hr T hT X0
  cases hv
  rw [h0] at hz hk
  have hS2 : va_S A s0.heap T'.heap (locs ++ L') := ⟨Nat.le_trans hS.1 (by rw [e1]; exact hz), fun q h1 h2 => by rw [e1, hk q (Nat.lt_of_lt_of_le h1 hS.1) (fun z => h2 (hF q z))]; exact hS.2.1 q h1 h2, fun q hq => by
      rcases List.mem_append.mp hq with h | h
      · exact hS.2.2 q h
      · exact hF _ (hL q h)⟩
  have okx : ∀ v ∈ [aI x], okV v := List.forall_mem_cons.mpr ⟨hok, fun v h => by cases h⟩
  rcases hcases with ⟨c1, c2, c3⟩ | ⟨c1, c2, c3, c4⟩ | ⟨c1, c2, q, q', c3, c4⟩
  · subst c2
    obtain ⟨t2, a1, b1⟩ := k1 c1 T'.heap (locs ++ L') ls (by rw [e1]; exact c3) hD hS2 hl ol okx om T' rfl X'
    exact ⟨t2, st t2 a1, b1⟩
  · subst c2
    obtain ⟨t2, a1, b1⟩ := k2 c1 T'.heap (locs ++ L') ls (by rw [e1]; exact c3) (conc_D (B := A) hD) hS2 hl ol okx c4 T' rfl X'
    exact ⟨t2, st t2 a1, b1⟩
  · subst c2
    have hll : cvl (shAd ad (LB ++ tl).length q q') (LOCl x3) = cvl ad (LOCl x3) := by
      have g : ∀ i, i ≠ (LB ++ tl).length → i ≠ (LB ++ tl).length + 1 → shAd ad (LB ++ tl).length q q' i = ad i := by
        intro i h1 h2
        unfold shAd
        rw [if_neg h1, if_neg h2]
      show [(3, Value.int (i32 x3)), (2, Value.ref (shAd ad (LB ++ tl).length q q' 32)), (1, Value.ref (shAd ad (LB ++ tl).length q q' 0)), (0, Value.ref (shAd ad (LB ++ tl).length q q' SCI))] = [(3, Value.int (i32 x3)), (2, Value.ref (ad 32)), (1, Value.ref (ad 0)), (0, Value.ref (ad SCI))]
      rw [g 32 (by omega) (by omega), g 0 (by omega) (by omega), g SCI (by unfold SCI; omega) (by unfold SCI; omega)]
    have k3' := k3 c1 q q'
    rw [show LB ++ (tl ++ [shO (LB ++ tl).length, shA x.toNat]) = (LB ++ tl) ++ [shO (LB ++ tl).length, shA x.toNat] from (List.append_assoc _ _ _).symm] at k3'
    obtain ⟨t2, a1, b1⟩ := k3' T'.heap (locs ++ L') ls (by rw [e1]; exact c3) (c4.weaken (fun k q _ h => hF q.1 h)) hS2 (by rw [hll]; exact hl) ol okx (okM_sh om (by omega) (by omega) h65 (by omega) (lb_29 tl)) T' rfl X'
    exact ⟨t2, st t2 a1, b1⟩
/-! side by side -/
theorem TLok_sh {tl : List CD} {k : Nat} (h : TLok tl) : TLok (tl ++ [shO (LB ++ tl).length, shA k]) := by
  obtain ⟨h1, h2⟩ := h
  have e : LB ++ (tl ++ [shO (LB ++ tl).length, shA k]) = (LB ++ tl) ++ [shO (LB ++ tl).length, shA k] := (List.append_assoc _ _ _).symm
  have el : (LB ++ (tl ++ [shO (LB ++ tl).length, shA k])).length = (LB ++ tl).length + 2 := by rw [e, List.length_append]; rfl
  unfold TLok
  rw [el, e]
  refine ⟨fun d hd => ?_, fun i n lo hi hd => ?_⟩
  · rcases List.mem_append.mp hd with g | g
    · have := h1 d g
      rcases d with ⟨ci, fds⟩ | x
      · intro fd hfd
        obtain ⟨a, b⟩ := this fd hfd
        exact ⟨fun z => by have := a z; omega, fun z1 z2 => by have := b z1 z2; omega⟩
      · trivial
    · simp only [List.mem_cons, List.not_mem_nil, or_false] at g
      rcases g with rfl | rfl
      · intro fd hfd
        simp only [List.mem_cons, List.not_mem_nil, or_false] at hfd
        rcases hfd with rfl | rfl
        · exact ⟨fun z => absurd z (by decide), fun z => absurd rfl z⟩
        · exact ⟨fun _ => by show (((LB ++ tl).length + 1 : Nat) : Int).toNat < _; omega, fun _ z => absurd rfl z⟩
      · trivial
  · by_cases g : i < (LB ++ tl).length
    · rw [List.getElem?_append_left g] at hd
      exact h2 i n lo hi hd
    · rw [List.getElem?_append_right (by omega)] at hd
      have h3 : i - (LB ++ tl).length < 2 := (List.getElem?_eq_some_iff.mp hd).1
      rcases (show i - (LB ++ tl).length = 0 ∨ i - (LB ++ tl).length = 1 by omega) with w | w
      · rw [w] at hd; simp [shO] at hd
      · rw [w] at hd; simp [shA] at hd
theorem SHQ_sh {tl : List CD} {ex : List CD} {q n : Nat} (h : SHQ tl q n) : SHQ (tl ++ ex) q n := by
  obtain ⟨h1, h2, h3, h4⟩ := h
  have e : LB ++ (tl ++ ex) = (LB ++ tl) ++ ex := (List.append_assoc _ _ _).symm
  refine ⟨h1, ?_, ?_, h4⟩
  · rw [e, List.getElem?_append_left (List.getElem?_eq_some_iff.mp h2).1]; exact h2
  · rw [e, List.getElem?_append_left (List.getElem?_eq_some_iff.mp h3).1]; exact h3
def SHr (s f n : Int) (M M1 : Mem) (x : Int) : Prop := ((s < 0 ∨ 3 < s ∨ f < 0 ∨ 2 < f ∨ 60 < n) ∧ x = -2 ∧ M1 = M) ∨ (((0 ≤ s ∧ s ≤ 3 ∧ 0 ≤ f ∧ f ≤ 2) ∧ n < 0) ∧ x = -15 ∧ M1 = up M 32 43 5) ∨ (((0 ≤ s ∧ s ≤ 3 ∧ 0 ≤ f ∧ f ≤ 2) ∧ 0 ≤ n ∧ n ≤ 60) ∧ x = n ∧ FR [60, 61, 62, 63] M M1 ∧ M1 60 = up1 (M 60) s.toNat 1 ∧ M1 61 = up1 (M 61) s.toNat f ∧ M1 62 = up1 (M 62) s.toNat n ∧ M1 63 = WRT (fun _ => 0) (60 * s.toNat) (M 63) 60)
theorem J_sh1 {tl : List CD} {s f n : Int} {M M2 : Mem} {y : Int} (hJ : JA tl M) (h : s < 0 ∨ 4 ≤ s ∨ f < 0 ∨ 3 ≤ f ∨ 60 < n) (h' : SHr s f n M M2 y) : -2 = y ∧ JA tl M2 := by
  rcases h' with ⟨c1, hy, hM'⟩ | ⟨c1, -⟩ | ⟨c1, -⟩
  · rw [hM']; exact ⟨by omega, hJ⟩
  · omega
  · omega
theorem J_sh2 {tl : List CD} {s f n : Int} {M M2 : Mem} {y : Int} (hJ : JA tl M) (h : (0 ≤ s ∧ s < 4 ∧ 0 ≤ f ∧ f < 3) ∧ n < 0) (h' : SHr s f n (up M 0 14 5) M2 y) : -15 = y ∧ JA tl M2 := by
  rcases h' with ⟨c1, -⟩ | ⟨c1, hy, hM'⟩ | ⟨c1, -⟩
  · omega
  · exact ⟨by omega, JA_find hJ rfl hM'⟩
  · omega
theorem J_sh3 {tl : List CD} {s f n : Int} {M M2 : Mem} {y : Int} (hJ : JA tl M) (h : (0 ≤ s ∧ s < 4 ∧ 0 ≤ f ∧ f < 3) ∧ 0 ≤ n ∧ n ≤ 60) (h' : SHr s f n (shM M (LB ++ tl).length s.toNat f) M2 y) : n = y ∧ JA (tl ++ [shO (LB ++ tl).length, shA n.toNat]) M2 := by
  rcases h' with ⟨c1, -⟩ | ⟨c1, -⟩ | ⟨c1, hy, f2, g0, g1, g2, g3⟩
  · omega
  · omega
  refine ⟨by omega, ?_⟩
  have h65 : 65 ≤ (LB ++ tl).length := by
    rw [List.length_append]
    have : LB.length = 65 := rfl
    omega
  have e : LB ++ (tl ++ [shO (LB ++ tl).length, shA n.toNat]) = (LB ++ tl) ++ [shO (LB ++ tl).length, shA n.toNat] := (List.append_assoc _ _ _).symm
  have el : (LB ++ (tl ++ [shO (LB ++ tl).length, shA n.toNat])).length = (LB ++ tl).length + 2 := by rw [e, List.length_append]; rfl
  have hso : (LB ++ (tl ++ [shO (LB ++ tl).length, shA n.toNat]))[(LB ++ tl).length]? = some (shO (LB ++ tl).length) := by
    rw [e, List.getElem?_append_right (Nat.le_refl _), Nat.sub_self]
    rfl
  have hsa : (LB ++ (tl ++ [shO (LB ++ tl).length, shA n.toNat]))[(LB ++ tl).length + 1]? = some (shA n.toNat) := by
    rw [e, List.getElem?_append_right (by omega), show (LB ++ tl).length + 1 - (LB ++ tl).length = 1 by omega]
    rfl
  have hT := TLok_sh (k := n.toNat) hJ.2.2.2.2.2
  obtain ⟨j1, j2, j3, j4, j5, j6⟩ := hJ
  generalize (LB ++ tl).length = k at *
  have hm : ∀ a, a < k → a ≠ 29 → shM M k s.toNat f a = M a := by
    intro a h1 h2
    funext b
    unfold shM
    rw [if_neg (by omega), if_neg (by omega), if_neg (fun z => h2 z.1)]
  have key : ∀ a, a < k → a ∉ [29, 60, 61, 62, 63] → M2 a = M a := by
    intro a h1 h2
    rw [f2 a (fun z => h2 (List.mem_cons_of_mem _ z)), hm a h1 (fun z => h2 (by rw [z]; decide))]
  have e29 : ∀ j, M2 29 j = if j = s.toNat then (k : Int) else M 29 j := by
    intro j
    rw [f2 29 (by decide), shM_29 h65]
  have hk0 : M2 k 0 = f := by
    rw [f2 k (fun z => by simp only [List.mem_cons, List.not_mem_nil, or_false] at z; omega)]
    unfold shM
    rw [if_pos rfl, if_pos rfl]
  have hk1 : ∀ j, M2 (k + 1) j = 0 := by
    intro j
    rw [f2 (k + 1) (fun z => by simp only [List.mem_cons, List.not_mem_nil, or_false] at z; omega)]
    unfold shM
    rw [if_neg (by omega), if_pos rfl]
  rw [hm 60 (by omega) (by decide)] at g0
  rw [hm 61 (by omega) (by decide)] at g1
  rw [hm 62 (by omega) (by decide)] at g2
  rw [hm 63 (by omega) (by decide)] at g3
  have sm : ∀ a ∈ [0, 1, 2, 3, 4, 5, 6, 7, 8, 9, 15, 16, 17, 18, 19, 20, 21, 27, 28, 33, 34, 41, 42, 43, 57, 58, 32], M2 a = M a := fun a ha => key a (by have := (show ∀ a ∈ [0, 1, 2, 3, 4, 5, 6, 7, 8, 9, 15, 16, 17, 18, 19, 20, 21, 27, 28, 33, 34, 41, 42, 43, 57, 58, 32], a < 63 by decide) a ha; omega) (by revert ha a; decide)
  refine ⟨JQ_of j1 (fun a ha => sm a (by revert ha a; decide)) (by rw [sm 32 (by decide)]) (by rw [sm 32 (by decide)]) (by rw [sm 32 (by decide)]), by rw [sm 32 (by decide), sm 0 (by decide)]; exact j2, fun t ht => ?_, fun a b ha hb hab h0 => ?_, fun j => ?_, hT⟩
  · by_cases et : t = s.toNat
    · refine Or.inr ⟨k, n.toNat, by rw [e29, if_pos et], ⟨h65, hso, hsa, by omega⟩, ?_, ?_, ?_, fun i hi => ?_⟩
      · rw [g0, et]; exact if_pos rfl
      · rw [g1, et, hk0]; exact if_pos rfl
      · rw [g2, et]
        have : up1 (M 62) s.toNat n s.toNat = n := if_pos rfl
        rw [this]; omega
      · rw [g3, hk1, et]
        unfold WRT
        rw [if_pos (by omega)]
    · rcases j3 t ht with ⟨w1, w2⟩ | ⟨q, m, w1, w2, w3⟩
      · refine Or.inl ⟨by rw [e29, if_neg et]; exact w1, ?_⟩
        rw [g0]
        show up1 (M 60) s.toNat 1 t = 0
        unfold up1
        rw [if_neg et]; exact w2
      · have hqk : (q : Int) < k := by rw [← w1]; exact j5 t
        have hq65 := w2.1
        have hm60 := w2.2.2.2
        have hq1 : q + 1 < k := by
          have b := w2.2.2.1
          have hlt := (List.getElem?_eq_some_iff.mp b).1
          rcases Nat.lt_or_ge (q + 1) k with z | z
          · exact z
          · exfalso
            have := SHQ_sh (ex := [shO k, shA n.toNat]) w2
            have b2 := this.2.2.1
            rw [show q + 1 = k by omega, hso] at b2
            simp [shO] at b2
        have eq0 := key q (by omega) (fun z => by simp only [List.mem_cons, List.not_mem_nil, or_false] at z; omega)
        have eq1 := key (q + 1) hq1 (fun z => by simp only [List.mem_cons, List.not_mem_nil, or_false] at z; omega)
        refine Or.inr ⟨q, m, by rw [e29, if_neg et]; exact w1, SHQ_sh w2, ?_, ?_, ?_, fun i hi => ?_⟩
        · rw [g0]; show up1 (M 60) s.toNat 1 t = 1
          unfold up1; rw [if_neg et]; exact w3.1
        · rw [g1, eq0]; show up1 (M 61) s.toNat f t = _
          unfold up1; rw [if_neg et]; exact w3.2.1
        · rw [g2]; show up1 (M 62) s.toNat n t = _
          unfold up1; rw [if_neg et]; exact w3.2.2.1
        · rw [g3, eq1]
          unfold WRT
          rw [if_neg (by omega)]
          exact w3.2.2.2 i hi
  · rw [e29] at h0 ⊢
    rw [e29]
    have ja := j5 a
    have jb := j5 b
    by_cases ea : a = s.toNat
    · rw [if_pos ea] at h0 ⊢
      rw [if_neg (by omega)]
      omega
    · rw [if_neg ea] at h0 ⊢
      by_cases eb : b = s.toNat
      · rw [if_pos eb]; omega
      · rw [if_neg eb]; exact j4 a b ha hb hab h0
  · rw [e29, el]
    have := j5 j
    split <;> omega
