section AWc
theorem okF {L : List CD} {M : Mem} {k ci j : Nat} {fds : List FD} {fd : FD} (om : okM L M) (hk : L[k]? = some (.inl (ci, fds))) (hf : fds[j]? = some fd) (h1 : fd.1 ≠ 1) : fd.2.1 ≤ M k j ∧ M k j ≤ fd.2.2 := (om k _ hk).2 j fd hf h1
theorem okA {L : List CD} {M : Mem} {k t n : Nat} {lo hi : Int} (om : okM L M) (hk : L[k]? = some (.inr (t, n, lo, hi))) (j : Nat) : lo ≤ M k j ∧ M k j ≤ hi := (om k _ hk).2 j
/-- a method: its name, code, locals, answer's type -/
abbrev MI : Type := MethodName × ByteArray × Nat × Option FieldType
def RM (d : Nat) : Room := { frames := d, cells := 0, slots := 0, locals := 40 * d }
def PC (D : va_G) (ca : Nat → ClassId) (ad : Nat → Nat) (L : List CD) (as : List AV) (M : Mem) (sz : Nat) : Array Value → State → Prop := va_Pc (as.map (cv ad)) (fun U => U.heap.size = sz ∧ va_P D vwCl (conc ca ad L M) U.heap ∧ va_K D vwCl (TY ca) U ∧ NK U ∧ va_D (fun _ => True) (conc ca ad L M))
def QC (D : va_G) (ca : Nat → ClassId) (ad : Nat → Nat) (L : List CD) (A : Nat → Prop) (Post : Option AV → Mem → Prop) : Array Value → State → Outcome → State → Prop := fun _ st oc t => (∃ (r : Option AV) (M' : Mem), oc = .returned (r.map (cv ad)) ∧ Post r M' ∧ (∀ v ∈ r.toList, okV v) ∧ okM L M' ∧ va_P D vwCl (conc ca ad L M') t.heap) ∧ va_F A st t
/-- THE CONTRACT: called with these arguments at this memory the method returns, with what Post says of answer and memory; d: how deep its own calls go -/
def Ct (d : Nat) (y : MI) (L : List CD) (as : List AV) (M : Mem) (Post : Option AV → Mem → Prop) : Prop := ∀ (l : Launch) (D : va_G) (ca : Nat → ClassId) (ad : Nat → Nat) (sz : Nat), (∀ v ∈ as, okV v) → okM L M → Met l y.1 (.code y.1 y.2.1 y.2.2.1 y.2.2.2 :: WS) (RM d) (PC D ca ad L as M sz) (QC D ca ad L (va_A (conc ca ad L M) sz) Post) 0 0 (va_A (conc ca ad L M) sz)
def Rt (X : CTX) (ret : Option FieldType) (L : List CD) (Post : Option AV → Mem → Prop) : Prop := match X with
  | (_, _, _, _, s, _, args, below, meth, _, cells, slots, Q, D, ca, ad, A) => meth.sig.returnType = ret ∧ meth.locks = false ∧ cells = 0 ∧ slots = 0 ∧ Q = MQ below (QC D ca ad L A Post) args s 0 0 A
def lvA : Nat → List AV → List (Nat × AV)
  | _, [] => []
  | i, v :: vs => (i, v) :: lvA (i + ctV v) vs
theorem lvA_cv (ad : Nat → Nat) : ∀ (as : List AV) (i : Nat), lv_args i (as.map (cv ad)) = cvl ad (lvA i as)
  | [], _ => rfl
  | v :: vs, i => by
    show (i, cv ad v) :: lv_args (if (cv ad v).category = 2 then i + 2 else i + 1) (vs.map (cv ad)) = (i, cv ad v) :: cvl ad (lvA (i + ctV v) vs)
    rw [ctV_cv, lvA_cv ad vs]
    congr 2
    congr 1
    rcases v with x | x | _ | k <;> rfl
theorem lvA_ok : ∀ (as : List AV) (i : Nat), (∀ v ∈ as, okV v) → ∀ q ∈ lvA i as, okV q.2
  | [], _, _ => fun q h => by cases h
  | v :: vs, i, h => List.forall_mem_cons.mpr ⟨(List.forall_mem_cons.mp h).1, lvA_ok vs (i + ctV v) (List.forall_mem_cons.mp h).2⟩
theorem lg_len (ad : Nat → Nat) : ∀ (as : List AV), (lg_sl (as.map (cv ad))).length = (as.map ctV).sum
  | [] => rfl
  | v :: vs => by
    have ih := lg_len ad vs
    unfold lg_sl at ih ⊢
    rw [List.map_cons, List.flatMap_cons, List.length_append, ih, List.map_cons, List.sum_cons, ctV_cv]
    congr 1
    rcases v with x | x | _ | k <;> rfl
theorem conc_D {A B : Nat → Prop} {ca : Nat → ClassId} {ad : Nat → Nat} {L : List CD} {M M' : Mem} (h : va_D A (conc ca ad L M)) : va_D A (conc ca ad L M') := by
  have key : ∀ (k : Nat) (q : Nat × va_E), (conc ca ad L M')[k]? = some q → ∃ q', (conc ca ad L M)[k]? = some q' ∧ q'.1 = q.1 := by
    intro k q hq
    unfold conc at hq ⊢
    rw [List.getElem?_mapIdx] at hq ⊢
    cases hL : L[k]? with
    | none => rw [hL] at hq; cases hq
    | some d => rw [hL] at hq; cases hq; exact ⟨_, rfl, rfl⟩
  refine ⟨fun i j p q hi hj e => ?_, fun k q hq => ?_⟩
  · obtain ⟨p', hp, ep⟩ := key i p hi
    obtain ⟨q', hq, eq⟩ := key j q hj
    exact h.1 i j p' q' hp hq (by rw [ep, eq, e])
  · obtain ⟨q', h1, e⟩ := key k q hq
    rw [← e]
    exact h.2 k q' h1
theorem Ct.of {d : Nat} {y : MethodName} {cc : ByteArray} {nL : Nat} {ret : Option FieldType} {L : List CD} {as : List AV} {M : Mem} {Post : Option AV → Mem → Prop} {own : String} (hcls : y.cls = own) (hpl : plainName y.cls = true) (hn : (as.map ctV).sum ≤ nL)
    (body : ∀ X : CTX, Cx X cc own nL d → Rt X ret L Post → AW X L nL 0 (lvA 0 as) [] M) : Ct d (y, cc, nL, ret) L as M Post := by
  intro l D ca ad sz oa om
  refine Met.ofW (cc := cc) (maxL := nL) (ret := ret) hpl rfl ?_
  intro p e s m args below meth c s₁ B hml hv
  obtain ⟨rfl, hsz, hP, hK, hN, hD0⟩ := hv
  have hts := atoms_spec (ws := .code y cc nL ret :: WS) B.pre
  have hown : s.vm.findClass own = some m.cls := by rw [← hcls]; exact findClass_of_methodNamed B.named
  subst hsz
  have hD := hD0.self (sz := s.heap.size)
  have hl := lv_entry (as.map (cv ad)) (n := nL) (by rw [lg_len]; exact hn)
  rw [lg_entry_eq]
  rw [lvA_cv] at hl
  have hS : va_S (va_A (conc ca ad L M) s.heap.size) s.heap s.heap [] := va_S.rf
  exact body (p, l, e, RM d, s, m, (as.map (cv ad)).toArray, below, meth, c, 0, 0, _, D, ca, ad, va_A (conc ca ad L M) s.heap.size) ⟨B.exec, B.bytes, hml, hown, fun w hw => hts w (List.mem_cons_of_mem _ hw), hK, hN, fun q h => Or.inr h, Nat.le_refl _, Nat.le_refl _, Nat.le_refl _, Nat.le_refl _⟩ ⟨B.returns, B.notSynchronized, rfl, rfl, rfl⟩ s.heap [] _ hP hD hS hl (lvA_ok as 0 oa) (fun v h => by cases h) om
/-- a contract's end may be weakened -/
theorem Ct.mono {d : Nat} {y : MI} {L : List CD} {as : List AV} {M : Mem} {P1 P2 : Option AV → Mem → Prop} (h : Ct d y L as M P1) (hw : ∀ r M', P1 r M' → P2 r M') : Ct d y L as M P2 := by
  intro l D ca ad sz oa om
  have h1 := h l D ca ad sz oa om
  intro p e ha hc hk s m args below hf hap hpc htr
  obtain ⟨k, o, a1, a2, a3, ⟨⟨r, M', b1, b2, b3⟩, hF⟩, a4⟩ := h1 p e ha hc hk s m args below hf hap hpc htr
  exact ⟨k, o, a1, a2, a3, ⟨⟨r, M', b1, hw r M' b2, b3⟩, hF⟩, a4⟩
end AWc
section AWq
variable {X : CTX} {L : List CD} {nL pc dd : Nat} {loc : List (Nat × AV)} {stk : List AV} {M : Mem} {cc : ByteArray} {own : String} {Post : Option AV → Mem → Prop}
theorem aw_iret {x : Int} (cx : Cx X cc own nL dd) (rt : Rt X (some .int) L Post) (d : decode cc pc = .ok (.ireturn, 1)) (hp : Post (some (aI x)) M) : AW X L nL pc loc [aI x] M := by
  obtain ⟨p, l, e, R, s, m, args, below, meth, c, cells, slots, Q, D, ca, ad, A⟩ := X
  obtain ⟨hx, hb, hml, hown, hts, hK, hN, hA, hfr, hlo, hce, hsl⟩ := cx
  intro H locs ls hP hD hS hl ol os om
  obtain ⟨hr, hlk, rfl, rfl, rfl⟩ := rt
  exact W.iret (v := i32 x) hx hb hr (fun t ht hW => ⟨⟨some (aI x), M, rfl, hp, os, om, by rw [ht]; exact hP⟩, hS.F ht⟩) hS.2.2 d hlk
theorem aw_zret {x : Int} (cx : Cx X cc own nL dd) (rt : Rt X (some .boolean) L Post) (d : decode cc pc = .ok (.ireturn, 1)) (h01 : x = 0 ∨ x = 1) (hp : Post (some (aI x)) M) : AW X L nL pc loc [aI x] M := by
  obtain ⟨p, l, e, R, s, m, args, below, meth, c, cells, slots, Q, D, ca, ad, A⟩ := X
  obtain ⟨hx, hb, hml, hown, hts, hK, hN, hA, hfr, hlo, hce, hsl⟩ := cx
  intro H locs ls hP hD hS hl ol os om
  obtain ⟨hr, hlk, rfl, rfl, rfl⟩ := rt
  exact W.zret (v := i32 x) hx hb hr (by rcases h01 with rfl | rfl <;> rfl) (fun t ht hW => ⟨⟨some (aI x), M, rfl, hp, os, om, by rw [ht]; exact hP⟩, hS.F ht⟩) hS.2.2 d hlk
theorem aw_lret {x : Int} (cx : Cx X cc own nL dd) (rt : Rt X (some .long) L Post) (d : decode cc pc = .ok (.lreturn, 1)) (hp : Post (some (aL x)) M) : AW X L nL pc loc [aL x] M := by
  obtain ⟨p, l, e, R, s, m, args, below, meth, c, cells, slots, Q, D, ca, ad, A⟩ := X
  obtain ⟨hx, hb, hml, hown, hts, hK, hN, hA, hfr, hlo, hce, hsl⟩ := cx
  intro H locs ls hP hD hS hl ol os om
  obtain ⟨hr, hlk, rfl, rfl, rfl⟩ := rt
  exact W.lret (v := i64 x) hx hb hr (fun t ht hW => ⟨⟨some (aL x), M, rfl, hp, os, om, by rw [ht]; exact hP⟩, hS.F ht⟩) hS.2.2 d hlk
theorem aw_vret (cx : Cx X cc own nL dd) (rt : Rt X none L Post) (d : decode cc pc = .ok (.return_, 1)) (hp : Post none M) : AW X L nL pc loc [] M := by
  obtain ⟨p, l, e, R, s, m, args, below, meth, c, cells, slots, Q, D, ca, ad, A⟩ := X
  obtain ⟨hx, hb, hml, hown, hts, hK, hN, hA, hfr, hlo, hce, hsl⟩ := cx
  intro H locs ls hP hD hS hl ol os om
  obtain ⟨hr, hlk, rfl, rfl, rfl⟩ := rt
  exact W.vret hx hb hr (fun t ht hW => ⟨⟨none, M, rfl, hp, (fun v h => by cases h), om, by rw [ht]; exact hP⟩, hS.F ht⟩) hS.2.2 d hlk
theorem aw_aret {k : Nat} {cn : String} (cx : Cx X cc own nL dd) (rt : Rt X (some (.object cn)) L Post) (d : decode cc pc = .ok (.areturn, 1)) (hp : Post (some (aR k)) M) : AW X L nL pc loc [aR k] M := by
  obtain ⟨p, l, e, R, s, m, args, below, meth, c, cells, slots, Q, D, ca, ad, A⟩ := X
  obtain ⟨hx, hb, hml, hown, hts, hK, hN, hA, hfr, hlo, hce, hsl⟩ := cx
  intro H locs ls hP hD hS hl ol os om
  obtain ⟨hr, hlk, rfl, rfl, rfl⟩ := rt
  exact W.aret (v := .ref (ad k)) hx hb hr (Or.inl ⟨_, rfl⟩) (Or.inr ⟨_, rfl⟩) (fun t ht hW => ⟨⟨some (aR k), M, rfl, hp, os, om, by rw [ht]; exact hP⟩, hS.F ht⟩) hS.2.2 d hlk
/-- what a call of a method needs of the tables: an instance's, a static one's -/
def MV (y : MI) (C : String) (n : Nat) : Prop := Cond.instanceMethod y.1 ∈ WS ∧ Cond.selects C y.1 y.1 ∈ WS ∧ Cond.initialized y.1.cls ∈ WS ∧ Cond.code y.1 y.2.1 y.2.2.1 y.2.2.2 ∈ WS ∧ (y.1.cls ≠ "java/lang/invoke/MethodHandle" ∧ y.1.cls ≠ "java/lang/invoke/VarHandle" ∧ (parseMethodDescriptor y.1.desc).map (fun d => d.parameters.length) = some n) ∧ y.2.2.1 ≤ 21
def MS (y : MI) (n : Nat) : Prop := Cond.static y.1 ∈ WS ∧ Cond.initialized y.1.cls ∈ WS ∧ Cond.code y.1 y.2.1 y.2.2.1 y.2.2.2 ∈ WS ∧ (y.1.cls ≠ "java/lang/invoke/MethodHandle" ∧ y.1.cls ≠ "java/lang/invoke/VarHandle" ∧ (parseMethodDescriptor y.1.desc).map (fun d => d.parameters.length) = some n) ∧ y.2.2.1 ≤ 21
theorem goodCode {w : Cond} (h : w ∈ WS) : GoodIn WS (w :: WS) := by
  intro v hv
  rcases List.mem_cons.mp hv with rfl | hv
  · exact ⟨h, good_of_word (WS_good h)⟩
  · exact ⟨hv, good_of_word (WS_good hv)⟩
theorem PC_blind (D : va_G) (ca : Nat → ClassId) (ad : Nat → Nat) (L : List CD) (as : List AV) (M : Mem) (sz : Nat) : FrameBlind (PC D ca ad L as M sz) := by
  intro a U g mk q
  obtain ⟨q0, q1, qP, qK, qN, qD⟩ := q
  exact ⟨q0, q1, qP, va_K.moved (u := U) (U := U.calling g mk a) (Vm.Alike.refl U.vm) qK, qN.calling, qD⟩
theorem st_ct (ad : Nat → Nat) (stk : List AV) : ((stk.map (cv ad)).map fun v => v.category).sum = (stk.map ctV).sum := by
  rw [List.map_map]
  congr 1
  apply List.map_congr_left
  intro v _
  exact ctV_cv ad v
/-- behind a call of any kind -/
theorem aw_after {p : Program} {l : Launch} {e : Env} {R : Room} {s : State} {m : MethodId} {args a : Array Value} {below : List Frame} {meth : Method} {c : Code} {H : Heap} {locs : List Loc} {cells slots : Nat} {Q : State → Prop} {D : va_G} {ca : Nat → ClassId} {ad : Nat → Nat} {A : Nat → Prop} {ls : Array Slot} {st0 : List Value}
    (hr : va_Run p l e R s m args below meth c H locs cells slots 0 0 (F0 m pc ls st0) (stk.map (cv ad)) (QC D ca ad L (va_A (conc ca ad L M) H.size) Post a) (va_A (conc ca ad L M) H.size))
    (hD : va_D A (conc ca ad L M)) (hS : va_S A s.heap H locs) (hA : ∀ q, s.heap.size ≤ q → A q) (hl : lv_has ls nL (cvl ad loc)) (ol : ∀ q ∈ loc, okV q.2) (os : ∀ v ∈ stk, okV v)
    (kk : ∀ (r : Option AV) (M' : Mem), Post r M' → AW (p, l, e, R, s, m, args, below, meth, c, cells, slots, Q, D, ca, ad, A) L nL (pc + 3) loc (r.toList ++ stk) M') : W p l e R s m args below meth c H locs cells slots Q (F0 m pc ls st0) := by
  have hF : ∀ q, va_A (conc ca ad L M) H.size q → A q := by
    intro q h
    rcases h with ⟨k, e, h⟩ | h
    · exact hD.2 k _ h
    · exact hA q (Nat.le_trans hS.1 h)
  intro T hT X0
  obtain ⟨v, st₀, t, T', L', h0, X', hL, e1, e2, ⟨⟨r, M', hv, hp, hok, om', hP'⟩, hz, hk⟩, st⟩ := hr T hT X0
  cases hv
  rw [h0] at hz hk
  have h1 := kk r M' hp T'.heap (locs ++ L') ls (by rw [e1]; exact hP') (conc_D (B := A) hD)
    ⟨Nat.le_trans hS.1 (by rw [e1]; exact hz), fun q h1 h2 => by rw [e1, hk q (Nat.lt_of_lt_of_le h1 hS.1) (fun z => h2 (hF q z))]; exact hS.2.1 q h1 h2, fun q hq => by
      rcases List.mem_append.mp hq with h | h
      · exact hS.2.2 q h
      · exact hF _ (hL q h)⟩ hl ol (fun v hv => by
      rcases List.mem_append.mp hv with h | h
      · exact hok v h
      · exact os v h) om'
  obtain ⟨t2, a1, b1⟩ := h1 T' rfl X'
  refine ⟨t2, st t2 ?_, b1⟩
  rw [show (r.map (cv ad)).toList ++ stk.map (cv ad) = (r.toList ++ stk).map (cv ad) by rw [List.map_append]; cases r <;> rfl]
  exact a1
theorem aw_callV {y : MI} {C : String} {idx n d' k ci : Nat} {as stk0 : List AV} {fds : List FD} {cT : u_T} {cN : Nat} (cx : Cx X cc own nL dd) (d : decode cc pc = .ok (.invokevirtual idx, 3)) (hlk : Cond.methodLink own idx y.1 ∈ WS) (mv : MV y C n) (hci : vwCl[ci]? = some (C, cT, cN)) (hk : L[k]? = some (.inl (ci, fds))) (hd : d' + 1 ≤ dd) (hn : as.length = n) (hst : stk0 = as.reverse ++ aR k :: stk) (hw : (stk.map ctV).sum ≤ 8) (ct : Ct d' y L (aR k :: as) M Post)
    (kk : ∀ (r : Option AV) (M' : Mem), Post r M' → AW X L nL (pc + 3) loc (r.toList ++ stk) M') : AW X L nL pc loc stk0 M := by
  obtain ⟨p, l, e, R, s, m, args, below, meth, c, cells, slots, Q, D, ca, ad, A⟩ := X
  obtain ⟨hx, hb, hml, hown, hts, hK, hN, hA, hfr, hlo, hce, hsl⟩ := cx
  intro H locs ls hP hD hS hl ol os om
  obtain ⟨m1, m2, m3, m4, m5, m6⟩ := mv
  subst hst
  have os' : ∀ v ∈ stk, okV v := fun v h => os v (List.mem_append_right _ (List.mem_cons_of_mem _ h))
  have oa : ∀ v ∈ aR k :: as, okV v := List.forall_mem_cons.mpr ⟨trivial, fun v h => os v (List.mem_append_left _ (List.mem_reverse.mpr h))⟩
  have hM := ct l D ca ad H.size oa om
  have hst2 : (as.reverse ++ aR k :: stk).map (cv ad) = (as.map (cv ad)).reverse ++ .ref (ad k) :: stk.map (cv ad) := by
    rw [List.map_append, List.map_cons, List.map_reverse]; rfl
  rw [hst2]
  refine aw_after (va_runV (As := as.map (cv ad)) (rest := stk.map (cv ad)) (C := C) (bytes := y.2.1) (maxL := y.2.2.1) (ret := y.2.2.2) ⟨hx, hb, hml, hown, hts⟩ hM ⟨callB_of n hts (goodCode m4) rfl rfl rfl (hts _ m3) (hts _ hlk) m5 ⟨?_, ?_⟩, hts _ m1, hts _ m2⟩ ⟨PC_blind _ _ _ _ _ _ _, va_recv hK hP hci (conc_get hk), fun U hU hW => ⟨rfl, by rw [hU], by rw [hU]; exact hP, va_K.moved hW.alike hK, hN.warm hW, hD.weaken (fun _ _ _ _ => trivial)⟩⟩ rfl (by rw [List.length_map]; exact hn) hl.1 rfl (lv_room (by rw [st_ct]; exact hw)) d ⟨hce, hsl⟩) hD hS hA hl ol os' kk
  · show d' + 1 ≤ R.frames
    omega
  · show 8 + (y.2.2.1 + 11) + 40 * d' ≤ R.locals
    omega
theorem aw_callS {y : MI} {idx n d' : Nat} {as stk0 : List AV} (cx : Cx X cc own nL dd) (d : decode cc pc = .ok (.invokestatic idx, 3)) (hlk : Cond.methodLink own idx y.1 ∈ WS) (mv : MS y n) (hd : d' + 1 ≤ dd) (hn : as.length = n) (hst : stk0 = as.reverse ++ stk) (hw : (stk.map ctV).sum ≤ 8) (ct : Ct d' y L as M Post)
    (kk : ∀ (r : Option AV) (M' : Mem), Post r M' → AW X L nL (pc + 3) loc (r.toList ++ stk) M') : AW X L nL pc loc stk0 M := by
  obtain ⟨p, l, e, R, s, m, args, below, meth, c, cells, slots, Q, D, ca, ad, A⟩ := X
  obtain ⟨hx, hb, hml, hown, hts, hK, hN, hA, hfr, hlo, hce, hsl⟩ := cx
  intro H locs ls hP hD hS hl ol os om
  obtain ⟨m1, m3, m4, m5, m6⟩ := mv
  subst hst
  have os' : ∀ v ∈ stk, okV v := fun v h => os v (List.mem_append_right _ h)
  have oa : ∀ v ∈ as, okV v := fun v h => os v (List.mem_append_left _ (List.mem_reverse.mpr h))
  have hM := ct l D ca ad H.size oa om
  have hst2 : (as.reverse ++ stk).map (cv ad) = (as.map (cv ad)).reverse ++ stk.map (cv ad) := by
    rw [List.map_append, List.map_reverse]
  rw [hst2]
  refine aw_after (va_runS (As := as.map (cv ad)) (rest := stk.map (cv ad)) (bytes := y.2.1) (maxL := y.2.2.1) (ret := y.2.2.2) ⟨hx, hb, hml, hown, hts⟩ hM ⟨callB_of n hts (goodCode m4) rfl rfl rfl (hts _ m3) (hts _ hlk) m5 ⟨?_, ?_⟩, hts _ m1⟩ ⟨PC_blind _ _ _ _ _ _ _, fun U hU hW => ⟨rfl, by rw [hU], by rw [hU]; exact hP, va_K.moved hW.alike hK, hN.warm hW, hD.weaken (fun _ _ _ _ => trivial)⟩⟩ rfl (by rw [List.length_map]; exact hn) hl.1 rfl (lv_room (by rw [st_ct]; exact hw)) d ⟨hce, hsl⟩) hD hS hA hl ol os' kk
  · show d' + 1 ≤ R.frames
    omega
  · show 8 + (y.2.2.1 + 11) + 40 * d' ≤ R.locals
    omega
theorem aw_callN {y : MI} {host : String} {idx n d' : Nat} {as stk0 : List AV} (cx : Cx X cc own nL dd) (d : decode cc pc = .ok (.invokestatic idx, 3)) (hlk : Cond.methodLinkNest own idx y.1 host ∈ NWS) (mv : MS y n) (hd : d' + 1 ≤ dd) (hn : as.length = n) (hst : stk0 = as.reverse ++ stk) (hw : (stk.map ctV).sum ≤ 8) (ct : Ct d' y L as M Post)
    (kk : ∀ (r : Option AV) (M' : Mem), Post r M' → AW X L nL (pc + 3) loc (r.toList ++ stk) M') : AW X L nL pc loc stk0 M := by
  obtain ⟨p, l, e, R, s, m, args, below, meth, c, cells, slots, Q, D, ca, ad, A⟩ := X
  obtain ⟨hx, hb, hml, hown, hts, hK, hN, hA, hfr, hlo, hce, hsl⟩ := cx
  intro H locs ls hP hD hS hl ol os om
  obtain ⟨m1, m3, m4, m5, m6⟩ := mv
  subst hst
  have os' : ∀ v ∈ stk, okV v := fun v h => os v (List.mem_append_right _ h)
  have oa : ∀ v ∈ as, okV v := fun v h => os v (List.mem_append_left _ (List.mem_reverse.mpr h))
  have hM := ct l D ca ad H.size oa om
  have hst2 : (as.reverse ++ stk).map (cv ad) = (as.map (cv ad)).reverse ++ stk.map (cv ad) := by
    rw [List.map_append, List.map_reverse]
  rw [hst2]
  refine aw_after (va_runSN (As := as.map (cv ad)) (rest := stk.map (cv ad)) (bytes := y.2.1) (maxL := y.2.2.1) (ret := y.2.2.2) (Ts := WS) ⟨hx, hb, hml, hown, hts⟩ hM ⟨va_cnB n hts (goodCode m4) rfl rfl rfl (hN _ hlk) (hts _ m3) m5 ⟨?_, ?_⟩, hts _ m1, trivial⟩ ⟨PC_blind _ _ _ _ _ _ _, fun U hU hW => ⟨rfl, by rw [hU], by rw [hU]; exact hP, va_K.moved hW.alike hK, hN.warm hW, hD.weaken (fun _ _ _ _ => trivial)⟩⟩ rfl (by rw [List.length_map]; exact hn) hl.1 rfl (lv_room (by rw [st_ct]; exact hw)) d ⟨hce, hsl⟩) hD hS hA hl ol os' kk
  · show d' + 1 ≤ R.frames
    omega
  · show 8 + (y.2.2.1 + 11) + 40 * d' ≤ R.locals
    omega
end AWq
