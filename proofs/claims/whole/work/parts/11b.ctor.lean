set_option maxHeartbeats 4000000 in
set_option maxRecDepth 100000 in
theorem ci_X5_init (l : Launch) (D : va_G) (ca : Nat → ClassId) (h0 sz : Nat) (n : Nat) (st : Int32) (hn : n ≤ 100) : Met l yX5_init (.code yX5_init cX5_init 3 none :: WS) (roomI 1 1 n 40) (PCi D ca noE [.ref h0, .int (i32 n), .int st] [(h0, .inr (5, [.null, .int (i32 0), .int (i32 0)]))] sz) (QCi D (fun u => [(h0, .inr (5, [.ref (u 0), .int st, .int (i32 0)])), ((u 0), .inl (ca 0, n, .inl (fun _ => i32 0)))]) (va_A [(h0, .inr (5, [.null, .int (i32 0), .int (i32 0)]))] sz)) 1 n (va_A [(h0, .inr (5, [.null, .int (i32 0), .int (i32 0)]))] sz) := by
  refine Met.ofW (cc := cX5_init) (maxL := 3) (ret := none) (by decide +kernel) rfl ?_
  intro p e s m args below meth c s₁ B hml hv
  obtain ⟨rfl, hsz, hP, hK, hE, hD0⟩ := hv
  have hx := B.exec
  have hb := B.bytes
  have hr := B.returns
  have hts0 := atoms_spec (ws := .code yX5_init cX5_init 3 none :: WS) B.pre
  have hw : ∀ w ∈ WS, w.before _ s = true := fun w h => hts0 w (List.mem_cons_of_mem _ h)
  have hown : s.vm.findClass RX5 = some m.cls := findClass_of_methodNamed B.named
  have hlocks := B.notSynchronized
  have hin : meth.name = "<init>" := (name_of_methodNamed B.named B.method).1
  subst hsz
  have hD := hD0.self (sz := s.heap.size)
  generalize hAe : va_A [(h0, .inr (5, [.null, .int (i32 0), .int (i32 0)]))] s.heap.size = A at hD ⊢
  have hA : ∀ q : Nat, s.heap.size ≤ q → A q := fun q h => by rw [← hAe]; exact Or.inr h
  have hS : va_S A s.heap s.heap [] := va_S.rf
  have hl := lv_entry ([.ref h0, .int (i32 n), .int st]) (n := 3) (Nat.le_of_ble_eq_true rfl)
  rw [lg_entry_eq]
  generalize (lg_sl ([.ref h0, .int (i32 n), .int st]) ++ List.replicate (3 - (lg_sl ([.ref h0, .int (i32 n), .int st])).length) Slot.unset).toArray = ls at hl ⊢
  have hl : lv_has ls 3 [(0, .ref h0), (1, .int (i32 n)), (2, .int st)] := hl
  have hP : va_P D vwCl ([(h0, .inr (5, [.null, .int (i32 0), .int (i32 0)]))]) s.heap := hP
  have hn0 : ¬ i32 (n : Int) < 0 := fun q => by rw [← i32_0, i32_lt (by omega) (by omega)] at q; omega
  have hnN : (i32 (n : Int)).toNatClampNeg = n := by rw [i32_clamp (by omega)]; omega
  refine lv_aload_n hx hb dX5_init_0 rfl (lv_at hl 0 rfl) ?_
  refine ct_ob hx hb hw hown ol_X5 hml hl.1 dX5_init_1 (Nat.le_of_ble_eq_true rfl) (Nat.le_of_ble_eq_true rfl) ?_
  refine lv_aload_n hx hb dX5_init_4 rfl (lv_at hl 0 rfl) ?_
  refine lv_iconst (v := i32 0) hx hb dX5_init_5 rfl ?_
  refine ct_p (v := .int (i32 0)) hx hb hw hown hK hP hD hS fl_X5_9 kt_X5 rfl rfl rfl (Nat.le_of_ble_eq_true rfl) dX5_init_6 (fun H locs hP hD hS => ?_)
  have hP : va_P D vwCl ([(h0, .inr (5, [.null, .int (i32 0), .int (i32 0)]))]) H := hP
  have hD : va_D A ([(h0, .inr (5, [.null, .int (i32 0), .int (i32 0)]))]) := hD
  refine lv_aload_n hx hb dX5_init_9 rfl (lv_at hl 0 rfl) ?_
  refine lv_iload_n hx hb dX5_init_10 rfl (lv_at hl 1 rfl) ?_
  refine vn_int (n := i32 n) (N' := n) hx hb hw hK hP hD hS hA hn0 hnN (by omega) (Nat.le_of_ble_eq_true rfl) (show 0 + n ≤ n by omega) dX5_init_11 (fun q11 H hP hD hS => ?_)
  have hP : va_P D vwCl ([(h0, .inr (5, [.null, .int (i32 0), .int (i32 0)])), (q11, .inl (ca 0, n, .inl (fun _ => i32 0)))]) H := hP
  have hD : va_D A ([(h0, .inr (5, [.null, .int (i32 0), .int (i32 0)])), (q11, .inl (ca 0, n, .inl (fun _ => i32 0)))]) := hD
  refine ct_pF (v := .ref q11) hx hb hw hown hK hP hD hS fl_X5_15 kt_X5 rfl hin rfl rfl rfl (Nat.le_of_ble_eq_true rfl) dX5_init_13 (fun H locs hP hD hS => ?_)
  have hP : va_P D vwCl ([(h0, .inr (5, [.ref q11, .int (i32 0), .int (i32 0)])), (q11, .inl (ca 0, n, .inl (fun _ => i32 0)))]) H := hP
  have hD : va_D A ([(h0, .inr (5, [.ref q11, .int (i32 0), .int (i32 0)])), (q11, .inl (ca 0, n, .inl (fun _ => i32 0)))]) := hD
  refine lv_aload_n hx hb dX5_init_16 rfl (lv_at hl 0 rfl) ?_
  refine lv_iload_n hx hb dX5_init_17 rfl (lv_at hl 2 rfl) ?_
  refine ct_pF (v := .int st) hx hb hw hown hK hP hD hS fl_X5_19 kt_X5 rfl hin rfl rfl rfl (Nat.le_of_ble_eq_true rfl) dX5_init_18 (fun H locs hP hD hS => ?_)
  have hP : va_P D vwCl ([(h0, .inr (5, [.ref q11, .int st, .int (i32 0)])), (q11, .inl (ca 0, n, .inl (fun _ => i32 0)))]) H := hP
  have hD : va_D A ([(h0, .inr (5, [.ref q11, .int st, .int (i32 0)])), (q11, .inl (ca 0, n, .inl (fun _ => i32 0)))]) := hD
  have hPz := hP
  have hDz := hD
  refine W.widen (k := 1) (n := n) (Nat.le_of_ble_eq_true rfl) (by omega) ?_
  exact W.vret hx hb hr (fun t ht hW => ⟨⟨(fun k => [q11].getD k 0), rfl, trivial, by rw [ht]; exact hPz, hDz⟩, hS.F ht⟩) hS.2.2 dX5_init_21
set_option maxHeartbeats 4000000 in
set_option maxRecDepth 100000 in
theorem ci_X4_init (l : Launch) (D : va_G) (ca : Nat → ClassId) (h0 sz : Nat)  : Met l yX4_init (.code yX4_init cX4_init 1 none :: WS) (roomI 1 4 48 40) (PCi D ca noE [.ref h0] [(h0, .inr (4, [.null, .null, .null, .null, .int (i32 0), .int (i32 0)]))] sz) (QCi D (fun u => [(h0, .inr (4, [.ref (u 0), .ref (u 1), .ref (u 2), .ref (u 3), .int (i32 0), .int (i32 0)])), ((u 0), .inl (ca 0, 12, .inl (fun _ => i32 0))), ((u 1), .inl (ca 0, 12, .inl (fun _ => i32 0))), ((u 2), .inl (ca 0, 12, .inl (fun _ => i32 0))), ((u 3), .inl (ca 0, 12, .inl (fun _ => i32 0)))]) (va_A [(h0, .inr (4, [.null, .null, .null, .null, .int (i32 0), .int (i32 0)]))] sz)) 4 48 (va_A [(h0, .inr (4, [.null, .null, .null, .null, .int (i32 0), .int (i32 0)]))] sz) := by
  refine Met.ofW (cc := cX4_init) (maxL := 1) (ret := none) (by decide +kernel) rfl ?_
  intro p e s m args below meth c s₁ B hml hv
  obtain ⟨rfl, hsz, hP, hK, hE, hD0⟩ := hv
  have hx := B.exec
  have hb := B.bytes
  have hr := B.returns
  have hts0 := atoms_spec (ws := .code yX4_init cX4_init 1 none :: WS) B.pre
  have hw : ∀ w ∈ WS, w.before _ s = true := fun w h => hts0 w (List.mem_cons_of_mem _ h)
  have hown : s.vm.findClass RX4 = some m.cls := findClass_of_methodNamed B.named
  have hlocks := B.notSynchronized
  have hin : meth.name = "<init>" := (name_of_methodNamed B.named B.method).1
  subst hsz
  have hD := hD0.self (sz := s.heap.size)
  generalize hAe : va_A [(h0, .inr (4, [.null, .null, .null, .null, .int (i32 0), .int (i32 0)]))] s.heap.size = A at hD ⊢
  have hA : ∀ q : Nat, s.heap.size ≤ q → A q := fun q h => by rw [← hAe]; exact Or.inr h
  have hS : va_S A s.heap s.heap [] := va_S.rf
  have hl := lv_entry ([.ref h0]) (n := 1) (Nat.le_of_ble_eq_true rfl)
  rw [lg_entry_eq]
  generalize (lg_sl ([.ref h0]) ++ List.replicate (1 - (lg_sl ([.ref h0])).length) Slot.unset).toArray = ls at hl ⊢
  have hl : lv_has ls 1 [(0, .ref h0)] := hl
  have hP : va_P D vwCl ([(h0, .inr (4, [.null, .null, .null, .null, .int (i32 0), .int (i32 0)]))]) s.heap := hP
  refine lv_aload_n hx hb dX4_init_0 rfl (lv_at hl 0 rfl) ?_
  refine ct_ob hx hb hw hown ol_X4 hml hl.1 dX4_init_1 (Nat.le_of_ble_eq_true rfl) (Nat.le_of_ble_eq_true rfl) ?_
  refine lv_aload_n hx hb dX4_init_4 rfl (lv_at hl 0 rfl) ?_
  refine lv_bipush (v := i32 12) hx hb dX4_init_5 (b8_32 (by decide)) ?_
  refine vn_int (n := i32 12) (N' := 12) hx hb hw hK hP hD hS hA (by decide +kernel) (by decide +kernel) (by decide) (Nat.le_of_ble_eq_true rfl) (Nat.le_of_ble_eq_true rfl) dX4_init_7 (fun q7 H hP hD hS => ?_)
  have hP : va_P D vwCl ([(h0, .inr (4, [.null, .null, .null, .null, .int (i32 0), .int (i32 0)])), (q7, .inl (ca 0, 12, .inl (fun _ => i32 0)))]) H := hP
  have hD : va_D A ([(h0, .inr (4, [.null, .null, .null, .null, .int (i32 0), .int (i32 0)])), (q7, .inl (ca 0, 12, .inl (fun _ => i32 0)))]) := hD
  refine ct_pF (v := .ref q7) hx hb hw hown hK hP hD hS fl_X4_9 kt_X4 rfl hin rfl rfl rfl (Nat.le_of_ble_eq_true rfl) dX4_init_9 (fun H locs hP hD hS => ?_)
  have hP : va_P D vwCl ([(h0, .inr (4, [.ref q7, .null, .null, .null, .int (i32 0), .int (i32 0)])), (q7, .inl (ca 0, 12, .inl (fun _ => i32 0)))]) H := hP
  have hD : va_D A ([(h0, .inr (4, [.ref q7, .null, .null, .null, .int (i32 0), .int (i32 0)])), (q7, .inl (ca 0, 12, .inl (fun _ => i32 0)))]) := hD
  refine lv_aload_n hx hb dX4_init_12 rfl (lv_at hl 0 rfl) ?_
  refine lv_bipush (v := i32 12) hx hb dX4_init_13 (b8_32 (by decide)) ?_
  refine vn_int (n := i32 12) (N' := 12) hx hb hw hK hP hD hS hA (by decide +kernel) (by decide +kernel) (by decide) (Nat.le_of_ble_eq_true rfl) (Nat.le_of_ble_eq_true rfl) dX4_init_15 (fun q15 H hP hD hS => ?_)
  have hP : va_P D vwCl ([(h0, .inr (4, [.ref q7, .null, .null, .null, .int (i32 0), .int (i32 0)])), (q7, .inl (ca 0, 12, .inl (fun _ => i32 0))), (q15, .inl (ca 0, 12, .inl (fun _ => i32 0)))]) H := hP
  have hD : va_D A ([(h0, .inr (4, [.ref q7, .null, .null, .null, .int (i32 0), .int (i32 0)])), (q7, .inl (ca 0, 12, .inl (fun _ => i32 0))), (q15, .inl (ca 0, 12, .inl (fun _ => i32 0)))]) := hD
  refine ct_pF (v := .ref q15) hx hb hw hown hK hP hD hS fl_X4_15 kt_X4 rfl hin rfl rfl rfl (Nat.le_of_ble_eq_true rfl) dX4_init_17 (fun H locs hP hD hS => ?_)
  have hP : va_P D vwCl ([(h0, .inr (4, [.ref q7, .ref q15, .null, .null, .int (i32 0), .int (i32 0)])), (q7, .inl (ca 0, 12, .inl (fun _ => i32 0))), (q15, .inl (ca 0, 12, .inl (fun _ => i32 0)))]) H := hP
  have hD : va_D A ([(h0, .inr (4, [.ref q7, .ref q15, .null, .null, .int (i32 0), .int (i32 0)])), (q7, .inl (ca 0, 12, .inl (fun _ => i32 0))), (q15, .inl (ca 0, 12, .inl (fun _ => i32 0)))]) := hD
  refine lv_aload_n hx hb dX4_init_20 rfl (lv_at hl 0 rfl) ?_
  refine lv_bipush (v := i32 12) hx hb dX4_init_21 (b8_32 (by decide)) ?_
  refine vn_int (n := i32 12) (N' := 12) hx hb hw hK hP hD hS hA (by decide +kernel) (by decide +kernel) (by decide) (Nat.le_of_ble_eq_true rfl) (Nat.le_of_ble_eq_true rfl) dX4_init_23 (fun q23 H hP hD hS => ?_)
  have hP : va_P D vwCl ([(h0, .inr (4, [.ref q7, .ref q15, .null, .null, .int (i32 0), .int (i32 0)])), (q7, .inl (ca 0, 12, .inl (fun _ => i32 0))), (q15, .inl (ca 0, 12, .inl (fun _ => i32 0))), (q23, .inl (ca 0, 12, .inl (fun _ => i32 0)))]) H := hP
  have hD : va_D A ([(h0, .inr (4, [.ref q7, .ref q15, .null, .null, .int (i32 0), .int (i32 0)])), (q7, .inl (ca 0, 12, .inl (fun _ => i32 0))), (q15, .inl (ca 0, 12, .inl (fun _ => i32 0))), (q23, .inl (ca 0, 12, .inl (fun _ => i32 0)))]) := hD
  refine ct_pF (v := .ref q23) hx hb hw hown hK hP hD hS fl_X4_18 kt_X4 rfl hin rfl rfl rfl (Nat.le_of_ble_eq_true rfl) dX4_init_25 (fun H locs hP hD hS => ?_)
  have hP : va_P D vwCl ([(h0, .inr (4, [.ref q7, .ref q15, .ref q23, .null, .int (i32 0), .int (i32 0)])), (q7, .inl (ca 0, 12, .inl (fun _ => i32 0))), (q15, .inl (ca 0, 12, .inl (fun _ => i32 0))), (q23, .inl (ca 0, 12, .inl (fun _ => i32 0)))]) H := hP
  have hD : va_D A ([(h0, .inr (4, [.ref q7, .ref q15, .ref q23, .null, .int (i32 0), .int (i32 0)])), (q7, .inl (ca 0, 12, .inl (fun _ => i32 0))), (q15, .inl (ca 0, 12, .inl (fun _ => i32 0))), (q23, .inl (ca 0, 12, .inl (fun _ => i32 0)))]) := hD
  refine lv_aload_n hx hb dX4_init_28 rfl (lv_at hl 0 rfl) ?_
  refine lv_bipush (v := i32 12) hx hb dX4_init_29 (b8_32 (by decide)) ?_
  refine vn_int (n := i32 12) (N' := 12) hx hb hw hK hP hD hS hA (by decide +kernel) (by decide +kernel) (by decide) (Nat.le_of_ble_eq_true rfl) (Nat.le_of_ble_eq_true rfl) dX4_init_31 (fun q31 H hP hD hS => ?_)
  have hP : va_P D vwCl ([(h0, .inr (4, [.ref q7, .ref q15, .ref q23, .null, .int (i32 0), .int (i32 0)])), (q7, .inl (ca 0, 12, .inl (fun _ => i32 0))), (q15, .inl (ca 0, 12, .inl (fun _ => i32 0))), (q23, .inl (ca 0, 12, .inl (fun _ => i32 0))), (q31, .inl (ca 0, 12, .inl (fun _ => i32 0)))]) H := hP
  have hD : va_D A ([(h0, .inr (4, [.ref q7, .ref q15, .ref q23, .null, .int (i32 0), .int (i32 0)])), (q7, .inl (ca 0, 12, .inl (fun _ => i32 0))), (q15, .inl (ca 0, 12, .inl (fun _ => i32 0))), (q23, .inl (ca 0, 12, .inl (fun _ => i32 0))), (q31, .inl (ca 0, 12, .inl (fun _ => i32 0)))]) := hD
  refine ct_pF (v := .ref q31) hx hb hw hown hK hP hD hS fl_X4_21 kt_X4 rfl hin rfl rfl rfl (Nat.le_of_ble_eq_true rfl) dX4_init_33 (fun H locs hP hD hS => ?_)
  have hP : va_P D vwCl ([(h0, .inr (4, [.ref q7, .ref q15, .ref q23, .ref q31, .int (i32 0), .int (i32 0)])), (q7, .inl (ca 0, 12, .inl (fun _ => i32 0))), (q15, .inl (ca 0, 12, .inl (fun _ => i32 0))), (q23, .inl (ca 0, 12, .inl (fun _ => i32 0))), (q31, .inl (ca 0, 12, .inl (fun _ => i32 0)))]) H := hP
  have hD : va_D A ([(h0, .inr (4, [.ref q7, .ref q15, .ref q23, .ref q31, .int (i32 0), .int (i32 0)])), (q7, .inl (ca 0, 12, .inl (fun _ => i32 0))), (q15, .inl (ca 0, 12, .inl (fun _ => i32 0))), (q23, .inl (ca 0, 12, .inl (fun _ => i32 0))), (q31, .inl (ca 0, 12, .inl (fun _ => i32 0)))]) := hD
  refine lv_aload_n hx hb dX4_init_36 rfl (lv_at hl 0 rfl) ?_
  refine lv_iconst (v := i32 0) hx hb dX4_init_37 rfl ?_
  refine ct_p (v := .int (i32 0)) hx hb hw hown hK hP hD hS fl_X4_24 kt_X4 rfl rfl rfl (Nat.le_of_ble_eq_true rfl) dX4_init_38 (fun H locs hP hD hS => ?_)
  have hP : va_P D vwCl ([(h0, .inr (4, [.ref q7, .ref q15, .ref q23, .ref q31, .int (i32 0), .int (i32 0)])), (q7, .inl (ca 0, 12, .inl (fun _ => i32 0))), (q15, .inl (ca 0, 12, .inl (fun _ => i32 0))), (q23, .inl (ca 0, 12, .inl (fun _ => i32 0))), (q31, .inl (ca 0, 12, .inl (fun _ => i32 0)))]) H := hP
  have hD : va_D A ([(h0, .inr (4, [.ref q7, .ref q15, .ref q23, .ref q31, .int (i32 0), .int (i32 0)])), (q7, .inl (ca 0, 12, .inl (fun _ => i32 0))), (q15, .inl (ca 0, 12, .inl (fun _ => i32 0))), (q23, .inl (ca 0, 12, .inl (fun _ => i32 0))), (q31, .inl (ca 0, 12, .inl (fun _ => i32 0)))]) := hD
  refine lv_aload_n hx hb dX4_init_41 rfl (lv_at hl 0 rfl) ?_
  refine lv_iconst (v := i32 0) hx hb dX4_init_42 rfl ?_
  refine ct_p (v := .int (i32 0)) hx hb hw hown hK hP hD hS fl_X4_28 kt_X4 rfl rfl rfl (Nat.le_of_ble_eq_true rfl) dX4_init_43 (fun H locs hP hD hS => ?_)
  have hP : va_P D vwCl ([(h0, .inr (4, [.ref q7, .ref q15, .ref q23, .ref q31, .int (i32 0), .int (i32 0)])), (q7, .inl (ca 0, 12, .inl (fun _ => i32 0))), (q15, .inl (ca 0, 12, .inl (fun _ => i32 0))), (q23, .inl (ca 0, 12, .inl (fun _ => i32 0))), (q31, .inl (ca 0, 12, .inl (fun _ => i32 0)))]) H := hP
  have hD : va_D A ([(h0, .inr (4, [.ref q7, .ref q15, .ref q23, .ref q31, .int (i32 0), .int (i32 0)])), (q7, .inl (ca 0, 12, .inl (fun _ => i32 0))), (q15, .inl (ca 0, 12, .inl (fun _ => i32 0))), (q23, .inl (ca 0, 12, .inl (fun _ => i32 0))), (q31, .inl (ca 0, 12, .inl (fun _ => i32 0)))]) := hD
  have hPz := hP
  have hDz := hD
  refine W.widen (k := 4) (n := 48) (Nat.le_of_ble_eq_true rfl) (Nat.le_of_ble_eq_true rfl) ?_
  exact W.vret hx hb hr (fun t ht hW => ⟨⟨(fun k => [q7, q15, q23, q31].getD k 0), rfl, trivial, by rw [ht]; exact hPz, hDz⟩, hS.F ht⟩) hS.2.2 dX4_init_46
set_option maxHeartbeats 4000000 in
set_option maxRecDepth 100000 in
theorem ci_X1_init (l : Launch) (D : va_G) (ca : Nat → ClassId) (h0 sz : Nat)  : Met l yX1_init (.code yX1_init cX1_init 1 none :: WS) (roomI 1 2 16 40) (PCi D ca noE [.ref h0] [(h0, .inr (1, [.null, .null, .int (i32 0)]))] sz) (QCi D (fun u => [(h0, .inr (1, [.ref (u 0), .ref (u 1), .int (i32 0)])), ((u 0), .inl (ca 0, 8, .inl (fun _ => i32 0))), ((u 1), .inl (ca 0, 8, .inl (fun _ => i32 0)))]) (va_A [(h0, .inr (1, [.null, .null, .int (i32 0)]))] sz)) 2 16 (va_A [(h0, .inr (1, [.null, .null, .int (i32 0)]))] sz) := by
  refine Met.ofW (cc := cX1_init) (maxL := 1) (ret := none) (by decide +kernel) rfl ?_
  intro p e s m args below meth c s₁ B hml hv
  obtain ⟨rfl, hsz, hP, hK, hE, hD0⟩ := hv
  have hx := B.exec
  have hb := B.bytes
  have hr := B.returns
  have hts0 := atoms_spec (ws := .code yX1_init cX1_init 1 none :: WS) B.pre
  have hw : ∀ w ∈ WS, w.before _ s = true := fun w h => hts0 w (List.mem_cons_of_mem _ h)
  have hown : s.vm.findClass RX1 = some m.cls := findClass_of_methodNamed B.named
  have hlocks := B.notSynchronized
  have hin : meth.name = "<init>" := (name_of_methodNamed B.named B.method).1
  subst hsz
  have hD := hD0.self (sz := s.heap.size)
  generalize hAe : va_A [(h0, .inr (1, [.null, .null, .int (i32 0)]))] s.heap.size = A at hD ⊢
  have hA : ∀ q : Nat, s.heap.size ≤ q → A q := fun q h => by rw [← hAe]; exact Or.inr h
  have hS : va_S A s.heap s.heap [] := va_S.rf
  have hl := lv_entry ([.ref h0]) (n := 1) (Nat.le_of_ble_eq_true rfl)
  rw [lg_entry_eq]
  generalize (lg_sl ([.ref h0]) ++ List.replicate (1 - (lg_sl ([.ref h0])).length) Slot.unset).toArray = ls at hl ⊢
  have hl : lv_has ls 1 [(0, .ref h0)] := hl
  have hP : va_P D vwCl ([(h0, .inr (1, [.null, .null, .int (i32 0)]))]) s.heap := hP
  refine lv_aload_n hx hb dX1_init_0 rfl (lv_at hl 0 rfl) ?_
  refine ct_ob hx hb hw hown ol_X1 hml hl.1 dX1_init_1 (Nat.le_of_ble_eq_true rfl) (Nat.le_of_ble_eq_true rfl) ?_
  refine lv_aload_n hx hb dX1_init_4 rfl (lv_at hl 0 rfl) ?_
  refine lv_bipush (v := i32 8) hx hb dX1_init_5 (b8_32 (by decide)) ?_
  refine vn_int (n := i32 8) (N' := 8) hx hb hw hK hP hD hS hA (by decide +kernel) (by decide +kernel) (by decide) (Nat.le_of_ble_eq_true rfl) (Nat.le_of_ble_eq_true rfl) dX1_init_7 (fun q7 H hP hD hS => ?_)
  have hP : va_P D vwCl ([(h0, .inr (1, [.null, .null, .int (i32 0)])), (q7, .inl (ca 0, 8, .inl (fun _ => i32 0)))]) H := hP
  have hD : va_D A ([(h0, .inr (1, [.null, .null, .int (i32 0)])), (q7, .inl (ca 0, 8, .inl (fun _ => i32 0)))]) := hD
  refine ct_pF (v := .ref q7) hx hb hw hown hK hP hD hS fl_X1_9 kt_X1 rfl hin rfl rfl rfl (Nat.le_of_ble_eq_true rfl) dX1_init_9 (fun H locs hP hD hS => ?_)
  have hP : va_P D vwCl ([(h0, .inr (1, [.ref q7, .null, .int (i32 0)])), (q7, .inl (ca 0, 8, .inl (fun _ => i32 0)))]) H := hP
  have hD : va_D A ([(h0, .inr (1, [.ref q7, .null, .int (i32 0)])), (q7, .inl (ca 0, 8, .inl (fun _ => i32 0)))]) := hD
  refine lv_aload_n hx hb dX1_init_12 rfl (lv_at hl 0 rfl) ?_
  refine lv_bipush (v := i32 8) hx hb dX1_init_13 (b8_32 (by decide)) ?_
  refine vn_int (n := i32 8) (N' := 8) hx hb hw hK hP hD hS hA (by decide +kernel) (by decide +kernel) (by decide) (Nat.le_of_ble_eq_true rfl) (Nat.le_of_ble_eq_true rfl) dX1_init_15 (fun q15 H hP hD hS => ?_)
  have hP : va_P D vwCl ([(h0, .inr (1, [.ref q7, .null, .int (i32 0)])), (q7, .inl (ca 0, 8, .inl (fun _ => i32 0))), (q15, .inl (ca 0, 8, .inl (fun _ => i32 0)))]) H := hP
  have hD : va_D A ([(h0, .inr (1, [.ref q7, .null, .int (i32 0)])), (q7, .inl (ca 0, 8, .inl (fun _ => i32 0))), (q15, .inl (ca 0, 8, .inl (fun _ => i32 0)))]) := hD
  refine ct_pF (v := .ref q15) hx hb hw hown hK hP hD hS fl_X1_15 kt_X1 rfl hin rfl rfl rfl (Nat.le_of_ble_eq_true rfl) dX1_init_17 (fun H locs hP hD hS => ?_)
  have hP : va_P D vwCl ([(h0, .inr (1, [.ref q7, .ref q15, .int (i32 0)])), (q7, .inl (ca 0, 8, .inl (fun _ => i32 0))), (q15, .inl (ca 0, 8, .inl (fun _ => i32 0)))]) H := hP
  have hD : va_D A ([(h0, .inr (1, [.ref q7, .ref q15, .int (i32 0)])), (q7, .inl (ca 0, 8, .inl (fun _ => i32 0))), (q15, .inl (ca 0, 8, .inl (fun _ => i32 0)))]) := hD
  refine lv_aload_n hx hb dX1_init_20 rfl (lv_at hl 0 rfl) ?_
  refine lv_iconst (v := i32 0) hx hb dX1_init_21 rfl ?_
  refine ct_p (v := .int (i32 0)) hx hb hw hown hK hP hD hS fl_X1_18 kt_X1 rfl rfl rfl (Nat.le_of_ble_eq_true rfl) dX1_init_22 (fun H locs hP hD hS => ?_)
  have hP : va_P D vwCl ([(h0, .inr (1, [.ref q7, .ref q15, .int (i32 0)])), (q7, .inl (ca 0, 8, .inl (fun _ => i32 0))), (q15, .inl (ca 0, 8, .inl (fun _ => i32 0)))]) H := hP
  have hD : va_D A ([(h0, .inr (1, [.ref q7, .ref q15, .int (i32 0)])), (q7, .inl (ca 0, 8, .inl (fun _ => i32 0))), (q15, .inl (ca 0, 8, .inl (fun _ => i32 0)))]) := hD
  have hPz := hP
  have hDz := hD
  refine W.widen (k := 2) (n := 16) (Nat.le_of_ble_eq_true rfl) (Nat.le_of_ble_eq_true rfl) ?_
  exact W.vret hx hb hr (fun t ht hW => ⟨⟨(fun k => [q7, q15].getD k 0), rfl, trivial, by rw [ht]; exact hPz, hDz⟩, hS.F ht⟩) hS.2.2 dX1_init_25
set_option maxHeartbeats 4000000 in
set_option maxRecDepth 100000 in
theorem ci_X2_init (l : Launch) (D : va_G) (ca : Nat → ClassId) (h0 sz : Nat)  : Met l yX2_init (.code yX2_init cX2_init 1 none :: WS) (roomI 1 3 24 40) (PCi D ca noE [.ref h0] [(h0, .inr (2, [.null, .null, .null, .int (i32 0)]))] sz) (QCi D (fun u => [(h0, .inr (2, [.ref (u 0), .ref (u 1), .ref (u 2), .int (i32 0)])), ((u 0), .inl (ca 0, 8, .inl (fun _ => i32 0))), ((u 1), .inl (ca 0, 8, .inl (fun _ => i32 0))), ((u 2), .inl (ca 0, 8, .inl (fun _ => i32 0)))]) (va_A [(h0, .inr (2, [.null, .null, .null, .int (i32 0)]))] sz)) 3 24 (va_A [(h0, .inr (2, [.null, .null, .null, .int (i32 0)]))] sz) := by
  refine Met.ofW (cc := cX2_init) (maxL := 1) (ret := none) (by decide +kernel) rfl ?_
  intro p e s m args below meth c s₁ B hml hv
  obtain ⟨rfl, hsz, hP, hK, hE, hD0⟩ := hv
  have hx := B.exec
  have hb := B.bytes
  have hr := B.returns
  have hts0 := atoms_spec (ws := .code yX2_init cX2_init 1 none :: WS) B.pre
  have hw : ∀ w ∈ WS, w.before _ s = true := fun w h => hts0 w (List.mem_cons_of_mem _ h)
  have hown : s.vm.findClass RX2 = some m.cls := findClass_of_methodNamed B.named
  have hlocks := B.notSynchronized
  have hin : meth.name = "<init>" := (name_of_methodNamed B.named B.method).1
  subst hsz
  have hD := hD0.self (sz := s.heap.size)
  generalize hAe : va_A [(h0, .inr (2, [.null, .null, .null, .int (i32 0)]))] s.heap.size = A at hD ⊢
  have hA : ∀ q : Nat, s.heap.size ≤ q → A q := fun q h => by rw [← hAe]; exact Or.inr h
  have hS : va_S A s.heap s.heap [] := va_S.rf
  have hl := lv_entry ([.ref h0]) (n := 1) (Nat.le_of_ble_eq_true rfl)
  rw [lg_entry_eq]
  generalize (lg_sl ([.ref h0]) ++ List.replicate (1 - (lg_sl ([.ref h0])).length) Slot.unset).toArray = ls at hl ⊢
  have hl : lv_has ls 1 [(0, .ref h0)] := hl
  have hP : va_P D vwCl ([(h0, .inr (2, [.null, .null, .null, .int (i32 0)]))]) s.heap := hP
  refine lv_aload_n hx hb dX2_init_0 rfl (lv_at hl 0 rfl) ?_
  refine ct_ob hx hb hw hown ol_X2 hml hl.1 dX2_init_1 (Nat.le_of_ble_eq_true rfl) (Nat.le_of_ble_eq_true rfl) ?_
  refine lv_aload_n hx hb dX2_init_4 rfl (lv_at hl 0 rfl) ?_
  refine lv_bipush (v := i32 8) hx hb dX2_init_5 (b8_32 (by decide)) ?_
  refine vn_int (n := i32 8) (N' := 8) hx hb hw hK hP hD hS hA (by decide +kernel) (by decide +kernel) (by decide) (Nat.le_of_ble_eq_true rfl) (Nat.le_of_ble_eq_true rfl) dX2_init_7 (fun q7 H hP hD hS => ?_)
  have hP : va_P D vwCl ([(h0, .inr (2, [.null, .null, .null, .int (i32 0)])), (q7, .inl (ca 0, 8, .inl (fun _ => i32 0)))]) H := hP
  have hD : va_D A ([(h0, .inr (2, [.null, .null, .null, .int (i32 0)])), (q7, .inl (ca 0, 8, .inl (fun _ => i32 0)))]) := hD
  refine ct_pF (v := .ref q7) hx hb hw hown hK hP hD hS fl_X2_9 kt_X2 rfl hin rfl rfl rfl (Nat.le_of_ble_eq_true rfl) dX2_init_9 (fun H locs hP hD hS => ?_)
  have hP : va_P D vwCl ([(h0, .inr (2, [.ref q7, .null, .null, .int (i32 0)])), (q7, .inl (ca 0, 8, .inl (fun _ => i32 0)))]) H := hP
  have hD : va_D A ([(h0, .inr (2, [.ref q7, .null, .null, .int (i32 0)])), (q7, .inl (ca 0, 8, .inl (fun _ => i32 0)))]) := hD
  refine lv_aload_n hx hb dX2_init_12 rfl (lv_at hl 0 rfl) ?_
  refine lv_bipush (v := i32 8) hx hb dX2_init_13 (b8_32 (by decide)) ?_
  refine vn_int (n := i32 8) (N' := 8) hx hb hw hK hP hD hS hA (by decide +kernel) (by decide +kernel) (by decide) (Nat.le_of_ble_eq_true rfl) (Nat.le_of_ble_eq_true rfl) dX2_init_15 (fun q15 H hP hD hS => ?_)
  have hP : va_P D vwCl ([(h0, .inr (2, [.ref q7, .null, .null, .int (i32 0)])), (q7, .inl (ca 0, 8, .inl (fun _ => i32 0))), (q15, .inl (ca 0, 8, .inl (fun _ => i32 0)))]) H := hP
  have hD : va_D A ([(h0, .inr (2, [.ref q7, .null, .null, .int (i32 0)])), (q7, .inl (ca 0, 8, .inl (fun _ => i32 0))), (q15, .inl (ca 0, 8, .inl (fun _ => i32 0)))]) := hD
  refine ct_pF (v := .ref q15) hx hb hw hown hK hP hD hS fl_X2_15 kt_X2 rfl hin rfl rfl rfl (Nat.le_of_ble_eq_true rfl) dX2_init_17 (fun H locs hP hD hS => ?_)
  have hP : va_P D vwCl ([(h0, .inr (2, [.ref q7, .ref q15, .null, .int (i32 0)])), (q7, .inl (ca 0, 8, .inl (fun _ => i32 0))), (q15, .inl (ca 0, 8, .inl (fun _ => i32 0)))]) H := hP
  have hD : va_D A ([(h0, .inr (2, [.ref q7, .ref q15, .null, .int (i32 0)])), (q7, .inl (ca 0, 8, .inl (fun _ => i32 0))), (q15, .inl (ca 0, 8, .inl (fun _ => i32 0)))]) := hD
  refine lv_aload_n hx hb dX2_init_20 rfl (lv_at hl 0 rfl) ?_
  refine lv_bipush (v := i32 8) hx hb dX2_init_21 (b8_32 (by decide)) ?_
  refine vn_int (n := i32 8) (N' := 8) hx hb hw hK hP hD hS hA (by decide +kernel) (by decide +kernel) (by decide) (Nat.le_of_ble_eq_true rfl) (Nat.le_of_ble_eq_true rfl) dX2_init_23 (fun q23 H hP hD hS => ?_)
  have hP : va_P D vwCl ([(h0, .inr (2, [.ref q7, .ref q15, .null, .int (i32 0)])), (q7, .inl (ca 0, 8, .inl (fun _ => i32 0))), (q15, .inl (ca 0, 8, .inl (fun _ => i32 0))), (q23, .inl (ca 0, 8, .inl (fun _ => i32 0)))]) H := hP
  have hD : va_D A ([(h0, .inr (2, [.ref q7, .ref q15, .null, .int (i32 0)])), (q7, .inl (ca 0, 8, .inl (fun _ => i32 0))), (q15, .inl (ca 0, 8, .inl (fun _ => i32 0))), (q23, .inl (ca 0, 8, .inl (fun _ => i32 0)))]) := hD
  refine ct_pF (v := .ref q23) hx hb hw hown hK hP hD hS fl_X2_18 kt_X2 rfl hin rfl rfl rfl (Nat.le_of_ble_eq_true rfl) dX2_init_25 (fun H locs hP hD hS => ?_)
  have hP : va_P D vwCl ([(h0, .inr (2, [.ref q7, .ref q15, .ref q23, .int (i32 0)])), (q7, .inl (ca 0, 8, .inl (fun _ => i32 0))), (q15, .inl (ca 0, 8, .inl (fun _ => i32 0))), (q23, .inl (ca 0, 8, .inl (fun _ => i32 0)))]) H := hP
  have hD : va_D A ([(h0, .inr (2, [.ref q7, .ref q15, .ref q23, .int (i32 0)])), (q7, .inl (ca 0, 8, .inl (fun _ => i32 0))), (q15, .inl (ca 0, 8, .inl (fun _ => i32 0))), (q23, .inl (ca 0, 8, .inl (fun _ => i32 0)))]) := hD
  refine lv_aload_n hx hb dX2_init_28 rfl (lv_at hl 0 rfl) ?_
  refine lv_iconst (v := i32 0) hx hb dX2_init_29 rfl ?_
  refine ct_p (v := .int (i32 0)) hx hb hw hown hK hP hD hS fl_X2_21 kt_X2 rfl rfl rfl (Nat.le_of_ble_eq_true rfl) dX2_init_30 (fun H locs hP hD hS => ?_)
  have hP : va_P D vwCl ([(h0, .inr (2, [.ref q7, .ref q15, .ref q23, .int (i32 0)])), (q7, .inl (ca 0, 8, .inl (fun _ => i32 0))), (q15, .inl (ca 0, 8, .inl (fun _ => i32 0))), (q23, .inl (ca 0, 8, .inl (fun _ => i32 0)))]) H := hP
  have hD : va_D A ([(h0, .inr (2, [.ref q7, .ref q15, .ref q23, .int (i32 0)])), (q7, .inl (ca 0, 8, .inl (fun _ => i32 0))), (q15, .inl (ca 0, 8, .inl (fun _ => i32 0))), (q23, .inl (ca 0, 8, .inl (fun _ => i32 0)))]) := hD
  have hPz := hP
  have hDz := hD
  refine W.widen (k := 3) (n := 24) (Nat.le_of_ble_eq_true rfl) (Nat.le_of_ble_eq_true rfl) ?_
  exact W.vret hx hb hr (fun t ht hW => ⟨⟨(fun k => [q7, q15, q23].getD k 0), rfl, trivial, by rw [ht]; exact hPz, hDz⟩, hS.F ht⟩) hS.2.2 dX2_init_33
set_option maxHeartbeats 4000000 in
set_option maxRecDepth 100000 in
theorem ci_X0_init (l : Launch) (D : va_G) (ca : Nat → ClassId) (h0 sz : Nat) (a1 a2 : Nat) : Met l yX0_init (.code yX0_init cX0_init 3 none :: WS) (roomI 1 4 40 40) (PCi D ca noE [.ref h0, .ref a1, .ref a2] [(h0, .inr (0, [.null, .null, .int (i32 0), .null, .null, .null, .null]))] sz) (QCi D (fun u => [(h0, .inr (0, [.ref (u 0), .ref (u 1), .int (i32 0), .ref (u 2), .ref (u 3), .ref a2, .ref a1])), ((u 0), .inl (ca 1, 12, .inl (fun _ => i32 0))), ((u 1), .inl (ca 0, 12, .inl (fun _ => i32 0))), ((u 2), .inl (ca 0, 8, .inl (fun _ => i32 0))), ((u 3), .inl (ca 0, 8, .inl (fun _ => i32 0)))]) (va_A [(h0, .inr (0, [.null, .null, .int (i32 0), .null, .null, .null, .null]))] sz)) 4 40 (va_A [(h0, .inr (0, [.null, .null, .int (i32 0), .null, .null, .null, .null]))] sz) := by
  refine Met.ofW (cc := cX0_init) (maxL := 3) (ret := none) (by decide +kernel) rfl ?_
  intro p e s m args below meth c s₁ B hml hv
  obtain ⟨rfl, hsz, hP, hK, hE, hD0⟩ := hv
  have hx := B.exec
  have hb := B.bytes
  have hr := B.returns
  have hts0 := atoms_spec (ws := .code yX0_init cX0_init 3 none :: WS) B.pre
  have hw : ∀ w ∈ WS, w.before _ s = true := fun w h => hts0 w (List.mem_cons_of_mem _ h)
  have hown : s.vm.findClass RX0 = some m.cls := findClass_of_methodNamed B.named
  have hlocks := B.notSynchronized
  have hin : meth.name = "<init>" := (name_of_methodNamed B.named B.method).1
  subst hsz
  have hD := hD0.self (sz := s.heap.size)
  generalize hAe : va_A [(h0, .inr (0, [.null, .null, .int (i32 0), .null, .null, .null, .null]))] s.heap.size = A at hD ⊢
  have hA : ∀ q : Nat, s.heap.size ≤ q → A q := fun q h => by rw [← hAe]; exact Or.inr h
  have hS : va_S A s.heap s.heap [] := va_S.rf
  have hl := lv_entry ([.ref h0, .ref a1, .ref a2]) (n := 3) (Nat.le_of_ble_eq_true rfl)
  rw [lg_entry_eq]
  generalize (lg_sl ([.ref h0, .ref a1, .ref a2]) ++ List.replicate (3 - (lg_sl ([.ref h0, .ref a1, .ref a2])).length) Slot.unset).toArray = ls at hl ⊢
  have hl : lv_has ls 3 [(0, .ref h0), (1, .ref a1), (2, .ref a2)] := hl
  have hP : va_P D vwCl ([(h0, .inr (0, [.null, .null, .int (i32 0), .null, .null, .null, .null]))]) s.heap := hP
  refine lv_aload_n hx hb dX0_init_0 rfl (lv_at hl 0 rfl) ?_
  refine ct_ob hx hb hw hown ol_X0 hml hl.1 dX0_init_1 (Nat.le_of_ble_eq_true rfl) (Nat.le_of_ble_eq_true rfl) ?_
  refine lv_aload_n hx hb dX0_init_4 rfl (lv_at hl 0 rfl) ?_
  refine lv_bipush (v := i32 12) hx hb dX0_init_5 (b8_32 (by decide)) ?_
  refine vn_boolean (n := i32 12) (N' := 12) hx hb hw hK hP hD hS hA (by decide +kernel) (by decide +kernel) (by decide) (Nat.le_of_ble_eq_true rfl) (Nat.le_of_ble_eq_true rfl) dX0_init_7 (fun q7 H hP hD hS => ?_)
  have hP : va_P D vwCl ([(h0, .inr (0, [.null, .null, .int (i32 0), .null, .null, .null, .null])), (q7, .inl (ca 1, 12, .inl (fun _ => i32 0)))]) H := hP
  have hD : va_D A ([(h0, .inr (0, [.null, .null, .int (i32 0), .null, .null, .null, .null])), (q7, .inl (ca 1, 12, .inl (fun _ => i32 0)))]) := hD
  refine ct_pF (v := .ref q7) hx hb hw hown hK hP hD hS fl_X0_9 kt_X0 rfl hin rfl rfl rfl (Nat.le_of_ble_eq_true rfl) dX0_init_9 (fun H locs hP hD hS => ?_)
  have hP : va_P D vwCl ([(h0, .inr (0, [.ref q7, .null, .int (i32 0), .null, .null, .null, .null])), (q7, .inl (ca 1, 12, .inl (fun _ => i32 0)))]) H := hP
  have hD : va_D A ([(h0, .inr (0, [.ref q7, .null, .int (i32 0), .null, .null, .null, .null])), (q7, .inl (ca 1, 12, .inl (fun _ => i32 0)))]) := hD
  refine lv_aload_n hx hb dX0_init_12 rfl (lv_at hl 0 rfl) ?_
  refine lv_bipush (v := i32 12) hx hb dX0_init_13 (b8_32 (by decide)) ?_
  refine vn_int (n := i32 12) (N' := 12) hx hb hw hK hP hD hS hA (by decide +kernel) (by decide +kernel) (by decide) (Nat.le_of_ble_eq_true rfl) (Nat.le_of_ble_eq_true rfl) dX0_init_15 (fun q15 H hP hD hS => ?_)
  have hP : va_P D vwCl ([(h0, .inr (0, [.ref q7, .null, .int (i32 0), .null, .null, .null, .null])), (q7, .inl (ca 1, 12, .inl (fun _ => i32 0))), (q15, .inl (ca 0, 12, .inl (fun _ => i32 0)))]) H := hP
  have hD : va_D A ([(h0, .inr (0, [.ref q7, .null, .int (i32 0), .null, .null, .null, .null])), (q7, .inl (ca 1, 12, .inl (fun _ => i32 0))), (q15, .inl (ca 0, 12, .inl (fun _ => i32 0)))]) := hD
  refine ct_pF (v := .ref q15) hx hb hw hown hK hP hD hS fl_X0_15 kt_X0 rfl hin rfl rfl rfl (Nat.le_of_ble_eq_true rfl) dX0_init_17 (fun H locs hP hD hS => ?_)
  have hP : va_P D vwCl ([(h0, .inr (0, [.ref q7, .ref q15, .int (i32 0), .null, .null, .null, .null])), (q7, .inl (ca 1, 12, .inl (fun _ => i32 0))), (q15, .inl (ca 0, 12, .inl (fun _ => i32 0)))]) H := hP
  have hD : va_D A ([(h0, .inr (0, [.ref q7, .ref q15, .int (i32 0), .null, .null, .null, .null])), (q7, .inl (ca 1, 12, .inl (fun _ => i32 0))), (q15, .inl (ca 0, 12, .inl (fun _ => i32 0)))]) := hD
  refine lv_aload_n hx hb dX0_init_20 rfl (lv_at hl 0 rfl) ?_
  refine lv_iconst (v := i32 0) hx hb dX0_init_21 rfl ?_
  refine ct_p (v := .int (i32 0)) hx hb hw hown hK hP hD hS fl_X0_19 kt_X0 rfl rfl rfl (Nat.le_of_ble_eq_true rfl) dX0_init_22 (fun H locs hP hD hS => ?_)
  have hP : va_P D vwCl ([(h0, .inr (0, [.ref q7, .ref q15, .int (i32 0), .null, .null, .null, .null])), (q7, .inl (ca 1, 12, .inl (fun _ => i32 0))), (q15, .inl (ca 0, 12, .inl (fun _ => i32 0)))]) H := hP
  have hD : va_D A ([(h0, .inr (0, [.ref q7, .ref q15, .int (i32 0), .null, .null, .null, .null])), (q7, .inl (ca 1, 12, .inl (fun _ => i32 0))), (q15, .inl (ca 0, 12, .inl (fun _ => i32 0)))]) := hD
  refine lv_aload_n hx hb dX0_init_25 rfl (lv_at hl 0 rfl) ?_
  refine lv_bipush (v := i32 8) hx hb dX0_init_26 (b8_32 (by decide)) ?_
  refine vn_int (n := i32 8) (N' := 8) hx hb hw hK hP hD hS hA (by decide +kernel) (by decide +kernel) (by decide) (Nat.le_of_ble_eq_true rfl) (Nat.le_of_ble_eq_true rfl) dX0_init_28 (fun q28 H hP hD hS => ?_)
  have hP : va_P D vwCl ([(h0, .inr (0, [.ref q7, .ref q15, .int (i32 0), .null, .null, .null, .null])), (q7, .inl (ca 1, 12, .inl (fun _ => i32 0))), (q15, .inl (ca 0, 12, .inl (fun _ => i32 0))), (q28, .inl (ca 0, 8, .inl (fun _ => i32 0)))]) H := hP
  have hD : va_D A ([(h0, .inr (0, [.ref q7, .ref q15, .int (i32 0), .null, .null, .null, .null])), (q7, .inl (ca 1, 12, .inl (fun _ => i32 0))), (q15, .inl (ca 0, 12, .inl (fun _ => i32 0))), (q28, .inl (ca 0, 8, .inl (fun _ => i32 0)))]) := hD
  refine ct_pF (v := .ref q28) hx hb hw hown hK hP hD hS fl_X0_23 kt_X0 rfl hin rfl rfl rfl (Nat.le_of_ble_eq_true rfl) dX0_init_30 (fun H locs hP hD hS => ?_)
  have hP : va_P D vwCl ([(h0, .inr (0, [.ref q7, .ref q15, .int (i32 0), .ref q28, .null, .null, .null])), (q7, .inl (ca 1, 12, .inl (fun _ => i32 0))), (q15, .inl (ca 0, 12, .inl (fun _ => i32 0))), (q28, .inl (ca 0, 8, .inl (fun _ => i32 0)))]) H := hP
  have hD : va_D A ([(h0, .inr (0, [.ref q7, .ref q15, .int (i32 0), .ref q28, .null, .null, .null])), (q7, .inl (ca 1, 12, .inl (fun _ => i32 0))), (q15, .inl (ca 0, 12, .inl (fun _ => i32 0))), (q28, .inl (ca 0, 8, .inl (fun _ => i32 0)))]) := hD
  refine lv_aload_n hx hb dX0_init_33 rfl (lv_at hl 0 rfl) ?_
  refine lv_bipush (v := i32 8) hx hb dX0_init_34 (b8_32 (by decide)) ?_
  refine vn_int (n := i32 8) (N' := 8) hx hb hw hK hP hD hS hA (by decide +kernel) (by decide +kernel) (by decide) (Nat.le_of_ble_eq_true rfl) (Nat.le_of_ble_eq_true rfl) dX0_init_36 (fun q36 H hP hD hS => ?_)
  have hP : va_P D vwCl ([(h0, .inr (0, [.ref q7, .ref q15, .int (i32 0), .ref q28, .null, .null, .null])), (q7, .inl (ca 1, 12, .inl (fun _ => i32 0))), (q15, .inl (ca 0, 12, .inl (fun _ => i32 0))), (q28, .inl (ca 0, 8, .inl (fun _ => i32 0))), (q36, .inl (ca 0, 8, .inl (fun _ => i32 0)))]) H := hP
  have hD : va_D A ([(h0, .inr (0, [.ref q7, .ref q15, .int (i32 0), .ref q28, .null, .null, .null])), (q7, .inl (ca 1, 12, .inl (fun _ => i32 0))), (q15, .inl (ca 0, 12, .inl (fun _ => i32 0))), (q28, .inl (ca 0, 8, .inl (fun _ => i32 0))), (q36, .inl (ca 0, 8, .inl (fun _ => i32 0)))]) := hD
  refine ct_pF (v := .ref q36) hx hb hw hown hK hP hD hS fl_X0_26 kt_X0 rfl hin rfl rfl rfl (Nat.le_of_ble_eq_true rfl) dX0_init_38 (fun H locs hP hD hS => ?_)
  have hP : va_P D vwCl ([(h0, .inr (0, [.ref q7, .ref q15, .int (i32 0), .ref q28, .ref q36, .null, .null])), (q7, .inl (ca 1, 12, .inl (fun _ => i32 0))), (q15, .inl (ca 0, 12, .inl (fun _ => i32 0))), (q28, .inl (ca 0, 8, .inl (fun _ => i32 0))), (q36, .inl (ca 0, 8, .inl (fun _ => i32 0)))]) H := hP
  have hD : va_D A ([(h0, .inr (0, [.ref q7, .ref q15, .int (i32 0), .ref q28, .ref q36, .null, .null])), (q7, .inl (ca 1, 12, .inl (fun _ => i32 0))), (q15, .inl (ca 0, 12, .inl (fun _ => i32 0))), (q28, .inl (ca 0, 8, .inl (fun _ => i32 0))), (q36, .inl (ca 0, 8, .inl (fun _ => i32 0)))]) := hD
  refine lv_aload_n hx hb dX0_init_41 rfl (lv_at hl 0 rfl) ?_
  refine lv_aload_n hx hb dX0_init_42 rfl (lv_at hl 1 rfl) ?_
  refine ct_p (v := .ref a1) hx hb hw hown hK hP hD hS fl_X0_29 kt_X0 rfl rfl rfl (Nat.le_of_ble_eq_true rfl) dX0_init_43 (fun H locs hP hD hS => ?_)
  have hP : va_P D vwCl ([(h0, .inr (0, [.ref q7, .ref q15, .int (i32 0), .ref q28, .ref q36, .null, .ref a1])), (q7, .inl (ca 1, 12, .inl (fun _ => i32 0))), (q15, .inl (ca 0, 12, .inl (fun _ => i32 0))), (q28, .inl (ca 0, 8, .inl (fun _ => i32 0))), (q36, .inl (ca 0, 8, .inl (fun _ => i32 0)))]) H := hP
  have hD : va_D A ([(h0, .inr (0, [.ref q7, .ref q15, .int (i32 0), .ref q28, .ref q36, .null, .ref a1])), (q7, .inl (ca 1, 12, .inl (fun _ => i32 0))), (q15, .inl (ca 0, 12, .inl (fun _ => i32 0))), (q28, .inl (ca 0, 8, .inl (fun _ => i32 0))), (q36, .inl (ca 0, 8, .inl (fun _ => i32 0)))]) := hD
  refine lv_aload_n hx hb dX0_init_46 rfl (lv_at hl 0 rfl) ?_
  refine lv_aload_n hx hb dX0_init_47 rfl (lv_at hl 2 rfl) ?_
  refine ct_pF (v := .ref a2) hx hb hw hown hK hP hD hS fl_X0_33 kt_X0 rfl hin rfl rfl rfl (Nat.le_of_ble_eq_true rfl) dX0_init_48 (fun H locs hP hD hS => ?_)
  have hP : va_P D vwCl ([(h0, .inr (0, [.ref q7, .ref q15, .int (i32 0), .ref q28, .ref q36, .ref a2, .ref a1])), (q7, .inl (ca 1, 12, .inl (fun _ => i32 0))), (q15, .inl (ca 0, 12, .inl (fun _ => i32 0))), (q28, .inl (ca 0, 8, .inl (fun _ => i32 0))), (q36, .inl (ca 0, 8, .inl (fun _ => i32 0)))]) H := hP
  have hD : va_D A ([(h0, .inr (0, [.ref q7, .ref q15, .int (i32 0), .ref q28, .ref q36, .ref a2, .ref a1])), (q7, .inl (ca 1, 12, .inl (fun _ => i32 0))), (q15, .inl (ca 0, 12, .inl (fun _ => i32 0))), (q28, .inl (ca 0, 8, .inl (fun _ => i32 0))), (q36, .inl (ca 0, 8, .inl (fun _ => i32 0)))]) := hD
  have hPz := hP
  have hDz := hD
  refine W.widen (k := 4) (n := 40) (Nat.le_of_ble_eq_true rfl) (Nat.le_of_ble_eq_true rfl) ?_
  exact W.vret hx hb hr (fun t ht hW => ⟨⟨(fun k => [q7, q15, q28, q36].getD k 0), rfl, trivial, by rw [ht]; exact hPz, hDz⟩, hS.F ht⟩) hS.2.2 dX0_init_51
set_option maxHeartbeats 4000000 in
set_option maxRecDepth 100000 in
theorem ci_X3_init (l : Launch) (D : va_G) (ca : Nat → ClassId) (h0 sz : Nat) (n : Nat) (st : Int32) (hn : n ≤ 100) : Met l yX3_init (.code yX3_init cX3_init 3 none :: WS) (roomI 1 1 n 40) (PCi D ca noE [.ref h0, .int st, .int (i32 n)] [(h0, .inr (3, [.int (i32 0), .null]))] sz) (QCi D (fun u => [(h0, .inr (3, [.int st, .ref (u 0)])), ((u 0), .inl (ca 0, n, .inl (fun _ => i32 0)))]) (va_A [(h0, .inr (3, [.int (i32 0), .null]))] sz)) 1 n (va_A [(h0, .inr (3, [.int (i32 0), .null]))] sz) := by
  refine Met.ofW (cc := cX3_init) (maxL := 3) (ret := none) (by decide +kernel) rfl ?_
  intro p e s m args below meth c s₁ B hml hv
  obtain ⟨rfl, hsz, hP, hK, hE, hD0⟩ := hv
  have hx := B.exec
  have hb := B.bytes
  have hr := B.returns
  have hts0 := atoms_spec (ws := .code yX3_init cX3_init 3 none :: WS) B.pre
  have hw : ∀ w ∈ WS, w.before _ s = true := fun w h => hts0 w (List.mem_cons_of_mem _ h)
  have hown : s.vm.findClass RX3 = some m.cls := findClass_of_methodNamed B.named
  have hlocks := B.notSynchronized
  have hin : meth.name = "<init>" := (name_of_methodNamed B.named B.method).1
  subst hsz
  have hD := hD0.self (sz := s.heap.size)
  generalize hAe : va_A [(h0, .inr (3, [.int (i32 0), .null]))] s.heap.size = A at hD ⊢
  have hA : ∀ q : Nat, s.heap.size ≤ q → A q := fun q h => by rw [← hAe]; exact Or.inr h
  have hS : va_S A s.heap s.heap [] := va_S.rf
  have hl := lv_entry ([.ref h0, .int st, .int (i32 n)]) (n := 3) (Nat.le_of_ble_eq_true rfl)
  rw [lg_entry_eq]
  generalize (lg_sl ([.ref h0, .int st, .int (i32 n)]) ++ List.replicate (3 - (lg_sl ([.ref h0, .int st, .int (i32 n)])).length) Slot.unset).toArray = ls at hl ⊢
  have hl : lv_has ls 3 [(0, .ref h0), (1, .int st), (2, .int (i32 n))] := hl
  have hP : va_P D vwCl ([(h0, .inr (3, [.int (i32 0), .null]))]) s.heap := hP
  have hn0 : ¬ i32 (n : Int) < 0 := fun q => by rw [← i32_0, i32_lt (by omega) (by omega)] at q; omega
  have hnN : (i32 (n : Int)).toNatClampNeg = n := by rw [i32_clamp (by omega)]; omega
  refine lv_aload_n hx hb dX3_init_0 rfl (lv_at hl 0 rfl) ?_
  refine ct_ob hx hb hw hown ol_X3 hml hl.1 dX3_init_1 (Nat.le_of_ble_eq_true rfl) (Nat.le_of_ble_eq_true rfl) ?_
  refine lv_aload_n hx hb dX3_init_4 rfl (lv_at hl 0 rfl) ?_
  refine lv_iload_n hx hb dX3_init_5 rfl (lv_at hl 1 rfl) ?_
  refine ct_pF (v := .int st) hx hb hw hown hK hP hD hS fl_X3_9 kt_X3 rfl hin rfl rfl rfl (Nat.le_of_ble_eq_true rfl) dX3_init_6 (fun H locs hP hD hS => ?_)
  have hP : va_P D vwCl ([(h0, .inr (3, [.int st, .null]))]) H := hP
  have hD : va_D A ([(h0, .inr (3, [.int st, .null]))]) := hD
  refine lv_aload_n hx hb dX3_init_9 rfl (lv_at hl 0 rfl) ?_
  refine lv_iload_n hx hb dX3_init_10 rfl (lv_at hl 2 rfl) ?_
  refine vn_int (n := i32 n) (N' := n) hx hb hw hK hP hD hS hA hn0 hnN (by omega) (Nat.le_of_ble_eq_true rfl) (show 0 + n ≤ n by omega) dX3_init_11 (fun q11 H hP hD hS => ?_)
  have hP : va_P D vwCl ([(h0, .inr (3, [.int st, .null])), (q11, .inl (ca 0, n, .inl (fun _ => i32 0)))]) H := hP
  have hD : va_D A ([(h0, .inr (3, [.int st, .null])), (q11, .inl (ca 0, n, .inl (fun _ => i32 0)))]) := hD
  refine ct_pF (v := .ref q11) hx hb hw hown hK hP hD hS fl_X3_15 kt_X3 rfl hin rfl rfl rfl (Nat.le_of_ble_eq_true rfl) dX3_init_13 (fun H locs hP hD hS => ?_)
  have hP : va_P D vwCl ([(h0, .inr (3, [.int st, .ref q11])), (q11, .inl (ca 0, n, .inl (fun _ => i32 0)))]) H := hP
  have hD : va_D A ([(h0, .inr (3, [.int st, .ref q11])), (q11, .inl (ca 0, n, .inl (fun _ => i32 0)))]) := hD
  have hPz := hP
  have hDz := hD
  refine W.widen (k := 1) (n := n) (Nat.le_of_ble_eq_true rfl) (by omega) ?_
  exact W.vret hx hb hr (fun t ht hW => ⟨⟨(fun k => [q11].getD k 0), rfl, trivial, by rw [ht]; exact hPz, hDz⟩, hS.F ht⟩) hS.2.2 dX3_init_16
