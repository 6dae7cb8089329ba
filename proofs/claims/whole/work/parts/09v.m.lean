set_option maxHeartbeats 1000000 in
set_option maxRecDepth 100000 in
theorem ct_X7_countMany (tl : List CD) (M : Mem)  : Ct 0 mX7_countMany (LB ++ tl) [aR 32] M (fun r M1 => M = M1 ∧ r = some (aI (sm (M 48) (M 32 15).toNat))) := by
  refine Ct.of (own := RX7) rfl (by decide +kernel) (Nat.le_of_ble_eq_true rfl) (fun X cx rt => ?_)
  refine aw_eq (loc2 := [(0, aR 32)]) ?_ rfl rfl rfl rfl
  refine aw_ok (fun om => ?_)
  have htn : 0 ≤ M 32 15 ∧ M 32 15 ≤ 12 := okF om (lb_32 tl) (j := 15) rfl (show (0 : Nat) ≠ 1 by decide)
  refine aw_iconst (n := 0) cx dX7_countMany_0 (by decide) ?_
  refine aw_istore_n (loc2 := [(1, aI 0), (0, aR 32)]) cx dX7_countMany_1 rfl (by decide) rfl ?_
  refine aw_iconst (n := 0) cx dX7_countMany_2 (by decide) ?_
  refine aw_istore_n (loc2 := [(2, aI 0), (1, aI 0), (0, aR 32)]) cx dX7_countMany_3 rfl (by decide) rfl ?_
  have lp4q : ∀ (fu : Nat) (x1q : Int) (x2q : Int), (0 ≤ x2q ∧ x2q ≤ M 32 15) → (0 ≤ x1q ∧ x1q ≤ x2q) → (x1q = sm (M 48) x2q.toNat) → ((M 32 15 - x2q).toNat) < fu → AW X (LB ++ tl) 3 4 [(0, aR 32), (1, aI x1q), (2, aI x2q)] [] M := by
    intro fu
    induction fu with
    | zero =>
      intro x1q x2q h0q h1q hx hm
      exact absurd hm (Nat.not_lt_zero _)
    | succ fu ih4q =>
      intro x1q x2q h0q h1q hx hm
      refine aw_iload_n cx dX7_countMany_4 rfl 2 rfl ?_
      refine aw_aload_n cx dX7_countMany_5 rfl 0 rfl ?_
      refine aw_getI cx dX7_countMany_6 fl_X7_184 (lb_32 tl) rfl (fun z6q hz6q lo_z6q hi_z6q => ?_)
      refine aw_icmp_ge (tgt := 27) cx dX7_countMany_9 (by decide) (fun c9q => ?_) (fun c9q => ?_)
      · refine aw_iload_n cx dX7_countMany_27 rfl 1 rfl ?_
        refine aw_iret cx rt dX7_countMany_28 ?_
        exact ⟨rfl, congrArg (fun q => some (aI q)) (by rw [hx, show x2q.toNat = (M 32 15).toNat by omega])⟩
      · refine aw_iload_n cx dX7_countMany_12 rfl 1 rfl ?_
        refine aw_aload_n cx dX7_countMany_13 rfl 0 rfl ?_
        refine aw_getR (q := 48) cx dX7_countMany_14 fl_X7_55 (lb_32 tl) rfl rfl ?_
        refine aw_iload_n cx dX7_countMany_17 rfl 2 rfl ?_
        refine aw_iald cx dX7_countMany_18 (lb_48 tl) (⟨by omega, by omega⟩) (fun z18q hz18q lo_z18q hi_z18q => ?_)
        refine aw_iadd cx dX7_countMany_19 (by omega) (fun z19q hz19q => ?_)
        refine aw_istore_n (loc2 := [(1, aI z19q), (0, aR 32), (2, aI x2q)]) cx dX7_countMany_20 rfl (by decide) rfl ?_
        refine aw_iinc cx dX7_countMany_21 2 rfl (by decide) (by omega) (fun z21q hz21q => ?_)
        refine aw_loc (loc2 := [(2, aI z21q), (1, aI z19q), (0, aR 32)]) rfl ?_
        refine aw_goto (tgt := 4) cx dX7_countMany_24 (by decide) ?_
        refine aw_sub [2, 1, 0] rfl ?_
        refine ih4q _ _  ?i_h0 ?i_h1 ?i_hx ?i_m
        case i_h0 =>
          omega
        case i_h1 =>
          omega
        case i_hx =>
          rw [hz21q, sm_i h0q.1]; omega
        case i_m =>
          omega
  refine aw_sub [2, 1, 0] rfl ?_
  refine lp4q _ _ _  ?i_h0 ?i_h1 ?i_hx (Nat.lt_succ_self _)
  case i_h0 =>
    omega
  case i_h1 =>
    omega
  case i_hx =>
    rfl
set_option maxHeartbeats 1000000 in
set_option maxRecDepth 100000 in
theorem ct_X7_menOf (tl : List CD) (M : Mem) (least : Int) : Ct 0 mX7_menOf (LB ++ tl) [aR 32, aI least] M (fun r M1 => M = M1 ∧ r = some (aI (sm (fun t => b2 (least ≤ M 53 (24 * t + 23))) 8))) := by
  refine Ct.of (own := RX7) rfl (by decide +kernel) (Nat.le_of_ble_eq_true rfl) (fun X cx rt => ?_)
  refine aw_eq (loc2 := [(0, aR 32), (1, aI least)]) ?_ rfl rfl rfl rfl
  refine aw_rngL 1 rfl (fun rl_least rh_least => ?_)
  refine aw_iconst (n := 0) cx dX7_menOf_0 (by decide) ?_
  refine aw_istore_n (loc2 := [(2, aI 0), (0, aR 32), (1, aI least)]) cx dX7_menOf_1 rfl (by decide) rfl ?_
  refine aw_iconst (n := 0) cx dX7_menOf_2 (by decide) ?_
  refine aw_istore_n (loc2 := [(3, aI 0), (2, aI 0), (0, aR 32), (1, aI least)]) cx dX7_menOf_3 rfl (by decide) rfl ?_
  have lp4q : ∀ (fu : Nat) (x2q : Int) (x3q : Int), (0 ≤ x3q ∧ x3q ≤ 8) → (0 ≤ x2q ∧ x2q ≤ x3q) → (x2q = sm (fun t => b2 (least ≤ M 53 (24 * t + 23))) x3q.toNat) → ((8 - x3q).toNat) < fu → AW X (LB ++ tl) 4 4 [(0, aR 32), (1, aI least), (2, aI x2q), (3, aI x3q)] [] M := by
    intro fu
    induction fu with
    | zero =>
      intro x2q x3q h0q h1q hx hm
      exact absurd hm (Nat.not_lt_zero _)
    | succ fu ih4q =>
      intro x2q x3q h0q h1q hx hm
      refine aw_iload_n cx dX7_menOf_4 rfl 3 rfl ?_
      refine aw_bipush (n := 8) cx dX7_menOf_5 (by decide) ?_
      refine aw_icmp_ge (tgt := 40) cx dX7_menOf_7 (by decide) (fun c7q => ?_) (fun c7q => ?_)
      · refine aw_iload_n cx dX7_menOf_40 rfl 2 rfl ?_
        refine aw_iret cx rt dX7_menOf_41 ?_
        exact ⟨rfl, congrArg (fun q => some (aI q)) (by rw [hx, show x3q.toNat = 8 by omega])⟩
      · refine aw_iload_n cx dX7_menOf_10 rfl 2 rfl ?_
        refine aw_aload_n cx dX7_menOf_11 rfl 0 rfl ?_
        refine aw_getR (q := 53) cx dX7_menOf_12 fl_X7_70 (lb_32 tl) rfl rfl ?_
        refine aw_bipush (n := 24) cx dX7_menOf_15 (by decide) ?_
        refine aw_iload_n cx dX7_menOf_17 rfl 3 rfl ?_
        refine aw_imul cx dX7_menOf_18 (by omega) (fun z18q hz18q => ?_)
        refine aw_bipush (n := 23) cx dX7_menOf_19 (by decide) ?_
        refine aw_iadd cx dX7_menOf_21 (by omega) (fun z21q hz21q => ?_)
        refine aw_iald cx dX7_menOf_22 (lb_53 tl) (⟨by omega, by omega⟩) (fun z22q hz22q lo_z22q hi_z22q => ?_)
        refine aw_iload_n cx dX7_menOf_23 rfl 1 rfl ?_
        refine aw_icmp_lt (tgt := 31) cx dX7_menOf_24 (by decide) (fun c24q => ?_) (fun c24q => ?_)
        · refine aw_iconst (n := 0) cx dX7_menOf_31 (by decide) ?_
          refine aw_iadd cx dX7_menOf_32 (by omega) (fun z32q hz32q => ?_)
          refine aw_istore_n (loc2 := [(2, aI z32q), (0, aR 32), (1, aI least), (3, aI x3q)]) cx dX7_menOf_33 rfl (by decide) rfl ?_
          refine aw_iinc cx dX7_menOf_34 3 rfl (by decide) (by omega) (fun z34q hz34q => ?_)
          refine aw_loc (loc2 := [(3, aI z34q), (2, aI z32q), (0, aR 32), (1, aI least)]) rfl ?_
          refine aw_goto (tgt := 4) cx dX7_menOf_37 (by decide) ?_
          refine aw_sub [2, 3, 1, 0] rfl ?_
          refine ih4q _ _  ?i_h0 ?i_h1 ?i_hx ?i_m
          case i_h0 =>
            omega
          case i_h1 =>
            omega
          case i_hx =>
            have q22q : z22q = M 53 (24 * x3q.toNat + 23) := by rw [hz22q, show z21q.toNat = 24 * x3q.toNat + 23 by omega]
            rw [hz34q, sm_i h0q.1]; first | (rw [b2_t (by omega)]; omega) | (rw [b2_f (by omega)]; omega)
          case i_m =>
            omega
        · refine aw_iconst (n := 1) cx dX7_menOf_27 (by decide) ?_
          refine aw_goto (tgt := 32) cx dX7_menOf_28 (by decide) ?_
          refine aw_iadd cx dX7_menOf_32 (by omega) (fun z32q hz32q => ?_)
          refine aw_istore_n (loc2 := [(2, aI z32q), (0, aR 32), (1, aI least), (3, aI x3q)]) cx dX7_menOf_33 rfl (by decide) rfl ?_
          refine aw_iinc cx dX7_menOf_34 3 rfl (by decide) (by omega) (fun z34q hz34q => ?_)
          refine aw_loc (loc2 := [(3, aI z34q), (2, aI z32q), (0, aR 32), (1, aI least)]) rfl ?_
          refine aw_goto (tgt := 4) cx dX7_menOf_37 (by decide) ?_
          refine aw_sub [2, 3, 1, 0] rfl ?_
          refine ih4q _ _  ?i_h0 ?i_h1 ?i_hx ?i_m
          case i_h0 =>
            omega
          case i_h1 =>
            omega
          case i_hx =>
            have q22q : z22q = M 53 (24 * x3q.toNat + 23) := by rw [hz22q, show z21q.toNat = 24 * x3q.toNat + 23 by omega]
            rw [hz34q, sm_i h0q.1]; first | (rw [b2_t (by omega)]; omega) | (rw [b2_f (by omega)]; omega)
          case i_m =>
            omega
  refine aw_sub [2, 3, 1, 0] rfl ?_
  refine lp4q _ _ _  ?i_h0 ?i_h1 ?i_hx (Nat.lt_succ_self _)
  case i_h0 =>
    omega
  case i_h1 =>
    omega
  case i_hx =>
    rfl
set_option maxHeartbeats 1000000 in
set_option maxRecDepth 100000 in
theorem ct_X7_sumOf (tl : List CD) (M : Mem) (what : Int) (hj : JQ M) (hw : 0 ≤ what ∧ what ≤ 3) : Ct 8 mX7_sumOf (LB ++ tl) [aR 32, aI what] M (fun r M1 => ∃ x, r = some (aI x) ∧ FX RC RF M M1 ∧ RD M1 ∧ (aSum (fgT M) (qgT M) what x)) := by
  refine Ct.of (own := RX7) rfl (by decide +kernel) (Nat.le_of_ble_eq_true rfl) (fun X cx rt => ?_)
  refine aw_eq (loc2 := [(0, aR 32), (1, aI what)]) ?_ rfl rfl rfl rfl
  refine aw_rngL 1 rfl (fun rl_what rh_what => ?_)
  refine aw_aload_n cx dX7_sumOf_0 rfl 0 rfl ?_
  refine aw_callV (as := []) (k := 32) (stk := []) cx dX7_sumOf_1 ml_X7_243 mv_X7_runsTold rfl (lb_32 tl) (by decide) rfl rfl (Nat.le_of_ble_eq_true rfl) (ct_X7_runsTold tl M  (hj)) (fun rr1q M_1q hp1q => ?_)
  obtain ⟨rfl, hfxM_1, hrdM_1, hnwM_1, hrfM_1⟩ := hp1q
  refine aw_eq (stk2 := []) ?_ rfl rfl rfl rfl
  obtain ⟨rf1, rf2, rf3, rf4, rf5, rf6, rf7⟩ := hrfM_1
  have n15 := hnwM_1.1
  refine aw_iload_n cx dX7_sumOf_4 rfl 1 rfl ?_
  refine aw_if_ne (tgt := 18) cx dX7_sumOf_5 (by decide) (fun c5q => ?_) (fun c5q => ?_)
  · refine aw_iload_n cx dX7_sumOf_18 rfl 1 rfl ?_
    refine aw_iconst (n := 1) cx dX7_sumOf_19 (by decide) ?_
    refine aw_icmp_ne (tgt := 30) cx dX7_sumOf_20 (by decide) (fun c20q => ?_) (fun c20q => ?_)
    · refine aw_iload_n cx dX7_sumOf_30 rfl 1 rfl ?_
      refine aw_iconst (n := 2) cx dX7_sumOf_31 (by decide) ?_
      refine aw_icmp_ne (tgt := 43) cx dX7_sumOf_32 (by decide) (fun c32q => ?_) (fun c32q => ?_)
      · refine aw_aload_n cx dX7_sumOf_43 rfl 0 rfl ?_
        refine aw_iconst (n := 3) cx dX7_sumOf_44 (by decide) ?_
        refine aw_callV (as := [aI 3]) (k := 32) (stk := []) cx dX7_sumOf_45 ml_X7_266 mv_X7_menOf rfl (lb_32 tl) (by decide) rfl rfl (Nat.le_of_ble_eq_true rfl) (ct_X7_menOf tl M_1q _ ) (fun rr45q M_45q hp45q => ?_)
        obtain ⟨rfl, rfl⟩ := hp45q
        refine aw_top (stk := []) (fun z45q hz45q => ?_)
        refine aw_iret cx rt dX7_sumOf_48 ?_
        refine ⟨_, rfl, hfxM_1, hrdM_1, Or.inr (Or.inr (Or.inr (Or.inr ⟨by omega, ?_⟩)))⟩
        rw [hz45q]
        show sm (fun t => b2 (3 ≤ M_1q 53 (24 * t + 23))) 8 = sm (fun t => b2 (3 ≤ RNK (fSTD (-1) (fgT M) 23 t))) 8
        refine sm_c (fun t ht => ?_)
        have q := (rf4 t ht 23 (by omega)).2.1
        rw [q]
        rfl
      · refine aw_aload_n cx dX7_sumOf_35 rfl 0 rfl ?_
        refine aw_iconst (n := 1) cx dX7_sumOf_36 (by decide) ?_
        refine aw_callV (as := [aI 1]) (k := 32) (stk := []) cx dX7_sumOf_37 ml_X7_266 mv_X7_menOf rfl (lb_32 tl) (by decide) rfl rfl (Nat.le_of_ble_eq_true rfl) (ct_X7_menOf tl M_1q _ ) (fun rr37q M_37q hp37q => ?_)
        obtain ⟨rfl, rfl⟩ := hp37q
        refine aw_top (stk := []) (fun z37q hz37q => ?_)
        refine aw_goto (tgt := 48) cx dX7_sumOf_40 (by decide) ?_
        refine aw_iret cx rt dX7_sumOf_48 ?_
        refine ⟨_, rfl, hfxM_1, hrdM_1, Or.inr (Or.inr (Or.inr (Or.inl ⟨by omega, ?_⟩)))⟩
        rw [hz37q]
        show sm (fun t => b2 (1 ≤ M_1q 53 (24 * t + 23))) 8 = sm (fun t => b2 (1 ≤ RNK (fSTD (-1) (fgT M) 23 t))) 8
        refine sm_c (fun t ht => ?_)
        have q := (rf4 t ht 23 (by omega)).2.1
        rw [q]
        rfl
    · refine aw_aload_n cx dX7_sumOf_23 rfl 0 rfl ?_
      refine aw_callV (as := []) (k := 32) (stk := []) cx dX7_sumOf_24 ml_X7_262 mv_X7_countMany rfl (lb_32 tl) (by decide) rfl rfl (Nat.le_of_ble_eq_true rfl) (ct_X7_countMany tl M_1q  ) (fun rr24q M_24q hp24q => ?_)
      obtain ⟨rfl, rfl⟩ := hp24q
      refine aw_top (stk := []) (fun z24q hz24q => ?_)
      refine aw_goto (tgt := 48) cx dX7_sumOf_27 (by decide) ?_
      refine aw_iret cx rt dX7_sumOf_48 ?_
      refine ⟨_, rfl, hfxM_1, hrdM_1, Or.inr (Or.inr (Or.inl ⟨by omega, ?_⟩))⟩
      rw [hz24q, n15]
      exact sm_c rf2
  · refine aw_aload_n cx dX7_sumOf_8 rfl 0 rfl ?_
    refine aw_getI cx dX7_sumOf_9 fl_X7_228 (lb_32 tl) rfl (fun z9q hz9q lo_z9q hi_z9q => ?_)
    refine aw_callS (as := [aI z9q]) (stk := []) cx dX7_sumOf_12 ml_X7_259 ms_X7_many (by decide) rfl rfl (Nat.le_of_ble_eq_true rfl) (ct_X7_many tl M_1q _ (by omega)) (fun rr12q M_12q hp12q => ?_)
    obtain ⟨rfl, rfl⟩ := hp12q
    refine aw_top (stk := []) (fun z12q hz12q => ?_)
    have hrz12q : 0 ≤ z12q ∧ z12q ≤ 12 := by rw [hz12q]; exact PCN_in _
    refine aw_goto (tgt := 48) cx dX7_sumOf_15 (by decide) ?_
    refine aw_iret cx rt dX7_sumOf_48 ?_
    refine ⟨_, rfl, hfxM_1, hrdM_1, Or.inr (Or.inl ⟨by omega, ?_⟩)⟩
    rw [hz12q, hz9q, rf6]
set_option maxHeartbeats 1000000 in
set_option maxRecDepth 100000 in
theorem ct_X7_sum (tl : List CD) (M : Mem) (what : Int) (hj : JQ M) : Ct 9 mX7_sum (LB ++ tl) [aR 32, aI what] M (fun r M1 => ∃ x, r = some (aI x) ∧ FX RC RF M M1 ∧ (aSum (fgT M) (qgT M) what x)) := by
  refine Ct.of (own := RX7) rfl (by decide +kernel) (Nat.le_of_ble_eq_true rfl) (fun X cx rt => ?_)
  refine aw_eq (loc2 := [(0, aR 32), (1, aI what)]) ?_ rfl rfl rfl rfl
  refine aw_rngL 1 rfl (fun rl_what rh_what => ?_)
  refine aw_iload_n cx dX7_sum_0 rfl 1 rfl ?_
  refine aw_iconst (n := 0) cx dX7_sum_1 (by decide) ?_
  refine aw_iconst (n := 3) cx dX7_sum_2 (by decide) ?_
  refine aw_callS (as := [aI what, aI 0, aI 3]) (stk := []) cx dX7_sum_3 ml_X7_113 ms_X7_in (by decide) rfl rfl (Nat.le_of_ble_eq_true rfl) (ct_X7_in tl M _ _ _ ) (fun rr3q M_3q hp3q => ?_)
  obtain ⟨rfl, rfl⟩ := hp3q
  refine aw_top (stk := []) (fun z3q hz3q => ?_)
  refine aw_if_eq (tgt := 17) cx dX7_sum_6 (by decide) (fun c6q => ?_) (fun c6q => ?_)
  · have d6q := b2_e0.mp (hz3q.symm.trans c6q)
    refine aw_bipush (n := (-2)) cx dX7_sum_17 (by decide) ?_
    refine aw_iret cx rt dX7_sum_19 ?_
    first | exact ⟨_, rfl, hfxM_11, hanM_11⟩ | exact ⟨_, rfl, FX.rf, Or.inl ⟨by omega, rfl⟩⟩
  · have d6q := b2_y hz3q c6q
    refine aw_aload_n cx dX7_sum_9 rfl 0 rfl ?_
    refine aw_iload_n cx dX7_sum_10 rfl 1 rfl ?_
    refine aw_callV (as := [aI what]) (k := 32) (stk := []) cx dX7_sum_11 ml_X7_269 mv_X7_sumOf rfl (lb_32 tl) (by decide) rfl rfl (Nat.le_of_ble_eq_true rfl) (ct_X7_sumOf tl M _ (hj) (by omega)) (fun rr11q M_11q hp11q => ?_)
    obtain ⟨z11q, rfl, hfxM_11, hrdM_11, hanM_11⟩ := hp11q
    refine aw_eq (stk2 := [aI z11q]) ?_ rfl rfl rfl rfl
    refine aw_goto (tgt := 19) cx dX7_sum_14 (by decide) ?_
    refine aw_iret cx rt dX7_sum_19 ?_
    first | exact ⟨_, rfl, hfxM_11, hanM_11⟩ | exact ⟨_, rfl, FX.rf, Or.inl ⟨by omega, rfl⟩⟩
set_option maxHeartbeats 1000000 in
set_option maxRecDepth 100000 in
theorem ct_X7_liarOf (tl : List CD) (M : Mem)  (hj : JQ M) : Ct 8 mX7_liarOf (LB ++ tl) [aR 32] M (fun r M1 => ∃ x, r = some (aI x) ∧ FX RC RF M M1 ∧ RD M1 ∧ (aLiar (fgT M) x)) := by
  refine Ct.of (own := RX7) rfl (by decide +kernel) (Nat.le_of_ble_eq_true rfl) (fun X cx rt => ?_)
  refine aw_eq (loc2 := [(0, aR 32)]) ?_ rfl rfl rfl rfl
  refine aw_ok (fun om => ?_)
  have hsz : 0 ≤ M 5 4 ∧ M 5 4 ≤ 12 := okF om (lb_5 tl) (j := 4) rfl (show (0 : Nat) ≠ 1 by decide)
  refine aw_aload_n cx dX7_liarOf_0 rfl 0 rfl ?_
  refine aw_callV (as := []) (k := 32) (stk := []) cx dX7_liarOf_1 ml_X7_243 mv_X7_runsTold rfl (lb_32 tl) (by decide) rfl rfl (Nat.le_of_ble_eq_true rfl) (ct_X7_runsTold tl M  (hj)) (fun rr1q M_1q hp1q => ?_)
  obtain ⟨rfl, hfxM_1, hrdM_1, hnwM_1, hrfM_1⟩ := hp1q
  refine aw_eq (stk2 := []) ?_ rfl rfl rfl rfl
  obtain ⟨rf1, rf2, rf3, rf4, rf5, rf6, rf7⟩ := hrfM_1
  have er2 : M_1q 32 2 = M 5 4 := by rw [hrdM_1.1, hfxM_1.at 5 (by decide)]
  have erw : ∀ i, i < (M 5 4).toNat → M_1q 37 i = M 8 i := by
    intro i hi
    have q := hrdM_1.2.1 i (by rw [hfxM_1.at 5 (by decide)]; exact hi)
    rw [hfxM_1.at 8 (by decide)] at q
    exact q.2.2.1
  refine aw_iconst (n := (-1)) cx dX7_liarOf_4 (by decide) ?_
  refine aw_istore_n (loc2 := [(1, aI ((-1))), (0, aR 32)]) cx dX7_liarOf_5 rfl (by decide) rfl ?_
  refine aw_iconst (n := 0) cx dX7_liarOf_6 (by decide) ?_
  refine aw_istore_n (loc2 := [(2, aI 0), (1, aI ((-1))), (0, aR 32)]) cx dX7_liarOf_7 rfl (by decide) rfl ?_
  refine aw_iconst (n := 0) cx dX7_liarOf_8 (by decide) ?_
  refine aw_istore_n (loc2 := [(3, aI 0), (2, aI 0), (1, aI ((-1))), (0, aR 32)]) cx dX7_liarOf_9 rfl (by decide) rfl ?_
  have lp10q : ∀ (fu : Nat) (x1q : Int) (x2q : Int) (x3q : Int), (0 ≤ x3q ∧ x3q ≤ 10) → (AMX (fun w => FAL (-1) (gn (fgT M)) (fC (-1) (fgT M)) (gW (fgT M)) (w : Int)) 0 x3q.toNat x1q x2q) → ((10 - x3q).toNat) < fu → AW X (LB ++ tl) 6 10 [(0, aR 32), (1, aI x1q), (2, aI x2q), (3, aI x3q)] [] M_1q := by
    intro fu
    induction fu with
    | zero =>
      intro x1q x2q x3q h0q hx hm
      exact absurd hm (Nat.not_lt_zero _)
    | succ fu ih10q =>
      intro x1q x2q x3q h0q hx hm
      refine aw_iload_n cx dX7_liarOf_10 rfl 3 rfl ?_
      refine aw_bipush (n := 10) cx dX7_liarOf_11 (by decide) ?_
      refine aw_icmp_ge (tgt := 99) cx dX7_liarOf_13 (by decide) (fun c13q => ?_) (fun c13q => ?_)
      · refine aw_iload_n cx dX7_liarOf_99 rfl 1 rfl ?_
        refine aw_iret cx rt dX7_liarOf_100 ?_
        refine ⟨_, rfl, hfxM_1, hrdM_1, x2q, ?_⟩
        rw [show x3q.toNat = 10 by omega] at hx
        exact hx
      · refine aw_iconst (n := 0) cx dX7_liarOf_16 (by decide) ?_
        refine aw_istore (loc2 := [(4, aI 0), (0, aR 32), (1, aI x1q), (2, aI x2q), (3, aI x3q)]) cx dX7_liarOf_17 (by decide) rfl ?_
        refine aw_iconst (n := 0) cx dX7_liarOf_19 (by decide) ?_
        refine aw_istore (loc2 := [(5, aI 0), (4, aI 0), (0, aR 32), (1, aI x1q), (2, aI x2q), (3, aI x3q)]) cx dX7_liarOf_20 (by decide) rfl ?_
        have lp22q : ∀ (fu : Nat) (x4q : Int) (x5q : Int), (0 ≤ x5q ∧ x5q ≤ M 5 4) → (0 ≤ x4q ∧ x4q ≤ x5q) → (x4q = FAL (-1) x5q.toNat (M_1q 48) (M_1q 37) x3q) → ((M 5 4 - x5q).toNat) < fu → AW X (LB ++ tl) 6 22 [(0, aR 32), (1, aI x1q), (2, aI x2q), (3, aI x3q), (4, aI x4q), (5, aI x5q)] [] M_1q := by
          intro fu
          induction fu with
          | zero =>
            intro x4q x5q p0 p1 pv hm
            exact absurd hm (Nat.not_lt_zero _)
          | succ fu ih22q =>
            intro x4q x5q p0 p1 pv hm
            refine aw_iload cx dX7_liarOf_22 5 rfl ?_
            refine aw_aload_n cx dX7_liarOf_24 rfl 0 rfl ?_
            refine aw_getI cx dX7_liarOf_25 fl_X7_135 (lb_32 tl) rfl (fun z25q hz25q lo_z25q hi_z25q => ?_)
            refine aw_icmp_ge (tgt := 68) cx dX7_liarOf_28 (by decide) (fun c28q => ?_) (fun c28q => ?_)
            · have hg : (fun w => FAL (-1) (gn (fgT M)) (fC (-1) (fgT M)) (gW (fgT M)) (w : Int)) x3q.toNat = x4q := by
                show FAL (-1) (M 5 4).toNat (fC (-1) (fgT M)) (M 8) ((x3q.toNat : Nat) : Int) = x4q
                rw [show ((x3q.toNat : Nat) : Int) = x3q by omega, pv, show x5q.toNat = (M 5 4).toNat by omega]
                exact FAL_c (fun j hj => ⟨(rf2 j hj).symm, (erw j hj).symm⟩)
              refine aw_iload cx dX7_liarOf_68 4 rfl ?_
              refine aw_iload_n cx dX7_liarOf_70 rfl 2 rfl ?_
              refine aw_icmp_le (tgt := 78) cx dX7_liarOf_71 (by decide) (fun c71q => ?_) (fun c71q => ?_)
              · refine aw_iload_n cx dX7_liarOf_78 rfl 1 rfl ?_
                refine aw_istore_n (loc2 := [(1, aI x1q), (0, aR 32), (2, aI x2q), (3, aI x3q), (4, aI x4q), (5, aI x5q)]) cx dX7_liarOf_79 rfl (by decide) rfl ?_
                refine aw_iload cx dX7_liarOf_80 4 rfl ?_
                refine aw_iload_n cx dX7_liarOf_82 rfl 2 rfl ?_
                refine aw_icmp_le (tgt := 91) cx dX7_liarOf_83 (by decide) (fun c83q => ?_) (fun c83q => ?_)
                · refine aw_iload_n cx dX7_liarOf_91 rfl 2 rfl ?_
                  refine aw_istore_n (loc2 := [(2, aI x2q), (1, aI x1q), (0, aR 32), (3, aI x3q), (4, aI x4q), (5, aI x5q)]) cx dX7_liarOf_92 rfl (by decide) rfl ?_
                  refine aw_iinc cx dX7_liarOf_93 3 rfl (by decide) (by omega) (fun z93q hz93q => ?_)
                  refine aw_loc (loc2 := [(3, aI z93q), (2, aI x2q), (1, aI x1q), (0, aR 32), (4, aI x4q), (5, aI x5q)]) rfl ?_
                  refine aw_goto (tgt := 10) cx dX7_liarOf_96 (by decide) ?_
                  refine aw_sub [3, 2, 1, 0] rfl ?_
                  refine ih10q _ _ _  ?i_h0 ?i_hx ?i_m
                  case i_h0 =>
                    omega
                  case i_hx =>
                    rw [hz93q]; exact AMX_no h0q.1 hx (Int.le_trans (Int.le_of_eq hg) (by omega))
                  case i_m =>
                    omega
                · exfalso
                  omega
              · refine aw_iload_n cx dX7_liarOf_74 rfl 3 rfl ?_
                refine aw_goto (tgt := 79) cx dX7_liarOf_75 (by decide) ?_
                refine aw_istore_n (loc2 := [(1, aI x3q), (0, aR 32), (2, aI x2q), (3, aI x3q), (4, aI x4q), (5, aI x5q)]) cx dX7_liarOf_79 rfl (by decide) rfl ?_
                refine aw_iload cx dX7_liarOf_80 4 rfl ?_
                refine aw_iload_n cx dX7_liarOf_82 rfl 2 rfl ?_
                refine aw_icmp_le (tgt := 91) cx dX7_liarOf_83 (by decide) (fun c83q => ?_) (fun c83q => ?_)
                · exfalso
                  omega
                · refine aw_iload cx dX7_liarOf_86 4 rfl ?_
                  refine aw_goto (tgt := 92) cx dX7_liarOf_88 (by decide) ?_
                  refine aw_istore_n (loc2 := [(2, aI x4q), (1, aI x3q), (0, aR 32), (3, aI x3q), (4, aI x4q), (5, aI x5q)]) cx dX7_liarOf_92 rfl (by decide) rfl ?_
                  refine aw_iinc cx dX7_liarOf_93 3 rfl (by decide) (by omega) (fun z93q hz93q => ?_)
                  refine aw_loc (loc2 := [(3, aI z93q), (2, aI x4q), (1, aI x3q), (0, aR 32), (4, aI x4q), (5, aI x5q)]) rfl ?_
                  refine aw_goto (tgt := 10) cx dX7_liarOf_96 (by decide) ?_
                  refine aw_sub [3, 2, 1, 0] rfl ?_
                  refine ih10q _ _ _  ?i_h0 ?i_hx ?i_m
                  case i_h0 =>
                    omega
                  case i_hx =>
                    rw [hz93q, ← hg]; exact AMX_up h0q.1 hx (Int.lt_of_lt_of_le (show x2q < x4q by omega) (Int.le_of_eq hg.symm))
                  case i_m =>
                    omega
            · refine aw_iload cx dX7_liarOf_31 4 rfl ?_
              refine aw_aload_n cx dX7_liarOf_33 rfl 0 rfl ?_
              refine aw_getR (q := 37) cx dX7_liarOf_34 fl_X7_22 (lb_32 tl) rfl rfl ?_
              refine aw_iload cx dX7_liarOf_37 5 rfl ?_
              refine aw_iald cx dX7_liarOf_39 (lb_37 tl) (⟨by omega, by omega⟩) (fun z39q hz39q lo_z39q hi_z39q => ?_)
              refine aw_iload_n cx dX7_liarOf_40 rfl 3 rfl ?_
              refine aw_icmp_ne (tgt := 58) cx dX7_liarOf_41 (by decide) (fun c41q => ?_) (fun c41q => ?_)
              · refine aw_iconst (n := 0) cx dX7_liarOf_58 (by decide) ?_
                refine aw_iadd cx dX7_liarOf_59 (by omega) (fun z59q hz59q => ?_)
                refine aw_istore (loc2 := [(4, aI z59q), (0, aR 32), (1, aI x1q), (2, aI x2q), (3, aI x3q), (5, aI x5q)]) cx dX7_liarOf_60 (by decide) rfl ?_
                refine aw_iinc cx dX7_liarOf_62 5 rfl (by decide) (by omega) (fun z62q hz62q => ?_)
                refine aw_loc (loc2 := [(5, aI z62q), (4, aI z59q), (0, aR 32), (1, aI x1q), (2, aI x2q), (3, aI x3q)]) rfl ?_
                refine aw_goto (tgt := 22) cx dX7_liarOf_65 (by decide) ?_
                refine aw_sub [2, 3, 4, 5, 1, 0] rfl ?_
                refine ih22q _ _  ?i_p0 ?i_p1 ?i_pv ?i_m
                case i_p0 =>
                  omega
                case i_p1 =>
                  omega
                case i_pv =>
                  rw [hz62q, FAL_i p0.1]; first | (rw [b2_t (by omega)]; omega) | (rw [b2_f (by omega)]; omega)
                case i_m =>
                  omega
              · refine aw_aload_n cx dX7_liarOf_44 rfl 0 rfl ?_
                refine aw_getR (q := 48) cx dX7_liarOf_45 fl_X7_55 (lb_32 tl) rfl rfl ?_
                refine aw_iload cx dX7_liarOf_48 5 rfl ?_
                refine aw_iald cx dX7_liarOf_50 (lb_48 tl) (⟨by omega, by omega⟩) (fun z50q hz50q lo_z50q hi_z50q => ?_)
                refine aw_if_ne (tgt := 58) cx dX7_liarOf_51 (by decide) (fun c51q => ?_) (fun c51q => ?_)
                · refine aw_iconst (n := 0) cx dX7_liarOf_58 (by decide) ?_
                  refine aw_iadd cx dX7_liarOf_59 (by omega) (fun z59q hz59q => ?_)
                  refine aw_istore (loc2 := [(4, aI z59q), (0, aR 32), (1, aI x1q), (2, aI x2q), (3, aI x3q), (5, aI x5q)]) cx dX7_liarOf_60 (by decide) rfl ?_
                  refine aw_iinc cx dX7_liarOf_62 5 rfl (by decide) (by omega) (fun z62q hz62q => ?_)
                  refine aw_loc (loc2 := [(5, aI z62q), (4, aI z59q), (0, aR 32), (1, aI x1q), (2, aI x2q), (3, aI x3q)]) rfl ?_
                  refine aw_goto (tgt := 22) cx dX7_liarOf_65 (by decide) ?_
                  refine aw_sub [2, 3, 4, 5, 1, 0] rfl ?_
                  refine ih22q _ _  ?i_p0 ?i_p1 ?i_pv ?i_m
                  case i_p0 =>
                    omega
                  case i_p1 =>
                    omega
                  case i_pv =>
                    rw [hz62q, FAL_i p0.1]; first | (rw [b2_t (by omega)]; omega) | (rw [b2_f (by omega)]; omega)
                  case i_m =>
                    omega
                · refine aw_iconst (n := 1) cx dX7_liarOf_54 (by decide) ?_
                  refine aw_goto (tgt := 59) cx dX7_liarOf_55 (by decide) ?_
                  refine aw_iadd cx dX7_liarOf_59 (by omega) (fun z59q hz59q => ?_)
                  refine aw_istore (loc2 := [(4, aI z59q), (0, aR 32), (1, aI x1q), (2, aI x2q), (3, aI x3q), (5, aI x5q)]) cx dX7_liarOf_60 (by decide) rfl ?_
                  refine aw_iinc cx dX7_liarOf_62 5 rfl (by decide) (by omega) (fun z62q hz62q => ?_)
                  refine aw_loc (loc2 := [(5, aI z62q), (4, aI z59q), (0, aR 32), (1, aI x1q), (2, aI x2q), (3, aI x3q)]) rfl ?_
                  refine aw_goto (tgt := 22) cx dX7_liarOf_65 (by decide) ?_
                  refine aw_sub [2, 3, 4, 5, 1, 0] rfl ?_
                  refine ih22q _ _  ?i_p0 ?i_p1 ?i_pv ?i_m
                  case i_p0 =>
                    omega
                  case i_p1 =>
                    omega
                  case i_pv =>
                    rw [hz62q, FAL_i p0.1]; first | (rw [b2_t (by omega)]; omega) | (rw [b2_f (by omega)]; omega)
                  case i_m =>
                    omega
        refine aw_sub [2, 3, 4, 5, 1, 0] rfl ?_
        refine lp22q _ _ _  ?i_p0 ?i_p1 ?i_pv (Nat.lt_succ_self _)
        case i_p0 =>
          omega
        case i_p1 =>
          omega
        case i_pv =>
          rfl
  refine aw_sub [3, 2, 1, 0] rfl ?_
  refine lp10q _ _ _ _  ?i_h0 ?i_hx (Nat.lt_succ_self _)
  case i_h0 =>
    omega
  case i_hx =>
    exact AMX_0 _ _
set_option maxHeartbeats 1000000 in
set_option maxRecDepth 100000 in
theorem ct_X7_liar (tl : List CD) (M : Mem)  (hj : JQ M) : Ct 9 mX7_liar (LB ++ tl) [aR 32] M (fun r M1 => ∃ x, r = some (aI x) ∧ FX RC RF M M1 ∧ (aLiar (fgT M) x)) := by
  refine Ct.of (own := RX7) rfl (by decide +kernel) (Nat.le_of_ble_eq_true rfl) (fun X cx rt => ?_)
  refine aw_eq (loc2 := [(0, aR 32)]) ?_ rfl rfl rfl rfl
  refine aw_aload_n cx dX7_liar_0 rfl 0 rfl ?_
  refine aw_callV (as := []) (k := 32) (stk := []) cx dX7_liar_1 ml_X7_272 mv_X7_liarOf rfl (lb_32 tl) (by decide) rfl rfl (Nat.le_of_ble_eq_true rfl) (ct_X7_liarOf tl M  (hj)) (fun rr1q M_1q hp1q => ?_)
  obtain ⟨z1q, rfl, hfxM_1, hrdM_1, hanM_1⟩ := hp1q
  refine aw_eq (stk2 := [aI z1q]) ?_ rfl rfl rfl rfl
  refine aw_iret cx rt dX7_liar_4 ?_
  exact ⟨_, rfl, hfxM_1, hanM_1⟩
set_option maxHeartbeats 1000000 in
set_option maxRecDepth 100000 in
theorem ct_X7_bestOf (tl : List CD) (M : Mem)  (hj : JQ M) : Ct 8 mX7_bestOf (LB ++ tl) [aR 32] M (fun r M1 => ∃ x, r = some (aI x) ∧ FX RC RF M M1 ∧ RD M1 ∧ (aBest (fgT M) x)) := by
  refine Ct.of (own := RX7) rfl (by decide +kernel) (Nat.le_of_ble_eq_true rfl) (fun X cx rt => ?_)
  refine aw_eq (loc2 := [(0, aR 32)]) ?_ rfl rfl rfl rfl
  refine aw_aload_n cx dX7_bestOf_0 rfl 0 rfl ?_
  refine aw_callV (as := []) (k := 32) (stk := []) cx dX7_bestOf_1 ml_X7_243 mv_X7_runsTold rfl (lb_32 tl) (by decide) rfl rfl (Nat.le_of_ble_eq_true rfl) (ct_X7_runsTold tl M  (hj)) (fun rr1q M_1q hp1q => ?_)
  obtain ⟨rfl, hfxM_1, hrdM_1, hnwM_1, hrfM_1⟩ := hp1q
  refine aw_eq (stk2 := []) ?_ rfl rfl rfl rfl
  obtain ⟨rf1, rf2, rf3, rf4, rf5, rf6, rf7⟩ := hrfM_1
  refine aw_iconst (n := (-1)) cx dX7_bestOf_4 (by decide) ?_
  refine aw_istore_n (loc2 := [(1, aI ((-1))), (0, aR 32)]) cx dX7_bestOf_5 rfl (by decide) rfl ?_
  refine aw_iconst (n := (-1)) cx dX7_bestOf_6 (by decide) ?_
  refine aw_istore_n (loc2 := [(2, aI ((-1))), (1, aI ((-1))), (0, aR 32)]) cx dX7_bestOf_7 rfl (by decide) rfl ?_
  refine aw_iconst (n := 0) cx dX7_bestOf_8 (by decide) ?_
  refine aw_istore_n (loc2 := [(3, aI 0), (2, aI ((-1))), (1, aI ((-1))), (0, aR 32)]) cx dX7_bestOf_9 rfl (by decide) rfl ?_
  have lp10q : ∀ (fu : Nat) (x1q : Int) (x2q : Int) (x3q : Int), (0 ≤ x3q ∧ x3q ≤ 8) → (AMX (fSTD (-1) (fgT M) 23) (-1) x3q.toNat x1q x2q) → ((8 - x3q).toNat) < fu → AW X (LB ++ tl) 6 10 [(0, aR 32), (1, aI x1q), (2, aI x2q), (3, aI x3q)] [] M_1q := by
    intro fu
    induction fu with
    | zero =>
      intro x1q x2q x3q h0q hx hm
      exact absurd hm (Nat.not_lt_zero _)
    | succ fu ih10q =>
      intro x1q x2q x3q h0q hx hm
      have hge := AMX_ge hx
      refine aw_iload_n cx dX7_bestOf_10 rfl 3 rfl ?_
      refine aw_bipush (n := 8) cx dX7_bestOf_11 (by decide) ?_
      refine aw_icmp_ge (tgt := 87) cx dX7_bestOf_13 (by decide) (fun c13q => ?_) (fun c13q => ?_)
      · refine aw_iload_n cx dX7_bestOf_87 rfl 1 rfl ?_
        refine aw_iret cx rt dX7_bestOf_88 ?_
        refine ⟨_, rfl, hfxM_1, hrdM_1, x2q, ?_⟩
        rw [show x3q.toNat = 8 by omega] at hx
        exact hx
      · refine aw_bipush (n := 24) cx dX7_bestOf_16 (by decide) ?_
        refine aw_iload_n cx dX7_bestOf_18 rfl 3 rfl ?_
        refine aw_imul cx dX7_bestOf_19 (by omega) (fun z19q hz19q => ?_)
        refine aw_bipush (n := 23) cx dX7_bestOf_20 (by decide) ?_
        refine aw_iadd cx dX7_bestOf_22 (by omega) (fun z22q hz22q => ?_)
        refine aw_istore (loc2 := [(4, aI z22q), (0, aR 32), (1, aI x1q), (2, aI x2q), (3, aI x3q)]) cx dX7_bestOf_23 (by decide) rfl ?_
        refine aw_aload_n cx dX7_bestOf_25 rfl 1 rfl ?_
        refine aw_getR (q := 53) cx dX7_bestOf_26 fl_X7_70 (lb_32 tl) rfl rfl ?_
        refine aw_iload cx dX7_bestOf_29 0 rfl ?_
        refine aw_iald cx dX7_bestOf_31 (lb_53 tl) (⟨by omega, by omega⟩) (fun z31q hz31q lo_z31q hi_z31q => ?_)
        have hrng := RNK_z (fSTD_rng (night := 23) (t := x3q.toNat) rf1)
        have q4q := rf4 x3q.toNat (by omega) 23 (by omega)
        have q1q : M_1q 52 (24 * x3q.toNat + 23) = max 0 (fSTD (-1) (fgT M) 23 x3q.toNat) := q4q.1
        have q2q : z31q = RNK (fSTD (-1) (fgT M) 23 x3q.toNat) := by rw [hz31q, show z22q.toNat = 24 * x3q.toNat + 23 by omega]; exact q4q.2.1
        rw [show 24 * x3q.toNat + 23 = z22q.toNat by omega] at q1q
        refine aw_if_le (tgt := 50) cx dX7_bestOf_32 (by decide) (fun c32q => ?_) (fun c32q => ?_)
        · refine aw_iconst (n := 0) cx dX7_bestOf_50 (by decide) ?_
          refine aw_istore (loc2 := [(5, aI 0), (4, aI z22q), (0, aR 32), (1, aI x1q), (2, aI x2q), (3, aI x3q)]) cx dX7_bestOf_51 (by decide) rfl ?_
          refine aw_iload cx dX7_bestOf_53 0 rfl ?_
          refine aw_if_eq (tgt := 62) cx dX7_bestOf_55 (by decide) (fun c55q => ?_) (fun c55q => ?_)
          · refine aw_iload_n cx dX7_bestOf_62 rfl 3 rfl ?_
            refine aw_istore_n (loc2 := [(1, aI x1q), (5, aI 0), (4, aI z22q), (0, aR 32), (2, aI x2q), (3, aI x3q)]) cx dX7_bestOf_63 rfl (by decide) rfl ?_
            refine aw_iload cx dX7_bestOf_64 1 rfl ?_
            refine aw_if_eq (tgt := 79) cx dX7_bestOf_66 (by decide) (fun c66q => ?_) (fun c66q => ?_)
            · refine aw_iload_n cx dX7_bestOf_79 rfl 4 rfl ?_
              refine aw_istore_n (loc2 := [(2, aI x2q), (1, aI x1q), (5, aI 0), (4, aI z22q), (0, aR 32), (3, aI x3q)]) cx dX7_bestOf_80 rfl (by decide) rfl ?_
              refine aw_iinc cx dX7_bestOf_81 5 rfl (by decide) (by omega) (fun z81q hz81q => ?_)
              refine aw_loc (loc2 := [(3, aI z81q), (2, aI x2q), (1, aI x1q), (5, aI 0), (4, aI z22q), (0, aR 32)]) rfl ?_
              refine aw_goto (tgt := 10) cx dX7_bestOf_84 (by decide) ?_
              refine aw_sub [5, 2, 1, 0] rfl ?_
              refine ih10q _ _ _  ?i_h0 ?i_hx ?i_m
              case i_h0 =>
                omega
              case i_hx =>
                rw [hz81q]; exact AMX_no h0q.1 hx (by omega)
              case i_m =>
                omega
            · exact absurd c66q (by decide)
          · exact absurd c55q (by decide)
        · refine aw_aload_n cx dX7_bestOf_35 rfl 1 rfl ?_
          refine aw_getR (q := 52) cx dX7_bestOf_36 fl_X7_67 (lb_32 tl) rfl rfl ?_
          refine aw_iload cx dX7_bestOf_39 0 rfl ?_
          refine aw_iald cx dX7_bestOf_41 (lb_52 tl) (⟨by omega, by omega⟩) (fun z41q hz41q lo_z41q hi_z41q => ?_)
          refine aw_iload_n cx dX7_bestOf_42 rfl 3 rfl ?_
          refine aw_icmp_le (tgt := 50) cx dX7_bestOf_43 (by decide) (fun c43q => ?_) (fun c43q => ?_)
          · refine aw_iconst (n := 0) cx dX7_bestOf_50 (by decide) ?_
            refine aw_istore (loc2 := [(5, aI 0), (4, aI z22q), (0, aR 32), (1, aI x1q), (2, aI x2q), (3, aI x3q)]) cx dX7_bestOf_51 (by decide) rfl ?_
            refine aw_iload cx dX7_bestOf_53 0 rfl ?_
            refine aw_if_eq (tgt := 62) cx dX7_bestOf_55 (by decide) (fun c55q => ?_) (fun c55q => ?_)
            · refine aw_iload_n cx dX7_bestOf_62 rfl 3 rfl ?_
              refine aw_istore_n (loc2 := [(1, aI x1q), (5, aI 0), (4, aI z22q), (0, aR 32), (2, aI x2q), (3, aI x3q)]) cx dX7_bestOf_63 rfl (by decide) rfl ?_
              refine aw_iload cx dX7_bestOf_64 1 rfl ?_
              refine aw_if_eq (tgt := 79) cx dX7_bestOf_66 (by decide) (fun c66q => ?_) (fun c66q => ?_)
              · refine aw_iload_n cx dX7_bestOf_79 rfl 4 rfl ?_
                refine aw_istore_n (loc2 := [(2, aI x2q), (1, aI x1q), (5, aI 0), (4, aI z22q), (0, aR 32), (3, aI x3q)]) cx dX7_bestOf_80 rfl (by decide) rfl ?_
                refine aw_iinc cx dX7_bestOf_81 5 rfl (by decide) (by omega) (fun z81q hz81q => ?_)
                refine aw_loc (loc2 := [(3, aI z81q), (2, aI x2q), (1, aI x1q), (5, aI 0), (4, aI z22q), (0, aR 32)]) rfl ?_
                refine aw_goto (tgt := 10) cx dX7_bestOf_84 (by decide) ?_
                refine aw_sub [5, 2, 1, 0] rfl ?_
                refine ih10q _ _ _  ?i_h0 ?i_hx ?i_m
                case i_h0 =>
                  omega
                case i_hx =>
                  rw [hz81q]; exact AMX_no h0q.1 hx (by omega)
                case i_m =>
                  omega
              · exact absurd c66q (by decide)
            · exact absurd c55q (by decide)
          · refine aw_iconst (n := 1) cx dX7_bestOf_46 (by decide) ?_
            refine aw_goto (tgt := 51) cx dX7_bestOf_47 (by decide) ?_
            refine aw_istore (loc2 := [(5, aI 1), (4, aI z22q), (0, aR 32), (1, aI x1q), (2, aI x2q), (3, aI x3q)]) cx dX7_bestOf_51 (by decide) rfl ?_
            refine aw_iload cx dX7_bestOf_53 0 rfl ?_
            refine aw_if_eq (tgt := 62) cx dX7_bestOf_55 (by decide) (fun c55q => ?_) (fun c55q => ?_)
            · exact absurd c55q (by decide)
            · refine aw_iload_n cx dX7_bestOf_58 rfl 5 rfl ?_
              refine aw_goto (tgt := 63) cx dX7_bestOf_59 (by decide) ?_
              refine aw_istore_n (loc2 := [(1, aI x3q), (5, aI 1), (4, aI z22q), (0, aR 32), (2, aI x2q), (3, aI x3q)]) cx dX7_bestOf_63 rfl (by decide) rfl ?_
              refine aw_iload cx dX7_bestOf_64 1 rfl ?_
              refine aw_if_eq (tgt := 79) cx dX7_bestOf_66 (by decide) (fun c66q => ?_) (fun c66q => ?_)
              · exact absurd c66q (by decide)
              · refine aw_aload_n cx dX7_bestOf_69 rfl 3 rfl ?_
                refine aw_getR (q := 52) cx dX7_bestOf_70 fl_X7_67 (lb_32 tl) rfl rfl ?_
                refine aw_iload cx dX7_bestOf_73 2 rfl ?_
                refine aw_iald cx dX7_bestOf_75 (lb_52 tl) (⟨by omega, by omega⟩) (fun z75q hz75q lo_z75q hi_z75q => ?_)
                refine aw_goto (tgt := 80) cx dX7_bestOf_76 (by decide) ?_
                refine aw_istore_n (loc2 := [(2, aI z75q), (1, aI x3q), (5, aI 1), (4, aI z22q), (0, aR 32), (3, aI x3q)]) cx dX7_bestOf_80 rfl (by decide) rfl ?_
                refine aw_iinc cx dX7_bestOf_81 5 rfl (by decide) (by omega) (fun z81q hz81q => ?_)
                refine aw_loc (loc2 := [(3, aI z81q), (2, aI z75q), (1, aI x3q), (5, aI 1), (4, aI z22q), (0, aR 32)]) rfl ?_
                refine aw_goto (tgt := 10) cx dX7_bestOf_84 (by decide) ?_
                refine aw_sub [5, 2, 1, 0] rfl ?_
                refine ih10q _ _ _  ?i_h0 ?i_hx ?i_m
                case i_h0 =>
                  omega
                case i_hx =>
                  rw [hz81q, show z75q = fSTD (-1) (fgT M) 23 x3q.toNat by omega]; exact AMX_up h0q.1 hx (by omega)
                case i_m =>
                  omega
  refine aw_sub [3, 2, 1, 0] rfl ?_
  refine lp10q _ _ _ _  ?i_h0 ?i_hx (Nat.lt_succ_self _)
  case i_h0 =>
    omega
  case i_hx =>
    exact AMX_0 _ _
set_option maxHeartbeats 1000000 in
set_option maxRecDepth 100000 in
theorem ct_X7_best (tl : List CD) (M : Mem)  (hj : JQ M) : Ct 9 mX7_best (LB ++ tl) [aR 32] M (fun r M1 => ∃ x, r = some (aI x) ∧ FX RC RF M M1 ∧ (aBest (fgT M) x)) := by
  refine Ct.of (own := RX7) rfl (by decide +kernel) (Nat.le_of_ble_eq_true rfl) (fun X cx rt => ?_)
  refine aw_eq (loc2 := [(0, aR 32)]) ?_ rfl rfl rfl rfl
  refine aw_aload_n cx dX7_best_0 rfl 0 rfl ?_
  refine aw_callV (as := []) (k := 32) (stk := []) cx dX7_best_1 ml_X7_275 mv_X7_bestOf rfl (lb_32 tl) (by decide) rfl rfl (Nat.le_of_ble_eq_true rfl) (ct_X7_bestOf tl M  (hj)) (fun rr1q M_1q hp1q => ?_)
  obtain ⟨z1q, rfl, hfxM_1, hrdM_1, hanM_1⟩ := hp1q
  refine aw_eq (stk2 := [aI z1q]) ?_ rfl rfl rfl rfl
  refine aw_iret cx rt dX7_best_4 ?_
  exact ⟨_, rfl, hfxM_1, hanM_1⟩
set_option maxHeartbeats 1000000 in
set_option maxRecDepth 100000 in
theorem ct_X7_spread (tl : List CD) (M : Mem) (b : Int) : Ct 0 mX7_spread (LB ++ tl) [aI b] M (fun r M1 => M = M1 ∧ r = some (aI (RCH b))) := by
  refine Ct.of (own := RX7) rfl (by decide +kernel) (Nat.le_of_ble_eq_true rfl) (fun X cx rt => ?_)
  refine aw_eq (loc2 := [(0, aI b)]) ?_ rfl rfl rfl rfl
  refine aw_rngL 0 rfl (fun rl_b rh_b => ?_)
  refine aw_iload_n cx dX7_spread_0 rfl 0 rfl ?_
  refine aw_iload_n cx dX7_spread_1 rfl 0 rfl ?_
  refine aw_iconst (n := 1) cx dX7_spread_2 (by decide) ?_
  refine aw_ishl cx dX7_spread_3 (fun z3q hz3q => ?_)
  refine aw_ior cx dX7_spread_4 (fun z4q hz4q => ?_)
  refine aw_iload_n cx dX7_spread_5 rfl 0 rfl ?_
  refine aw_iconst (n := 1) cx dX7_spread_6 (by decide) ?_
  refine aw_ishr cx dX7_spread_7 (fun z7q hz7q => ?_)
  refine aw_ior cx dX7_spread_8 (fun z8q hz8q => ?_)
  refine aw_sipush (n := 255) cx dX7_spread_9 (by decide) ?_
  refine aw_iand cx dX7_spread_12 (fun z12q hz12q => ?_)
  refine aw_iret cx rt dX7_spread_13 ?_
  exact ⟨rfl, congrArg (fun q => some (aI q)) (by rw [hz12q, hz8q, hz4q, hz3q, hz7q]; rfl)⟩
set_option maxHeartbeats 1000000 in
set_option maxRecDepth 100000 in
theorem ct_X7_whereOf (tl : List CD) (M : Mem) (night : Int) (hj : JQ M) (hn : 0 ≤ night ∧ night ≤ 23) : Ct 8 mX7_whereOf (LB ++ tl) [aR 32, aI night] M (fun r M1 => ∃ x, r = some (aI x) ∧ FX RC RF M M1 ∧ RD M1 ∧ (aWhere (fgT M) night x)) := by
  refine Ct.of (own := RX7) rfl (by decide +kernel) (Nat.le_of_ble_eq_true rfl) (fun X cx rt => ?_)
  refine aw_eq (loc2 := [(0, aR 32), (1, aI night)]) ?_ rfl rfl rfl rfl
  refine aw_rngL 1 rfl (fun rl_night rh_night => ?_)
  refine aw_ok (fun om => ?_)
  have hsz : 0 ≤ M 5 4 ∧ M 5 4 ≤ 12 := okF om (lb_5 tl) (j := 4) rfl (show (0 : Nat) ≠ 1 by decide)
  have hT7 : ∀ j, 0 ≤ M 7 j ∧ M 7 j ≤ 7 := fun j => okA om (lb_7 tl) j
  have hsw : ∀ t, 0 ≤ fSW (fgT M) t ∧ fSW (fgT M) t ≤ 255 := fSW_in hT7
  refine aw_aload_n cx dX7_whereOf_0 rfl 0 rfl ?_
  refine aw_callV (as := []) (k := 32) (stk := []) cx dX7_whereOf_1 ml_X7_243 mv_X7_runsTold rfl (lb_32 tl) (by decide) rfl rfl (Nat.le_of_ble_eq_true rfl) (ct_X7_runsTold tl M  (hj)) (fun rr1q M_1q hp1q => ?_)
  obtain ⟨rfl, hfxM_1, hrdM_1, hnwM_1, hrfM_1⟩ := hp1q
  refine aw_eq (stk2 := []) ?_ rfl rfl rfl rfl
  obtain ⟨rf1, rf2, rf3, rf4, rf5, rf6, rf7⟩ := hrfM_1
  have er2 : M_1q 32 2 = M 5 4 := by rw [hrdM_1.1, hfxM_1.at 5 (by decide)]
  have erw : ∀ i, i < (M 5 4).toNat → M_1q 35 i = M 6 i ∧ M_1q 36 i = M 7 i ∧ M_1q 37 i = M 8 i ∧ M_1q 38 i = M 9 i := by
    intro i hi
    have q := hrdM_1.2.1 i (by rw [hfxM_1.at 5 (by decide)]; exact hi)
    rw [hfxM_1.at 6 (by decide), hfxM_1.at 7 (by decide), hfxM_1.at 8 (by decide), hfxM_1.at 9 (by decide)] at q
    exact q
  refine aw_ok (fun om1k => ?_)
  have hT1 : ∀ j, 0 ≤ M_1q 36 j ∧ M_1q 36 j ≤ 7 := fun j => okA om1k (lb_36 tl) j
  refine aw_iconst (n := 0) cx dX7_whereOf_4 (by decide) ?_
  refine aw_istore_n (loc2 := [(2, aI 0), (0, aR 32), (1, aI night)]) cx dX7_whereOf_5 rfl (by decide) rfl ?_
  have lp6q : ∀ (fu : Nat) (x2q : Int) (N6q : Mem), (0 ≤ x2q ∧ x2q ≤ 24) → (FR [54] M_1q N6q) → (∀ t, t < x2q.toNat → N6q 54 t = FWD (fSW (fgT M)) t) → ((24 - x2q).toNat) < fu → AW X (LB ++ tl) 4 6 [(0, aR 32), (1, aI night), (2, aI x2q)] [] N6q := by
    intro fu
    induction fu with
    | zero =>
      intro x2q N6q h0q hf hx hm
      exact absurd hm (Nat.not_lt_zero _)
    | succ fu ih6q =>
      intro x2q N6q h0q hf hx hm
      refine aw_iload_n cx dX7_whereOf_6 rfl 2 rfl ?_
      refine aw_bipush (n := 24) cx dX7_whereOf_7 (by decide) ?_
      refine aw_icmp_ge (tgt := 113) cx dX7_whereOf_9 (by decide) (fun c9q => ?_) (fun c9q => ?_)
      · refine aw_bipush (n := 22) cx dX7_whereOf_113 (by decide) ?_
        refine aw_istore_n (loc2 := [(2, aI 22), (0, aR 32), (1, aI night)]) cx dX7_whereOf_115 rfl (by decide) rfl ?_
        have lp116q : ∀ (fu : Nat) (x2q : Int) (N116q : Mem), (-1 ≤ x2q ∧ x2q ≤ 22) → (FR [54] M_1q N116q) → (∀ t : Nat, x2q < (t : Int) → t ≤ 23 → N116q 54 t = bAnd (FWD (fSW (fgT M)) t) (BWD (fSW (fgT M)) (23 - t))) → (∀ t : Nat, (t : Int) ≤ x2q → N116q 54 t = FWD (fSW (fgT M)) t) → ((x2q + 1).toNat) < fu → AW X (LB ++ tl) 4 116 [(0, aR 32), (1, aI night), (2, aI x2q)] [] N116q := by
          intro fu
          induction fu with
          | zero =>
            intro x2q N116q q0q qf qa qb hm
            exact absurd hm (Nat.not_lt_zero _)
          | succ fu ih116q =>
            intro x2q N116q q0q qf qa qb hm
            refine aw_iload_n cx dX7_whereOf_116 rfl 2 rfl ?_
            refine aw_if_lt (tgt := 146) cx dX7_whereOf_117 (by decide) (fun c117q => ?_) (fun c117q => ?_)
            · refine aw_aload_n cx dX7_whereOf_146 rfl 0 rfl ?_
              refine aw_getR (q := 54) cx dX7_whereOf_147 fl_X7_73 (lb_32 tl) rfl rfl ?_
              refine aw_iload_n cx dX7_whereOf_150 rfl 1 rfl ?_
              refine aw_iald cx dX7_whereOf_151 (lb_54 tl) (⟨by omega, by omega⟩) (fun z151q hz151q lo_z151q hi_z151q => ?_)
              refine aw_iret cx rt dX7_whereOf_152 ?_
              refine ⟨_, rfl, (hfxM_1.tr (FX.of (fs := []) qf) (by decide) (by decide)), RD_fx hrdM_1 (FX.of (fs := []) qf) (by decide), Or.inr ⟨by omega, by omega, ?_⟩⟩
              rw [hz151q, qa night.toNat (by omega) (by omega), show 23 - night.toNat = (23 - night).toNat by omega]
            · refine aw_aload_n cx dX7_whereOf_120 rfl 0 rfl ?_
              refine aw_getR (q := 54) cx dX7_whereOf_121 fl_X7_73 (lb_32 tl) rfl rfl ?_
              refine aw_iload_n cx dX7_whereOf_124 rfl 2 rfl ?_
              refine aw_dup2 cx dX7_whereOf_125 rfl rfl ?_
              refine aw_iald cx dX7_whereOf_126 (lb_54 tl) (⟨by omega, by omega⟩) (fun z126q hz126q lo_z126q hi_z126q => ?_)
              refine aw_aload_n cx dX7_whereOf_127 rfl 0 rfl ?_
              refine aw_getR (q := 54) cx dX7_whereOf_128 fl_X7_73 (lb_32 tl) rfl rfl ?_
              refine aw_iload_n cx dX7_whereOf_131 rfl 2 rfl ?_
              refine aw_iconst (n := 1) cx dX7_whereOf_132 (by decide) ?_
              refine aw_iadd cx dX7_whereOf_133 (by omega) (fun z133q hz133q => ?_)
              refine aw_iald cx dX7_whereOf_134 (lb_54 tl) (⟨by omega, by omega⟩) (fun z134q hz134q lo_z134q hi_z134q => ?_)
              refine aw_callS (as := [aI z134q]) (stk := [aI z126q, aI x2q, aR 54]) cx dX7_whereOf_135 ml_X7_278 ms_X7_spread (by decide) rfl rfl (Nat.le_of_ble_eq_true rfl) (ct_X7_spread tl N116q _ ) (fun rr135q M_135q hp135q => ?_)
              obtain ⟨rfl, rfl⟩ := hp135q
              refine aw_top (stk := [aI z126q, aI x2q, aR 54]) (fun z135q hz135q => ?_)
              have hrz135q : 0 ≤ z135q ∧ z135q ≤ 255 := by rw [hz135q]; exact RCH_in
              refine aw_iand cx dX7_whereOf_138 (fun z138q hz138q => ?_)
              refine aw_iast cx dX7_whereOf_139 (lb_54 tl) (⟨by omega, by omega⟩) (by have q := bAnd_lo (x := z126q) ⟨lo_z126q, hi_z126q⟩ (show 0 ≤ z135q by omega); rw [hz138q]; exact q) ?_
              obtain ⟨M_139q, hM_139q⟩ : ∃ qm, qm = up N116q (54) (Int.toNat (x2q)) (z138q) := ⟨_, rfl⟩
              rw [← hM_139q]
              refine aw_iinc cx dX7_whereOf_140 2 rfl (by decide) (by omega) (fun z140q hz140q => ?_)
              refine aw_loc (loc2 := [(2, aI z140q), (0, aR 32), (1, aI night)]) rfl ?_
              refine aw_goto (tgt := 116) cx dX7_whereOf_143 (by decide) ?_
              refine aw_sub [1, 2, 0] rfl ?_
              refine ih116q _ _  ?i_q0 ?i_qf ?i_qa ?i_qb ?i_m
              case i_q0 =>
                omega
              case i_qf =>
                exact qf.put hM_139q (by decide)
              case i_qa =>
                intro t h1q h2q
                by_cases e : t = x2q.toNat
                · have w := where_s hsw (d := 22 - x2q.toNat) (by omega)
                  rw [show 22 - (22 - x2q.toNat) = x2q.toNat by omega, show 23 - (22 - x2q.toNat) = x2q.toNat + 1 by omega, show 22 - x2q.toNat + 1 = 23 - x2q.toNat by omega] at w
                  have a1 := qa (x2q.toNat + 1) (by omega) (by omega)
                  rw [show 23 - (x2q.toNat + 1) = 22 - x2q.toNat by omega] at a1
                  have a2 := qb x2q.toNat (by omega)
                  rw [e, up_eq hM_139q, hz138q, hz135q, hz134q, hz126q, show z133q.toNat = x2q.toNat + 1 by omega, a1, a2]
                  exact w
                · rw [up_ne hM_139q (by omega)]
                  exact qa t (by omega) h2q
              case i_qb =>
                intro t h1q; rw [up_ne hM_139q (by omega)]; exact qb t (by omega)
              case i_m =>
                omega
        refine aw_sub [1, 2, 0] rfl ?_
        refine lp116q _ _ _  ?i_q0 ?i_qf ?i_qa ?i_qb (Nat.lt_succ_self _)
        case i_q0 =>
          omega
        case i_qf =>
          exact hf
        case i_qa =>
          intro t h1q h2q; rw [show t = 23 by omega, hx 23 (by omega)]; exact (FWD_23 hsw).symm
        case i_qb =>
          intro t h1q; exact hx t (by omega)
      · refine aw_aload_n cx dX7_whereOf_12 rfl 0 rfl ?_
        refine aw_getR (q := 54) cx dX7_whereOf_13 fl_X7_73 (lb_32 tl) rfl rfl ?_
        refine aw_iload_n cx dX7_whereOf_16 rfl 2 rfl ?_
        refine aw_iload_n cx dX7_whereOf_17 rfl 2 rfl ?_
        refine aw_if_ne (tgt := 27) cx dX7_whereOf_18 (by decide) (fun c18q => ?_) (fun c18q => ?_)
        · refine aw_aload_n cx dX7_whereOf_27 rfl 0 rfl ?_
          refine aw_getR (q := 54) cx dX7_whereOf_28 fl_X7_73 (lb_32 tl) rfl rfl ?_
          refine aw_iload_n cx dX7_whereOf_31 rfl 2 rfl ?_
          refine aw_iconst (n := 1) cx dX7_whereOf_32 (by decide) ?_
          refine aw_isub cx dX7_whereOf_33 (by omega) (fun z33q hz33q => ?_)
          refine aw_iald cx dX7_whereOf_34 (lb_54 tl) (⟨by omega, by omega⟩) (fun z34q hz34q lo_z34q hi_z34q => ?_)
          refine aw_callS (as := [aI z34q]) (stk := [aI x2q, aR 54]) cx dX7_whereOf_35 ml_X7_278 ms_X7_spread (by decide) rfl rfl (Nat.le_of_ble_eq_true rfl) (ct_X7_spread tl N6q _ ) (fun rr35q M_35q hp35q => ?_)
          obtain ⟨rfl, rfl⟩ := hp35q
          refine aw_top (stk := [aI x2q, aR 54]) (fun z35q hz35q => ?_)
          have hrz35q : 0 ≤ z35q ∧ z35q ≤ 255 := by rw [hz35q]; exact RCH_in
          refine aw_iast cx dX7_whereOf_38 (lb_54 tl) (⟨by omega, by omega⟩) (⟨by omega, by omega⟩) ?_
          obtain ⟨M_38q, hM_38q⟩ : ∃ qm, qm = up N6q (54) (Int.toNat (x2q)) (z35q) := ⟨_, rfl⟩
          rw [← hM_38q]
          have hXe : ∃ Xv, (M_38q 54 x2q.toNat = Xv ∧ (0 ≤ Xv ∧ Xv ≤ 255) ∧ bAnd Xv (fSW (fgT M) x2q.toNat) = FWD (fSW (fgT M)) x2q.toNat) := by
            refine ⟨_, up_eq hM_38q, ?_, ?_⟩
            · first | omega | exact ⟨by decide, by decide⟩
            · first
              | (rw [show x2q.toNat = 0 by omega, bAnd_comm ⟨by decide, by decide⟩ (hsw 0), bAnd_255 (hsw 0)]; rfl)
              | (obtain ⟨e, he⟩ : ∃ e, x2q.toNat = e + 1 := ⟨x2q.toNat - 1, by omega⟩
                 rw [hz35q, hz34q, show z33q.toNat = e by omega, hx e (by omega), he]
                 rfl)
          obtain ⟨Xv, hX0, hXb, hXf⟩ := hXe
          refine aw_iconst (n := 0) cx dX7_whereOf_39 (by decide) ?_
          refine aw_istore_n (loc2 := [(3, aI 0), (0, aR 32), (1, aI night), (2, aI x2q)]) cx dX7_whereOf_40 rfl (by decide) rfl ?_
          have lp41q : ∀ (fu : Nat) (x3q : Int) (N41q : Mem), (0 ≤ x3q ∧ x3q ≤ M 5 4) → (FR [54] M_1q N41q) → (∀ t, t ≠ x2q.toNat → N41q 54 t = N6q 54 t) → (N41q 54 x2q.toNat = MAYF (M_1q 48) (M_1q 38) (M_1q 35) (M_1q 36) x2q Xv x3q.toNat) → ((M 5 4 - x3q).toNat) < fu → AW X (LB ++ tl) 4 41 [(0, aR 32), (1, aI night), (2, aI x2q), (3, aI x3q)] [] N41q := by
            intro fu
            induction fu with
            | zero =>
              intro x3q N41q p0 pf po pv hm
              exact absurd hm (Nat.not_lt_zero _)
            | succ fu ih41q =>
              intro x3q N41q p0 pf po pv hm
              have f2 := congrFun (pf 32 (by decide)) 2
              refine aw_iload_n cx dX7_whereOf_41 rfl 3 rfl ?_
              refine aw_aload_n cx dX7_whereOf_42 rfl 0 rfl ?_
              refine aw_getI cx dX7_whereOf_43 fl_X7_135 (lb_32 tl) rfl (fun z43q hz43q lo_z43q hi_z43q => ?_)
              refine aw_icmp_ge (tgt := 107) cx dX7_whereOf_46 (by decide) (fun c46q => ?_) (fun c46q => ?_)
              · refine aw_iinc cx dX7_whereOf_107 2 rfl (by decide) (by omega) (fun z107q hz107q => ?_)
                refine aw_loc (loc2 := [(2, aI z107q), (0, aR 32), (1, aI night), (3, aI x3q)]) rfl ?_
                refine aw_goto (tgt := 6) cx dX7_whereOf_110 (by decide) ?_
                refine aw_sub [1, 2, 0] rfl ?_
                refine ih6q _ _  ?i_h0 ?i_hf ?i_hx ?i_m
                case i_h0 =>
                  omega
                case i_hf =>
                  exact pf
                case i_hx =>
                  intro t ht
                  by_cases q : t = x2q.toNat
                  · have hu := MAYF_e (C := M_1q 48) (S := M_1q 38) (N := M_1q 35) (T := M_1q 36) (night := x2q) (X := Xv) hT1 hXb x3q.toNat
                    have hv : SWF (M_1q 48) (M_1q 38) (M_1q 35) (M_1q 36) x2q x3q.toNat = fSW (fgT M) x2q.toNat := by
                      show _ = SWF (fC (-1) (fgT M)) (M 9) (M 6) (M 7) ((x2q.toNat : Nat) : Int) (M 5 4).toNat
                      rw [show x3q.toNat = (M 5 4).toNat by omega, show ((x2q.toNat : Nat) : Int) = x2q by omega]
                      exact SWF_c _ (fun j hj => ⟨rf2 j hj, (erw j hj).2.2.2, (erw j hj).1, (erw j hj).2.1⟩)
                    rw [q, pv, hu, hv]
                    exact hXf
                  · rw [po t q]
                    exact hx t (by omega)
                case i_m =>
                  omega
              · refine aw_aload_n cx dX7_whereOf_49 rfl 0 rfl ?_
                refine aw_getR (q := 54) cx dX7_whereOf_50 fl_X7_73 (lb_32 tl) rfl rfl ?_
                refine aw_iload_n cx dX7_whereOf_53 rfl 2 rfl ?_
                refine aw_dup2 cx dX7_whereOf_54 rfl rfl ?_
                refine aw_iald cx dX7_whereOf_55 (lb_54 tl) (⟨by omega, by omega⟩) (fun z55q hz55q lo_z55q hi_z55q => ?_)
                refine aw_aload_n cx dX7_whereOf_56 rfl 0 rfl ?_
                refine aw_getR (q := 48) cx dX7_whereOf_57 fl_X7_55 (lb_32 tl) rfl rfl ?_
                refine aw_iload_n cx dX7_whereOf_60 rfl 3 rfl ?_
                refine aw_iald cx dX7_whereOf_61 (lb_48 tl) (⟨by omega, by omega⟩) (fun z61q hz61q lo_z61q hi_z61q => ?_)
                refine aw_iconst (n := 1) cx dX7_whereOf_62 (by decide) ?_
                refine aw_icmp_ne (tgt := 96) cx dX7_whereOf_63 (by decide) (fun c63q => ?_) (fun c63q => ?_)
                · refine aw_sipush (n := 255) cx dX7_whereOf_96 (by decide) ?_
                  refine aw_iand cx dX7_whereOf_99 (fun z99q hz99q => ?_)
                  refine aw_iast cx dX7_whereOf_100 (lb_54 tl) (⟨by omega, by omega⟩) (by first | (have q := bAnd_lo (x := z55q) (y := 255) ⟨lo_z55q, hi_z55q⟩ (by decide); rw [hz99q]; exact q) | (have q := bAnd_lo (x := z55q) (y := z92q) ⟨lo_z55q, hi_z55q⟩ (by rw [hz92q]; exact (bShl_lt (k := z91q) (n := 8) (by omega) (by omega)).1); rw [hz99q]; exact q)) ?_
                  obtain ⟨M_100q, hM_100q⟩ : ∃ qm, qm = up N41q (54) (Int.toNat (x2q)) (z99q) := ⟨_, rfl⟩
                  rw [← hM_100q]
                  refine aw_iinc cx dX7_whereOf_101 3 rfl (by decide) (by omega) (fun z101q hz101q => ?_)
                  refine aw_loc (loc2 := [(3, aI z101q), (0, aR 32), (1, aI night), (2, aI x2q)]) rfl ?_
                  refine aw_goto (tgt := 41) cx dX7_whereOf_104 (by decide) ?_
                  refine aw_sub [1, 2, 3, 0] rfl ?_
                  refine ih41q _ _  ?i_p0 ?i_pf ?i_po ?i_pv ?i_m
                  case i_p0 =>
                    omega
                  case i_pf =>
                    exact pf.put hM_100q (by decide)
                  case i_po =>
                    intro t ht; rw [up_ne hM_100q (by omega)]; exact po t ht
                  case i_pv =>
                    have g48 := congrFun (pf 48 (by decide)) x3q.toNat
                    have g38 := congrFun (pf 38 (by decide)) x3q.toNat
                    have g35 := congrFun (pf 35 (by decide)) x3q.toNat
                    have g36 := congrFun (pf 36 (by decide)) x3q.toNat
                    rw [up_eq hM_100q, hz101q, MAYF_i p0.1, ← pv, hz99q, ← hz55q]
                    first | (rw [if_pos (by omega), hz92q, hz91q, g36]; done) | (rw [if_neg (by omega)]; done)
                  case i_m =>
                    omega
                · refine aw_aload_n cx dX7_whereOf_66 rfl 0 rfl ?_
                  refine aw_getR (q := 38) cx dX7_whereOf_67 fl_X7_25 (lb_32 tl) rfl rfl ?_
                  refine aw_iload_n cx dX7_whereOf_70 rfl 3 rfl ?_
                  refine aw_iald cx dX7_whereOf_71 (lb_38 tl) (⟨by omega, by omega⟩) (fun z71q hz71q lo_z71q hi_z71q => ?_)
                  refine aw_if_ne (tgt := 96) cx dX7_whereOf_72 (by decide) (fun c72q => ?_) (fun c72q => ?_)
                  · refine aw_sipush (n := 255) cx dX7_whereOf_96 (by decide) ?_
                    refine aw_iand cx dX7_whereOf_99 (fun z99q hz99q => ?_)
                    refine aw_iast cx dX7_whereOf_100 (lb_54 tl) (⟨by omega, by omega⟩) (by first | (have q := bAnd_lo (x := z55q) (y := 255) ⟨lo_z55q, hi_z55q⟩ (by decide); rw [hz99q]; exact q) | (have q := bAnd_lo (x := z55q) (y := z92q) ⟨lo_z55q, hi_z55q⟩ (by rw [hz92q]; exact (bShl_lt (k := z91q) (n := 8) (by omega) (by omega)).1); rw [hz99q]; exact q)) ?_
                    obtain ⟨M_100q, hM_100q⟩ : ∃ qm, qm = up N41q (54) (Int.toNat (x2q)) (z99q) := ⟨_, rfl⟩
                    rw [← hM_100q]
                    refine aw_iinc cx dX7_whereOf_101 3 rfl (by decide) (by omega) (fun z101q hz101q => ?_)
                    refine aw_loc (loc2 := [(3, aI z101q), (0, aR 32), (1, aI night), (2, aI x2q)]) rfl ?_
                    refine aw_goto (tgt := 41) cx dX7_whereOf_104 (by decide) ?_
                    refine aw_sub [1, 2, 3, 0] rfl ?_
                    refine ih41q _ _  ?i_p0 ?i_pf ?i_po ?i_pv ?i_m
                    case i_p0 =>
                      omega
                    case i_pf =>
                      exact pf.put hM_100q (by decide)
                    case i_po =>
                      intro t ht; rw [up_ne hM_100q (by omega)]; exact po t ht
                    case i_pv =>
                      have g48 := congrFun (pf 48 (by decide)) x3q.toNat
                      have g38 := congrFun (pf 38 (by decide)) x3q.toNat
                      have g35 := congrFun (pf 35 (by decide)) x3q.toNat
                      have g36 := congrFun (pf 36 (by decide)) x3q.toNat
                      rw [up_eq hM_100q, hz101q, MAYF_i p0.1, ← pv, hz99q, ← hz55q]
                      first | (rw [if_pos (by omega), hz92q, hz91q, g36]; done) | (rw [if_neg (by omega)]; done)
                    case i_m =>
                      omega
                  · refine aw_aload_n cx dX7_whereOf_75 rfl 0 rfl ?_
                    refine aw_getR (q := 35) cx dX7_whereOf_76 fl_X7_16 (lb_32 tl) rfl rfl ?_
                    refine aw_iload_n cx dX7_whereOf_79 rfl 3 rfl ?_
                    refine aw_iald cx dX7_whereOf_80 (lb_35 tl) (⟨by omega, by omega⟩) (fun z80q hz80q lo_z80q hi_z80q => ?_)
                    refine aw_iload_n cx dX7_whereOf_81 rfl 2 rfl ?_
                    refine aw_icmp_ne (tgt := 96) cx dX7_whereOf_82 (by decide) (fun c82q => ?_) (fun c82q => ?_)
                    · refine aw_sipush (n := 255) cx dX7_whereOf_96 (by decide) ?_
                      refine aw_iand cx dX7_whereOf_99 (fun z99q hz99q => ?_)
                      refine aw_iast cx dX7_whereOf_100 (lb_54 tl) (⟨by omega, by omega⟩) (by first | (have q := bAnd_lo (x := z55q) (y := 255) ⟨lo_z55q, hi_z55q⟩ (by decide); rw [hz99q]; exact q) | (have q := bAnd_lo (x := z55q) (y := z92q) ⟨lo_z55q, hi_z55q⟩ (by rw [hz92q]; exact (bShl_lt (k := z91q) (n := 8) (by omega) (by omega)).1); rw [hz99q]; exact q)) ?_
                      obtain ⟨M_100q, hM_100q⟩ : ∃ qm, qm = up N41q (54) (Int.toNat (x2q)) (z99q) := ⟨_, rfl⟩
                      rw [← hM_100q]
                      refine aw_iinc cx dX7_whereOf_101 3 rfl (by decide) (by omega) (fun z101q hz101q => ?_)
                      refine aw_loc (loc2 := [(3, aI z101q), (0, aR 32), (1, aI night), (2, aI x2q)]) rfl ?_
                      refine aw_goto (tgt := 41) cx dX7_whereOf_104 (by decide) ?_
                      refine aw_sub [1, 2, 3, 0] rfl ?_
                      refine ih41q _ _  ?i_p0 ?i_pf ?i_po ?i_pv ?i_m
                      case i_p0 =>
                        omega
                      case i_pf =>
                        exact pf.put hM_100q (by decide)
                      case i_po =>
                        intro t ht; rw [up_ne hM_100q (by omega)]; exact po t ht
                      case i_pv =>
                        have g48 := congrFun (pf 48 (by decide)) x3q.toNat
                        have g38 := congrFun (pf 38 (by decide)) x3q.toNat
                        have g35 := congrFun (pf 35 (by decide)) x3q.toNat
                        have g36 := congrFun (pf 36 (by decide)) x3q.toNat
                        rw [up_eq hM_100q, hz101q, MAYF_i p0.1, ← pv, hz99q, ← hz55q]
                        first | (rw [if_pos (by omega), hz92q, hz91q, g36]; done) | (rw [if_neg (by omega)]; done)
                      case i_m =>
                        omega
                    · refine aw_iconst (n := 1) cx dX7_whereOf_85 (by decide) ?_
                      refine aw_aload_n cx dX7_whereOf_86 rfl 0 rfl ?_
                      refine aw_getR (q := 36) cx dX7_whereOf_87 fl_X7_19 (lb_32 tl) rfl rfl ?_
                      refine aw_iload_n cx dX7_whereOf_90 rfl 3 rfl ?_
                      refine aw_iald cx dX7_whereOf_91 (lb_36 tl) (⟨by omega, by omega⟩) (fun z91q hz91q lo_z91q hi_z91q => ?_)
                      refine aw_ishl cx dX7_whereOf_92 (fun z92q hz92q => ?_)
                      refine aw_goto (tgt := 99) cx dX7_whereOf_93 (by decide) ?_
                      refine aw_iand cx dX7_whereOf_99 (fun z99q hz99q => ?_)
                      refine aw_iast cx dX7_whereOf_100 (lb_54 tl) (⟨by omega, by omega⟩) (by first | (have q := bAnd_lo (x := z55q) (y := 255) ⟨lo_z55q, hi_z55q⟩ (by decide); rw [hz99q]; exact q) | (have q := bAnd_lo (x := z55q) (y := z92q) ⟨lo_z55q, hi_z55q⟩ (by rw [hz92q]; exact (bShl_lt (k := z91q) (n := 8) (by omega) (by omega)).1); rw [hz99q]; exact q)) ?_
                      obtain ⟨M_100q, hM_100q⟩ : ∃ qm, qm = up N41q (54) (Int.toNat (x2q)) (z99q) := ⟨_, rfl⟩
                      rw [← hM_100q]
                      refine aw_iinc cx dX7_whereOf_101 3 rfl (by decide) (by omega) (fun z101q hz101q => ?_)
                      refine aw_loc (loc2 := [(3, aI z101q), (0, aR 32), (1, aI night), (2, aI x2q)]) rfl ?_
                      refine aw_goto (tgt := 41) cx dX7_whereOf_104 (by decide) ?_
                      refine aw_sub [1, 2, 3, 0] rfl ?_
                      refine ih41q _ _  ?i_p0 ?i_pf ?i_po ?i_pv ?i_m
                      case i_p0 =>
                        omega
                      case i_pf =>
                        exact pf.put hM_100q (by decide)
                      case i_po =>
                        intro t ht; rw [up_ne hM_100q (by omega)]; exact po t ht
                      case i_pv =>
                        have g48 := congrFun (pf 48 (by decide)) x3q.toNat
                        have g38 := congrFun (pf 38 (by decide)) x3q.toNat
                        have g35 := congrFun (pf 35 (by decide)) x3q.toNat
                        have g36 := congrFun (pf 36 (by decide)) x3q.toNat
                        rw [up_eq hM_100q, hz101q, MAYF_i p0.1, ← pv, hz99q, ← hz55q]
                        first | (rw [if_pos (by omega), hz92q, hz91q, g36]; done) | (rw [if_neg (by omega)]; done)
                      case i_m =>
                        omega
          refine aw_sub [1, 2, 3, 0] rfl ?_
          refine lp41q _ _ _  ?i_p0 ?i_pf ?i_po ?i_pv (Nat.lt_succ_self _)
          case i_p0 =>
            omega
          case i_pf =>
            exact hf.put hM_38q (by decide)
          case i_po =>
            intro t ht; exact up_ne hM_38q (by omega)
          case i_pv =>
            exact hX0
        · refine aw_sipush (n := 255) cx dX7_whereOf_21 (by decide) ?_
          refine aw_goto (tgt := 38) cx dX7_whereOf_24 (by decide) ?_
          refine aw_iast cx dX7_whereOf_38 (lb_54 tl) (⟨by omega, by omega⟩) (⟨by omega, by omega⟩) ?_
          obtain ⟨M_38q, hM_38q⟩ : ∃ qm, qm = up N6q (54) (Int.toNat (x2q)) (255) := ⟨_, rfl⟩
          rw [← hM_38q]
          have hXe : ∃ Xv, (M_38q 54 x2q.toNat = Xv ∧ (0 ≤ Xv ∧ Xv ≤ 255) ∧ bAnd Xv (fSW (fgT M) x2q.toNat) = FWD (fSW (fgT M)) x2q.toNat) := by
            refine ⟨_, up_eq hM_38q, ?_, ?_⟩
            · first | omega | exact ⟨by decide, by decide⟩
            · first
              | (rw [show x2q.toNat = 0 by omega, bAnd_comm ⟨by decide, by decide⟩ (hsw 0), bAnd_255 (hsw 0)]; rfl)
              | (obtain ⟨e, he⟩ : ∃ e, x2q.toNat = e + 1 := ⟨x2q.toNat - 1, by omega⟩
                 rw [hz35q, hz34q, show z33q.toNat = e by omega, hx e (by omega), he]
                 rfl)
          obtain ⟨Xv, hX0, hXb, hXf⟩ := hXe
          refine aw_iconst (n := 0) cx dX7_whereOf_39 (by decide) ?_
          refine aw_istore_n (loc2 := [(3, aI 0), (0, aR 32), (1, aI night), (2, aI x2q)]) cx dX7_whereOf_40 rfl (by decide) rfl ?_
          have lp41q : ∀ (fu : Nat) (x3q : Int) (N41q : Mem), (0 ≤ x3q ∧ x3q ≤ M 5 4) → (FR [54] M_1q N41q) → (∀ t, t ≠ x2q.toNat → N41q 54 t = N6q 54 t) → (N41q 54 x2q.toNat = MAYF (M_1q 48) (M_1q 38) (M_1q 35) (M_1q 36) x2q Xv x3q.toNat) → ((M 5 4 - x3q).toNat) < fu → AW X (LB ++ tl) 4 41 [(0, aR 32), (1, aI night), (2, aI x2q), (3, aI x3q)] [] N41q := by
            intro fu
            induction fu with
            | zero =>
              intro x3q N41q p0 pf po pv hm
              exact absurd hm (Nat.not_lt_zero _)
            | succ fu ih41q =>
              intro x3q N41q p0 pf po pv hm
              have f2 := congrFun (pf 32 (by decide)) 2
              refine aw_iload_n cx dX7_whereOf_41 rfl 3 rfl ?_
              refine aw_aload_n cx dX7_whereOf_42 rfl 0 rfl ?_
              refine aw_getI cx dX7_whereOf_43 fl_X7_135 (lb_32 tl) rfl (fun z43q hz43q lo_z43q hi_z43q => ?_)
              refine aw_icmp_ge (tgt := 107) cx dX7_whereOf_46 (by decide) (fun c46q => ?_) (fun c46q => ?_)
              · refine aw_iinc cx dX7_whereOf_107 2 rfl (by decide) (by omega) (fun z107q hz107q => ?_)
                refine aw_loc (loc2 := [(2, aI z107q), (0, aR 32), (1, aI night), (3, aI x3q)]) rfl ?_
                refine aw_goto (tgt := 6) cx dX7_whereOf_110 (by decide) ?_
                refine aw_sub [1, 2, 0] rfl ?_
                refine ih6q _ _  ?i_h0 ?i_hf ?i_hx ?i_m
                case i_h0 =>
                  omega
                case i_hf =>
                  exact pf
                case i_hx =>
                  intro t ht
                  by_cases q : t = x2q.toNat
                  · have hu := MAYF_e (C := M_1q 48) (S := M_1q 38) (N := M_1q 35) (T := M_1q 36) (night := x2q) (X := Xv) hT1 hXb x3q.toNat
                    have hv : SWF (M_1q 48) (M_1q 38) (M_1q 35) (M_1q 36) x2q x3q.toNat = fSW (fgT M) x2q.toNat := by
                      show _ = SWF (fC (-1) (fgT M)) (M 9) (M 6) (M 7) ((x2q.toNat : Nat) : Int) (M 5 4).toNat
                      rw [show x3q.toNat = (M 5 4).toNat by omega, show ((x2q.toNat : Nat) : Int) = x2q by omega]
                      exact SWF_c _ (fun j hj => ⟨rf2 j hj, (erw j hj).2.2.2, (erw j hj).1, (erw j hj).2.1⟩)
                    rw [q, pv, hu, hv]
                    exact hXf
                  · rw [po t q]
                    exact hx t (by omega)
                case i_m =>
                  omega
              · refine aw_aload_n cx dX7_whereOf_49 rfl 0 rfl ?_
                refine aw_getR (q := 54) cx dX7_whereOf_50 fl_X7_73 (lb_32 tl) rfl rfl ?_
                refine aw_iload_n cx dX7_whereOf_53 rfl 2 rfl ?_
                refine aw_dup2 cx dX7_whereOf_54 rfl rfl ?_
                refine aw_iald cx dX7_whereOf_55 (lb_54 tl) (⟨by omega, by omega⟩) (fun z55q hz55q lo_z55q hi_z55q => ?_)
                refine aw_aload_n cx dX7_whereOf_56 rfl 0 rfl ?_
                refine aw_getR (q := 48) cx dX7_whereOf_57 fl_X7_55 (lb_32 tl) rfl rfl ?_
                refine aw_iload_n cx dX7_whereOf_60 rfl 3 rfl ?_
                refine aw_iald cx dX7_whereOf_61 (lb_48 tl) (⟨by omega, by omega⟩) (fun z61q hz61q lo_z61q hi_z61q => ?_)
                refine aw_iconst (n := 1) cx dX7_whereOf_62 (by decide) ?_
                refine aw_icmp_ne (tgt := 96) cx dX7_whereOf_63 (by decide) (fun c63q => ?_) (fun c63q => ?_)
                · refine aw_sipush (n := 255) cx dX7_whereOf_96 (by decide) ?_
                  refine aw_iand cx dX7_whereOf_99 (fun z99q hz99q => ?_)
                  refine aw_iast cx dX7_whereOf_100 (lb_54 tl) (⟨by omega, by omega⟩) (by first | (have q := bAnd_lo (x := z55q) (y := 255) ⟨lo_z55q, hi_z55q⟩ (by decide); rw [hz99q]; exact q) | (have q := bAnd_lo (x := z55q) (y := z92q) ⟨lo_z55q, hi_z55q⟩ (by rw [hz92q]; exact (bShl_lt (k := z91q) (n := 8) (by omega) (by omega)).1); rw [hz99q]; exact q)) ?_
                  obtain ⟨M_100q, hM_100q⟩ : ∃ qm, qm = up N41q (54) (Int.toNat (x2q)) (z99q) := ⟨_, rfl⟩
                  rw [← hM_100q]
                  refine aw_iinc cx dX7_whereOf_101 3 rfl (by decide) (by omega) (fun z101q hz101q => ?_)
                  refine aw_loc (loc2 := [(3, aI z101q), (0, aR 32), (1, aI night), (2, aI x2q)]) rfl ?_
                  refine aw_goto (tgt := 41) cx dX7_whereOf_104 (by decide) ?_
                  refine aw_sub [1, 2, 3, 0] rfl ?_
                  refine ih41q _ _  ?i_p0 ?i_pf ?i_po ?i_pv ?i_m
                  case i_p0 =>
                    omega
                  case i_pf =>
                    exact pf.put hM_100q (by decide)
                  case i_po =>
                    intro t ht; rw [up_ne hM_100q (by omega)]; exact po t ht
                  case i_pv =>
                    have g48 := congrFun (pf 48 (by decide)) x3q.toNat
                    have g38 := congrFun (pf 38 (by decide)) x3q.toNat
                    have g35 := congrFun (pf 35 (by decide)) x3q.toNat
                    have g36 := congrFun (pf 36 (by decide)) x3q.toNat
                    rw [up_eq hM_100q, hz101q, MAYF_i p0.1, ← pv, hz99q, ← hz55q]
                    first | (rw [if_pos (by omega), hz92q, hz91q, g36]; done) | (rw [if_neg (by omega)]; done)
                  case i_m =>
                    omega
                · refine aw_aload_n cx dX7_whereOf_66 rfl 0 rfl ?_
                  refine aw_getR (q := 38) cx dX7_whereOf_67 fl_X7_25 (lb_32 tl) rfl rfl ?_
                  refine aw_iload_n cx dX7_whereOf_70 rfl 3 rfl ?_
                  refine aw_iald cx dX7_whereOf_71 (lb_38 tl) (⟨by omega, by omega⟩) (fun z71q hz71q lo_z71q hi_z71q => ?_)
                  refine aw_if_ne (tgt := 96) cx dX7_whereOf_72 (by decide) (fun c72q => ?_) (fun c72q => ?_)
                  · refine aw_sipush (n := 255) cx dX7_whereOf_96 (by decide) ?_
                    refine aw_iand cx dX7_whereOf_99 (fun z99q hz99q => ?_)
                    refine aw_iast cx dX7_whereOf_100 (lb_54 tl) (⟨by omega, by omega⟩) (by first | (have q := bAnd_lo (x := z55q) (y := 255) ⟨lo_z55q, hi_z55q⟩ (by decide); rw [hz99q]; exact q) | (have q := bAnd_lo (x := z55q) (y := z92q) ⟨lo_z55q, hi_z55q⟩ (by rw [hz92q]; exact (bShl_lt (k := z91q) (n := 8) (by omega) (by omega)).1); rw [hz99q]; exact q)) ?_
                    obtain ⟨M_100q, hM_100q⟩ : ∃ qm, qm = up N41q (54) (Int.toNat (x2q)) (z99q) := ⟨_, rfl⟩
                    rw [← hM_100q]
                    refine aw_iinc cx dX7_whereOf_101 3 rfl (by decide) (by omega) (fun z101q hz101q => ?_)
                    refine aw_loc (loc2 := [(3, aI z101q), (0, aR 32), (1, aI night), (2, aI x2q)]) rfl ?_
                    refine aw_goto (tgt := 41) cx dX7_whereOf_104 (by decide) ?_
                    refine aw_sub [1, 2, 3, 0] rfl ?_
                    refine ih41q _ _  ?i_p0 ?i_pf ?i_po ?i_pv ?i_m
                    case i_p0 =>
                      omega
                    case i_pf =>
                      exact pf.put hM_100q (by decide)
                    case i_po =>
                      intro t ht; rw [up_ne hM_100q (by omega)]; exact po t ht
                    case i_pv =>
                      have g48 := congrFun (pf 48 (by decide)) x3q.toNat
                      have g38 := congrFun (pf 38 (by decide)) x3q.toNat
                      have g35 := congrFun (pf 35 (by decide)) x3q.toNat
                      have g36 := congrFun (pf 36 (by decide)) x3q.toNat
                      rw [up_eq hM_100q, hz101q, MAYF_i p0.1, ← pv, hz99q, ← hz55q]
                      first | (rw [if_pos (by omega), hz92q, hz91q, g36]; done) | (rw [if_neg (by omega)]; done)
                    case i_m =>
                      omega
                  · refine aw_aload_n cx dX7_whereOf_75 rfl 0 rfl ?_
                    refine aw_getR (q := 35) cx dX7_whereOf_76 fl_X7_16 (lb_32 tl) rfl rfl ?_
                    refine aw_iload_n cx dX7_whereOf_79 rfl 3 rfl ?_
                    refine aw_iald cx dX7_whereOf_80 (lb_35 tl) (⟨by omega, by omega⟩) (fun z80q hz80q lo_z80q hi_z80q => ?_)
                    refine aw_iload_n cx dX7_whereOf_81 rfl 2 rfl ?_
                    refine aw_icmp_ne (tgt := 96) cx dX7_whereOf_82 (by decide) (fun c82q => ?_) (fun c82q => ?_)
                    · refine aw_sipush (n := 255) cx dX7_whereOf_96 (by decide) ?_
                      refine aw_iand cx dX7_whereOf_99 (fun z99q hz99q => ?_)
                      refine aw_iast cx dX7_whereOf_100 (lb_54 tl) (⟨by omega, by omega⟩) (by first | (have q := bAnd_lo (x := z55q) (y := 255) ⟨lo_z55q, hi_z55q⟩ (by decide); rw [hz99q]; exact q) | (have q := bAnd_lo (x := z55q) (y := z92q) ⟨lo_z55q, hi_z55q⟩ (by rw [hz92q]; exact (bShl_lt (k := z91q) (n := 8) (by omega) (by omega)).1); rw [hz99q]; exact q)) ?_
                      obtain ⟨M_100q, hM_100q⟩ : ∃ qm, qm = up N41q (54) (Int.toNat (x2q)) (z99q) := ⟨_, rfl⟩
                      rw [← hM_100q]
                      refine aw_iinc cx dX7_whereOf_101 3 rfl (by decide) (by omega) (fun z101q hz101q => ?_)
                      refine aw_loc (loc2 := [(3, aI z101q), (0, aR 32), (1, aI night), (2, aI x2q)]) rfl ?_
                      refine aw_goto (tgt := 41) cx dX7_whereOf_104 (by decide) ?_
                      refine aw_sub [1, 2, 3, 0] rfl ?_
                      refine ih41q _ _  ?i_p0 ?i_pf ?i_po ?i_pv ?i_m
                      case i_p0 =>
                        omega
                      case i_pf =>
                        exact pf.put hM_100q (by decide)
                      case i_po =>
                        intro t ht; rw [up_ne hM_100q (by omega)]; exact po t ht
                      case i_pv =>
                        have g48 := congrFun (pf 48 (by decide)) x3q.toNat
                        have g38 := congrFun (pf 38 (by decide)) x3q.toNat
                        have g35 := congrFun (pf 35 (by decide)) x3q.toNat
                        have g36 := congrFun (pf 36 (by decide)) x3q.toNat
                        rw [up_eq hM_100q, hz101q, MAYF_i p0.1, ← pv, hz99q, ← hz55q]
                        first | (rw [if_pos (by omega), hz92q, hz91q, g36]; done) | (rw [if_neg (by omega)]; done)
                      case i_m =>
                        omega
                    · refine aw_iconst (n := 1) cx dX7_whereOf_85 (by decide) ?_
                      refine aw_aload_n cx dX7_whereOf_86 rfl 0 rfl ?_
                      refine aw_getR (q := 36) cx dX7_whereOf_87 fl_X7_19 (lb_32 tl) rfl rfl ?_
                      refine aw_iload_n cx dX7_whereOf_90 rfl 3 rfl ?_
                      refine aw_iald cx dX7_whereOf_91 (lb_36 tl) (⟨by omega, by omega⟩) (fun z91q hz91q lo_z91q hi_z91q => ?_)
                      refine aw_ishl cx dX7_whereOf_92 (fun z92q hz92q => ?_)
                      refine aw_goto (tgt := 99) cx dX7_whereOf_93 (by decide) ?_
                      refine aw_iand cx dX7_whereOf_99 (fun z99q hz99q => ?_)
                      refine aw_iast cx dX7_whereOf_100 (lb_54 tl) (⟨by omega, by omega⟩) (by first | (have q := bAnd_lo (x := z55q) (y := 255) ⟨lo_z55q, hi_z55q⟩ (by decide); rw [hz99q]; exact q) | (have q := bAnd_lo (x := z55q) (y := z92q) ⟨lo_z55q, hi_z55q⟩ (by rw [hz92q]; exact (bShl_lt (k := z91q) (n := 8) (by omega) (by omega)).1); rw [hz99q]; exact q)) ?_
                      obtain ⟨M_100q, hM_100q⟩ : ∃ qm, qm = up N41q (54) (Int.toNat (x2q)) (z99q) := ⟨_, rfl⟩
                      rw [← hM_100q]
                      refine aw_iinc cx dX7_whereOf_101 3 rfl (by decide) (by omega) (fun z101q hz101q => ?_)
                      refine aw_loc (loc2 := [(3, aI z101q), (0, aR 32), (1, aI night), (2, aI x2q)]) rfl ?_
                      refine aw_goto (tgt := 41) cx dX7_whereOf_104 (by decide) ?_
                      refine aw_sub [1, 2, 3, 0] rfl ?_
                      refine ih41q _ _  ?i_p0 ?i_pf ?i_po ?i_pv ?i_m
                      case i_p0 =>
                        omega
                      case i_pf =>
                        exact pf.put hM_100q (by decide)
                      case i_po =>
                        intro t ht; rw [up_ne hM_100q (by omega)]; exact po t ht
                      case i_pv =>
                        have g48 := congrFun (pf 48 (by decide)) x3q.toNat
                        have g38 := congrFun (pf 38 (by decide)) x3q.toNat
                        have g35 := congrFun (pf 35 (by decide)) x3q.toNat
                        have g36 := congrFun (pf 36 (by decide)) x3q.toNat
                        rw [up_eq hM_100q, hz101q, MAYF_i p0.1, ← pv, hz99q, ← hz55q]
                        first | (rw [if_pos (by omega), hz92q, hz91q, g36]; done) | (rw [if_neg (by omega)]; done)
                      case i_m =>
                        omega
          refine aw_sub [1, 2, 3, 0] rfl ?_
          refine lp41q _ _ _  ?i_p0 ?i_pf ?i_po ?i_pv (Nat.lt_succ_self _)
          case i_p0 =>
            omega
          case i_pf =>
            exact hf.put hM_38q (by decide)
          case i_po =>
            intro t ht; exact up_ne hM_38q (by omega)
          case i_pv =>
            exact hX0
  refine aw_sub [1, 2, 0] rfl ?_
  refine lp6q _ _ _  ?i_h0 ?i_hf ?i_hx (Nat.lt_succ_self _)
  case i_h0 =>
    omega
  case i_hf =>
    exact FR.rf
  case i_hx =>
    exact all_0
set_option maxHeartbeats 1000000 in
set_option maxRecDepth 100000 in
theorem ct_X7_where (tl : List CD) (M : Mem) (night : Int) (hj : JQ M) : Ct 9 mX7_where (LB ++ tl) [aR 32, aI night] M (fun r M1 => ∃ x, r = some (aI x) ∧ FX RC RF M M1 ∧ (aWhere (fgT M) night x)) := by
  refine Ct.of (own := RX7) rfl (by decide +kernel) (Nat.le_of_ble_eq_true rfl) (fun X cx rt => ?_)
  refine aw_eq (loc2 := [(0, aR 32), (1, aI night)]) ?_ rfl rfl rfl rfl
  refine aw_rngL 1 rfl (fun rl_night rh_night => ?_)
  refine aw_iload_n cx dX7_where_0 rfl 1 rfl ?_
  refine aw_callS (as := [aI night]) (stk := []) cx dX7_where_1 ml_X7_129 ms_X7_isNight (by decide) rfl rfl (Nat.le_of_ble_eq_true rfl) (ct_X7_isNight tl M _ ) (fun rr1q M_1q hp1q => ?_)
  obtain ⟨rfl, rfl⟩ := hp1q
  refine aw_top (stk := []) (fun z1q hz1q => ?_)
  refine aw_if_eq (tgt := 15) cx dX7_where_4 (by decide) (fun c4q => ?_) (fun c4q => ?_)
  · have d4q := b2_e0.mp (hz1q.symm.trans c4q)
    refine aw_bipush (n := (-2)) cx dX7_where_15 (by decide) ?_
    refine aw_iret cx rt dX7_where_17 ?_
    first | exact ⟨_, rfl, hfxM_9, hanM_9⟩ | exact ⟨_, rfl, FX.rf, Or.inl ⟨by omega, rfl⟩⟩
  · have d4q := b2_y hz1q c4q
    refine aw_aload_n cx dX7_where_7 rfl 0 rfl ?_
    refine aw_iload_n cx dX7_where_8 rfl 1 rfl ?_
    refine aw_callV (as := [aI night]) (k := 32) (stk := []) cx dX7_where_9 ml_X7_281 mv_X7_whereOf rfl (lb_32 tl) (by decide) rfl rfl (Nat.le_of_ble_eq_true rfl) (ct_X7_whereOf tl M _ (hj) (by omega)) (fun rr9q M_9q hp9q => ?_)
    obtain ⟨z9q, rfl, hfxM_9, hrdM_9, hanM_9⟩ := hp9q
    refine aw_eq (stk2 := [aI z9q]) ?_ rfl rfl rfl rfl
    refine aw_goto (tgt := 17) cx dX7_where_12 (by decide) ?_
    refine aw_iret cx rt dX7_where_17 ?_
    first | exact ⟨_, rfl, hfxM_9, hanM_9⟩ | exact ⟨_, rfl, FX.rf, Or.inl ⟨by omega, rfl⟩⟩
set_option maxHeartbeats 1000000 in
set_option maxRecDepth 100000 in
theorem ct_X7_starts (tl : List CD) (M : Mem)  (hj : JQ M) : Ct 7 mX7_starts (LB ++ tl) [aR 32] M (fun r M1 => r = none ∧ FX RC RF M M1 ∧ RD M1 ∧ NOW M M1 ∧ M1 32 30 = -1 ∧ M1 32 31 = -1) := by
  refine Ct.of (own := RX7) rfl (by decide +kernel) (Nat.le_of_ble_eq_true rfl) (fun X cx rt => ?_)
  refine aw_eq (loc2 := [(0, aR 32)]) ?_ rfl rfl rfl rfl
  refine aw_aload_n cx dX7_starts_0 rfl 0 rfl ?_
  refine aw_callV (as := []) (k := 32) (stk := []) cx dX7_starts_1 ml_X7_234 mv_X7_asTold rfl (lb_32 tl) (by decide) rfl rfl (Nat.le_of_ble_eq_true rfl) (ct_X7_asTold tl M  (hj)) (fun rr1q M_1q hp1q => ?_)
  obtain ⟨rfl, hfxM_1, hrdM_1, hnwM_1⟩ := hp1q
  refine aw_eq (stk2 := []) ?_ rfl rfl rfl rfl
  refine aw_aload_n cx dX7_starts_4 rfl 0 rfl ?_
  refine aw_iconst (n := (-1)) cx dX7_starts_5 (by decide) ?_
  refine aw_putI cx dX7_starts_6 fl_X7_284 kt_X7 rfl rfl (lb_32 tl) rfl (⟨by omega, by omega⟩) ?_
  obtain ⟨M_6q, hM_6q⟩ : ∃ qm, qm = up M_1q 32 30 (-1) := ⟨_, rfl⟩
  rw [← hM_6q]
  refine aw_aload_n cx dX7_starts_9 rfl 0 rfl ?_
  refine aw_iconst (n := (-1)) cx dX7_starts_10 (by decide) ?_
  refine aw_putI cx dX7_starts_11 fl_X7_287 kt_X7 rfl rfl (lb_32 tl) rfl (⟨by omega, by omega⟩) ?_
  obtain ⟨M_11q, hM_11q⟩ : ∃ qm, qm = up M_6q 32 31 (-1) := ⟨_, rfl⟩
  rw [← hM_11q]
  refine aw_vret cx rt dX7_starts_14 ?_
  have fx : FX [] [30, 31] M_1q M_11q := (FX.rf.put hM_6q (by decide)).put hM_11q (by decide)
  exact ⟨rfl, (hfxM_1.mono (by decide) (by decide)).tr fx (by decide) (by decide), RD_fx hrdM_1 fx (by decide), NOW_fx hnwM_1 fx (by decide), by rw [up_ne hM_11q (by omega), up_eq hM_6q], up_eq hM_11q⟩
set_option maxHeartbeats 1000000 in
set_option maxRecDepth 100000 in
theorem ct_X7_tries (tl : List CD) (M : Mem) (plan : Int) (hp : -1 ≤ plan ∧ plan ≤ 11) : Ct 4 mX7_tries (LB ++ tl) [aR 32, aI plan] M (fun r M1 => r = none ∧ FX [48, 49, 50, 51, 52, 53] [28, 30, 31] M M1 ∧ RUNS M M1 ∧ ((M 32 31 < PCN (M1 32 28) ∧ M1 32 30 = plan ∧ M1 32 31 = PCN (M1 32 28)) ∨ (PCN (M1 32 28) ≤ M 32 31 ∧ M1 32 30 = M 32 30 ∧ M1 32 31 = M 32 31))) := by
  refine Ct.of (own := RX7) rfl (by decide +kernel) (Nat.le_of_ble_eq_true rfl) (fun X cx rt => ?_)
  refine aw_eq (loc2 := [(0, aR 32), (1, aI plan)]) ?_ rfl rfl rfl rfl
  refine aw_rngL 1 rfl (fun rl_plan rh_plan => ?_)
  refine aw_aload_n cx dX7_tries_0 rfl 0 rfl ?_
  refine aw_callV (as := []) (k := 32) (stk := []) cx dX7_tries_1 ml_X7_237 mv_X7_runs rfl (lb_32 tl) (by decide) rfl rfl (Nat.le_of_ble_eq_true rfl) (ct_X7_runs tl M  ) (fun rr1q M_1q hp1q => ?_)
  obtain ⟨rfl, hfxM_1, hrnM_1⟩ := hp1q
  refine aw_eq (stk2 := []) ?_ rfl rfl rfl rfl
  refine aw_aload_n cx dX7_tries_4 rfl 0 rfl ?_
  refine aw_getI cx dX7_tries_5 fl_X7_228 (lb_32 tl) rfl (fun z5q hz5q lo_z5q hi_z5q => ?_)
  refine aw_callS (as := [aI z5q]) (stk := []) cx dX7_tries_8 ml_X7_259 ms_X7_many (by decide) rfl rfl (Nat.le_of_ble_eq_true rfl) (ct_X7_many tl M_1q _ (by omega)) (fun rr8q M_8q hp8q => ?_)
  obtain ⟨rfl, rfl⟩ := hp8q
  refine aw_top (stk := []) (fun z8q hz8q => ?_)
  have hrz8q : 0 ≤ z8q ∧ z8q ≤ 12 := by rw [hz8q]; exact PCN_in _
  have h8q := PCN_8 (x := z5q) ⟨lo_z5q, hi_z5q⟩
  have f30 := hfxM_1.fd 30 (by decide)
  have f31 := hfxM_1.fd 31 (by decide)
  refine aw_istore_n (loc2 := [(2, aI z8q), (0, aR 32), (1, aI plan)]) cx dX7_tries_11 rfl (by decide) rfl ?_
  refine aw_aload_n cx dX7_tries_12 rfl 1 rfl ?_
  refine aw_iload_n cx dX7_tries_13 rfl 0 rfl ?_
  refine aw_aload_n cx dX7_tries_14 rfl 1 rfl ?_
  refine aw_getI cx dX7_tries_15 fl_X7_287 (lb_32 tl) rfl (fun z15q hz15q lo_z15q hi_z15q => ?_)
  refine aw_icmp_le (tgt := 25) cx dX7_tries_18 (by decide) (fun c18q => ?_) (fun c18q => ?_)
  · refine aw_aload_n cx dX7_tries_25 rfl 1 rfl ?_
    refine aw_getI cx dX7_tries_26 fl_X7_284 (lb_32 tl) rfl (fun z26q hz26q lo_z26q hi_z26q => ?_)
    refine aw_putI cx dX7_tries_29 fl_X7_284 kt_X7 rfl rfl (lb_32 tl) rfl (⟨by omega, by omega⟩) ?_
    obtain ⟨M_29q, hM_29q⟩ : ∃ qm, qm = up M_1q 32 30 z26q := ⟨_, rfl⟩
    rw [← hM_29q]
    refine aw_aload_n cx dX7_tries_32 rfl 1 rfl ?_
    refine aw_iload_n cx dX7_tries_33 rfl 0 rfl ?_
    refine aw_aload_n cx dX7_tries_34 rfl 1 rfl ?_
    refine aw_getI cx dX7_tries_35 fl_X7_287 (lb_32 tl) rfl (fun z35q hz35q lo_z35q hi_z35q => ?_)
    have q35q : z35q = z15q := by rw [hz35q, hz15q, up_ne hM_29q (by omega)]
    refine aw_icmp_le (tgt := 45) cx dX7_tries_38 (by decide) (fun c38q => ?_) (fun c38q => ?_)
    · refine aw_aload_n cx dX7_tries_45 rfl 1 rfl ?_
      refine aw_getI cx dX7_tries_46 fl_X7_287 (lb_32 tl) rfl (fun z46q hz46q lo_z46q hi_z46q => ?_)
      refine aw_putI cx dX7_tries_49 fl_X7_287 kt_X7 rfl rfl (lb_32 tl) rfl (⟨by omega, by omega⟩) ?_
      obtain ⟨M_49q, hM_49q⟩ : ∃ qm, qm = up M_29q 32 31 z46q := ⟨_, rfl⟩
      rw [← hM_49q]
      refine aw_vret cx rt dX7_tries_52 ?_
      have fx : FX [] [30, 31] M_1q M_49q := (FX.rf.put hM_29q (by decide)).put hM_49q (by decide)
      refine ⟨rfl, (hfxM_1.mono (by decide) (by decide)).tr fx (by decide) (by decide), RUNS_of hrnM_1 fx (by decide), ?_⟩
      rw [fx.fd 28 (by decide), ← hz5q, up_eq hM_49q, up_ne hM_49q (by omega), up_eq hM_29q]
      first
      | exact Or.inl ⟨by omega, rfl, by omega⟩
      | (have q46q : z46q = M_1q 32 31 := by rw [hz46q, up_ne hM_29q (by omega)]
         exact Or.inr ⟨by omega, by omega, by omega⟩)
    · exfalso
      omega
  · refine aw_iload_n cx dX7_tries_21 rfl 2 rfl ?_
    refine aw_goto (tgt := 29) cx dX7_tries_22 (by decide) ?_
    refine aw_putI cx dX7_tries_29 fl_X7_284 kt_X7 rfl rfl (lb_32 tl) rfl (⟨by omega, by omega⟩) ?_
    obtain ⟨M_29q, hM_29q⟩ : ∃ qm, qm = up M_1q 32 30 plan := ⟨_, rfl⟩
    rw [← hM_29q]
    refine aw_aload_n cx dX7_tries_32 rfl 1 rfl ?_
    refine aw_iload_n cx dX7_tries_33 rfl 0 rfl ?_
    refine aw_aload_n cx dX7_tries_34 rfl 1 rfl ?_
    refine aw_getI cx dX7_tries_35 fl_X7_287 (lb_32 tl) rfl (fun z35q hz35q lo_z35q hi_z35q => ?_)
    have q35q : z35q = z15q := by rw [hz35q, hz15q, up_ne hM_29q (by omega)]
    refine aw_icmp_le (tgt := 45) cx dX7_tries_38 (by decide) (fun c38q => ?_) (fun c38q => ?_)
    · exfalso
      omega
    · refine aw_iload_n cx dX7_tries_41 rfl 0 rfl ?_
      refine aw_goto (tgt := 49) cx dX7_tries_42 (by decide) ?_
      refine aw_putI cx dX7_tries_49 fl_X7_287 kt_X7 rfl rfl (lb_32 tl) rfl (⟨by omega, by omega⟩) ?_
      obtain ⟨M_49q, hM_49q⟩ : ∃ qm, qm = up M_29q 32 31 z8q := ⟨_, rfl⟩
      rw [← hM_49q]
      refine aw_vret cx rt dX7_tries_52 ?_
      have fx : FX [] [30, 31] M_1q M_49q := (FX.rf.put hM_29q (by decide)).put hM_49q (by decide)
      refine ⟨rfl, (hfxM_1.mono (by decide) (by decide)).tr fx (by decide) (by decide), RUNS_of hrnM_1 fx (by decide), ?_⟩
      rw [fx.fd 28 (by decide), ← hz5q, up_eq hM_49q, up_ne hM_49q (by omega), up_eq hM_29q]
      first
      | exact Or.inl ⟨by omega, rfl, by omega⟩
      | (have q46q : z46q = M_1q 32 31 := by rw [hz46q, up_ne hM_29q (by omega)]
         exact Or.inr ⟨by omega, by omega, by omega⟩)
