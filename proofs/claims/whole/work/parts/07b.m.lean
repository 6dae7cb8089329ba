set_option maxHeartbeats 1000000 in
set_option maxRecDepth 100000 in
theorem ct_X6_sum (tl : List CD) (M : Mem) (what : Int) : Ct 5 mX6_sum (LB ++ tl) [aR 0, aI what] M (fun r M1 => ∃ x, r = some (aI x) ∧ FR SC M M1 ∧ aSum (fgT M) (qgT M) what x) := by
  refine Ct.of (own := RX6) rfl (by decide +kernel) (Nat.le_of_ble_eq_true rfl) (fun X cx rt => ?_)
  refine aw_eq (loc2 := [(0, aR 0), (1, aI what)]) ?_ rfl rfl rfl rfl
  refine aw_rngL 1 rfl (fun rl_what rh_what => ?_)
  refine aw_ok (fun om => ?_)
  have hsz : 0 ≤ M 5 4 ∧ M 5 4 ≤ 12 := okF om (lb_5 tl) (j := 4) rfl (show (0 : Nat) ≠ 1 by decide)
  have hse : 0 ≤ M 18 3 ∧ M 18 3 ≤ 8 := okF om (lb_18 tl) (j := 3) rfl (show (0 : Nat) ≠ 1 by decide)
  have hNN : ∀ j, 0 ≤ M 6 j := fun j => (okA om (lb_6 tl) j).1
  have hal := all_bits hse
  refine aw_iload_n cx dX6_sum_0 rfl 1 rfl ?_
  refine aw_iconst (n := 4) cx dX6_sum_1 (by decide) ?_
  refine aw_callS (as := [aI what, aI 4]) (stk := []) cx dX6_sum_2 ml_X6_84 ms_X6_outside (by decide) rfl rfl (Nat.le_of_ble_eq_true rfl) (ct_X6_outside tl M _ _ ) (fun rr2q M_2q hp2q => ?_)
  obtain ⟨rfl, rfl⟩ := hp2q
  refine aw_top (stk := []) (fun z2q hz2q => ?_)
  refine aw_if_eq (tgt := 11) cx dX6_sum_5 (by decide) (fun c5q => ?_) (fun c5q => ?_)
  · have d5q := b2_e0.mp (hz2q.symm.trans c5q)
    refine aw_aload_n cx dX6_sum_11 rfl 0 rfl ?_
    refine aw_aload_n cx dX6_sum_12 rfl 0 rfl ?_
    refine aw_getR (q := 5) cx dX6_sum_13 fl_X6_24 (lb_0 tl) rfl rfl ?_
    refine aw_aload_n cx dX6_sum_16 rfl 0 rfl ?_
    refine aw_getR (q := 18) cx dX6_sum_17 fl_X6_41 (lb_0 tl) rfl rfl ?_
    refine aw_callV (as := []) (k := 18) (stk := [aR 5, aR 0]) cx dX6_sum_20 ml_X6_175 mv_X2_all rfl (lb_18 tl) (by decide) rfl rfl (Nat.le_of_ble_eq_true rfl) (ct_X2_all tl M  ) (fun rr20q M_20q hp20q => ?_)
    obtain ⟨rfl, rfl⟩ := hp20q
    refine aw_top (stk := [aR 5, aR 0]) (fun z20q hz20q => ?_)
    refine aw_callV (as := [aR 5, aI z20q]) (k := 0) (stk := []) cx dX6_sum_23 ml_X6_178 mv_X6_clearedBits rfl (lb_0 tl) (by decide) rfl rfl (Nat.le_of_ble_eq_true rfl) (ct_X6_clearedBits tl M 5 _ (Or.inl rfl) (by omega)) (fun rr23q M_23q hp23q => ?_)
    obtain ⟨z23q, rfl, hfrM_23, hcbM_23, hxrM_23, hctM_23, hrnM_23, hkkM_23, htlM_23⟩ := hp23q
    refine aw_eq (stk2 := [aI z23q]) ?_ rfl rfl rfl rfl
    rw [hz20q] at hcbM_23 hctM_23 hrnM_23 hkkM_23
    have hrt := RUN_eq (fgH_all hse) hrnM_23
    have hkt : ∀ e, e < (M 18 3).toNat → M_23q 26 e = M 19 e := fun e he => by have := hkkM_23 e he; unfold KEF at this; rw [if_pos ((hal.2.2 e).mpr he)] at this; exact this
    rw [fCB_told (x := 0) hse hNN hrnM_23] at hcbM_23
    refine aw_istore_n (loc2 := [(2, aI z23q), (0, aR 0), (1, aI what)]) cx dX6_sum_26 rfl (by decide) rfl ?_
    refine aw_iload_n cx dX6_sum_27 rfl 2 rfl ?_
    by_cases c28_0q : what = 0
    · refine aw_tabIn (off := 28) (tgt := 56) cx dX6_sum_28 (by omega) (by omega) (by rw [c28_0q]; rfl) (by decide) ?_
      refine aw_iload_n cx dX6_sum_56 rfl 0 rfl ?_
      refine aw_callS (as := [aI z23q]) (stk := []) cx dX6_sum_57 ml_X6_182 ms_J6_bitCount_0f7a4 (by decide) rfl rfl (Nat.le_of_ble_eq_true rfl) (ct_J6_bitCount_0f7a4 tl M_23q _ (by omega)) (fun rr57q M_57q hp57q => ?_)
      obtain ⟨rfl, rfl⟩ := hp57q
      refine aw_top (stk := []) (fun z57q hz57q => ?_)
      have hrz57q : 0 ≤ z57q ∧ z57q ≤ 12 := by rw [hz57q]; exact PCN_in _
      refine aw_iret cx rt dX6_sum_60 ?_
      exact ⟨z57q, rfl, hfrM_23.sc, Or.inr (Or.inl ⟨by omega, by rw [hz57q, hcbM_23]⟩)⟩
    by_cases c28_1q : what = 1
    · refine aw_tabIn (off := 33) (tgt := 61) cx dX6_sum_28 (by omega) (by omega) (by rw [c28_1q]; rfl) (by decide) ?_
      refine aw_aload_n cx dX6_sum_61 rfl 1 rfl ?_
      refine aw_getR (q := 22) cx dX6_sum_62 fl_X6_50 (lb_0 tl) rfl rfl ?_
      refine aw_getI cx dX6_sum_65 fl_X6_187 (lb_22 tl) rfl (fun z65q hz65q lo_z65q hi_z65q => ?_)
      refine aw_iret cx rt dX6_sum_68 ?_
      refine ⟨z65q, rfl, hfrM_23.sc, Or.inr (Or.inr (Or.inl ⟨by omega, ?_⟩))⟩
      rw [hz65q, hctM_23]
      show sm _ (M 5 4).toNat = sm _ (M 5 4).toNat
      exact sm_c (fun i hi => by rw [← (fX_eq (F := fgH M 5 (bShl 1 (M 18 3) - 1)) (F' := fgH M 5 (bShl 1 (M 18 3) - 1)) FGe.rf hNN hrnM_23).1 i hi, (fX_eq (F := fgT M) (F' := fgT M) FGe.rf hNN hrt).1 i hi])
    by_cases c28_2q : what = 2
    · refine aw_tabIn (off := 41) (tgt := 69) cx dX6_sum_28 (by omega) (by omega) (by rw [c28_2q]; rfl) (by decide) ?_
      refine aw_aload_n cx dX6_sum_69 rfl 1 rfl ?_
      refine aw_getR (q := 22) cx dX6_sum_70 fl_X6_50 (lb_0 tl) rfl rfl ?_
      refine aw_iconst (n := 1) cx dX6_sum_73 (by decide) ?_
      refine aw_callV (as := [aI 1]) (k := 22) (stk := []) cx dX6_sum_74 ml_X6_190 mv_X0_menOfRank rfl (lb_22 tl) (by decide) rfl rfl (Nat.le_of_ble_eq_true rfl) (ct_X0_menOfRank tl M_23q 5 _ (Or.inl rfl) (htlM_23)) (fun rr74q M_74q hp74q => ?_)
      obtain ⟨rfl, rfl⟩ := hp74q
      refine aw_top (stk := []) (fun z74q hz74q => ?_)
      refine aw_iret cx rt dX6_sum_77 ?_
      refine ⟨z74q, rfl, hfrM_23.sc, Or.inr (Or.inr (Or.inr (Or.inl ⟨by omega, ?_⟩)))⟩
      rw [hz74q]; exact sm_c (fun t ht => by rw [show STD _ _ _ _ _ _ _ _ _ 23 (t : Int) = fSTD (-1) (fgT M) 23 t from told_std hfrM_23 hrt hkt hNN ht])
    refine aw_tabOut (tgt := 78) cx dX6_sum_28 (by omega) (by decide) ?_
    refine aw_aload_n cx dX6_sum_78 rfl 1 rfl ?_
    refine aw_getR (q := 22) cx dX6_sum_79 fl_X6_50 (lb_0 tl) rfl rfl ?_
    refine aw_iconst (n := 3) cx dX6_sum_82 (by decide) ?_
    refine aw_callV (as := [aI 3]) (k := 22) (stk := []) cx dX6_sum_83 ml_X6_190 mv_X0_menOfRank rfl (lb_22 tl) (by decide) rfl rfl (Nat.le_of_ble_eq_true rfl) (ct_X0_menOfRank tl M_23q 5 _ (Or.inl rfl) (htlM_23)) (fun rr83q M_83q hp83q => ?_)
    obtain ⟨rfl, rfl⟩ := hp83q
    refine aw_top (stk := []) (fun z83q hz83q => ?_)
    refine aw_iret cx rt dX6_sum_86 ?_
    refine ⟨z83q, rfl, hfrM_23.sc, Or.inr (Or.inr (Or.inr (Or.inr ⟨by omega, ?_⟩)))⟩
    rw [hz83q]; exact sm_c (fun t ht => by rw [show STD _ _ _ _ _ _ _ _ _ 23 (t : Int) = fSTD (-1) (fgT M) 23 t from told_std hfrM_23 hrt hkt hNN ht])
  · have d5q := b2_y hz2q c5q
    refine aw_bipush (n := (-2)) cx dX6_sum_8 (by decide) ?_
    refine aw_iret cx rt dX6_sum_10 ?_
    exact ⟨-2, rfl, FR.rf, Or.inl ⟨by omega, rfl⟩⟩
set_option maxHeartbeats 1000000 in
set_option maxRecDepth 100000 in
theorem ct_X6_liar (tl : List CD) (M : Mem)  : Ct 5 mX6_liar (LB ++ tl) [aR 0] M (fun r M1 => ∃ x, r = some (aI x) ∧ FR SC M M1 ∧ aLiar (fgT M) x) := by
  refine Ct.of (own := RX6) rfl (by decide +kernel) (Nat.le_of_ble_eq_true rfl) (fun X cx rt => ?_)
  refine aw_eq (loc2 := [(0, aR 0)]) ?_ rfl rfl rfl rfl
  refine aw_ok (fun om => ?_)
  have hsz : 0 ≤ M 5 4 ∧ M 5 4 ≤ 12 := okF om (lb_5 tl) (j := 4) rfl (show (0 : Nat) ≠ 1 by decide)
  have hNN : ∀ j, 0 ≤ M 6 j := fun j => (okA om (lb_6 tl) j).1
  refine aw_aload_n cx dX6_liar_0 rfl 0 rfl ?_
  refine aw_callV (as := []) (k := 0) (stk := []) cx dX6_liar_1 ml_X6_143 mv_X6_hearAsTold rfl (lb_0 tl) (by decide) rfl rfl (Nat.le_of_ble_eq_true rfl) (ct_X6_hearAsTold tl M  ) (fun rr1q M_1q hp1q => ?_)
  obtain ⟨rfl, hfrM_1, hrnM_1, hkkM_1, htlM_1, hctM_1⟩ := hp1q
  refine aw_eq (stk2 := []) ?_ rfl rfl rfl rfl
  have hF := fX_eq (F := fgT M) (F' := fgT M) FGe.rf hNN hrnM_1
  have e5q := congrFun (hfrM_1 5 (by decide)) 4
  have e15q := congrFun (hfrM_1 15 (by decide)) 2
  have e12q := congrFun (hfrM_1 0 (by decide)) 12
  refine aw_iconst (n := (-1)) cx dX6_liar_4 (by decide) ?_
  refine aw_istore_n (loc2 := [(1, aI ((-1))), (0, aR 0)]) cx dX6_liar_5 rfl (by decide) rfl ?_
  refine aw_iconst (n := 0) cx dX6_liar_6 (by decide) ?_
  refine aw_istore_n (loc2 := [(2, aI 0), (1, aI ((-1))), (0, aR 0)]) cx dX6_liar_7 rfl (by decide) rfl ?_
  refine aw_iconst (n := 0) cx dX6_liar_8 (by decide) ?_
  refine aw_istore_n (loc2 := [(3, aI 0), (2, aI 0), (1, aI ((-1))), (0, aR 0)]) cx dX6_liar_9 rfl (by decide) rfl ?_
  have lp10q : ∀ (fu : Nat) (x1q : Int) (x2q : Int) (x3q : Int), (0 ≤ x3q ∧ x3q ≤ 10) → (AMX (fun w => FAL (-1) (M 5 4).toNat (fC (-1) (fgT M)) (M 8) (w : Int)) 0 x3q.toNat x1q x2q) → ((10 - x3q).toNat) < fu → AW X (LB ++ tl) 5 10 [(0, aR 0), (1, aI x1q), (2, aI x2q), (3, aI x3q)] [] M_1q := by
    intro fu
    induction fu with
    | zero =>
      intro x1q x2q x3q h0q hs hm
      exact absurd hm (Nat.not_lt_zero _)
    | succ fu ih10q =>
      intro x1q x2q x3q h0q hs hm
      refine aw_iload_n cx dX6_liar_10 rfl 3 rfl ?_
      refine aw_bipush (n := 10) cx dX6_liar_11 (by decide) ?_
      refine aw_icmp_ge (tgt := 43) cx dX6_liar_13 (by decide) (fun c13q => ?_) (fun c13q => ?_)
      · refine aw_iload_n cx dX6_liar_43 rfl 1 rfl ?_
        refine aw_iret cx rt dX6_liar_44 ?_
        exact ⟨x1q, rfl, hfrM_1.sc, x2q, by rw [show x3q = 10 by omega] at hs; exact hs⟩
      · refine aw_aload_n cx dX6_liar_16 rfl 0 rfl ?_
        refine aw_getR (q := 22) cx dX6_liar_17 fl_X6_50 (lb_0 tl) rfl rfl ?_
        refine aw_iload_n cx dX6_liar_20 rfl 3 rfl ?_
        refine aw_callV (as := [aI x3q]) (k := 22) (stk := []) cx dX6_liar_21 ml_X6_193 mv_X0_fallenOf rfl (lb_22 tl) (by decide) rfl rfl (Nat.le_of_ble_eq_true rfl) (ct_X0_fallenOf tl M_1q 5 _ (Or.inl rfl) (htlM_1)) (fun rr21q M_21q hp21q => ?_)
        obtain ⟨rfl, rfl⟩ := hp21q
        refine aw_top (stk := []) (fun z21q hz21q => ?_)
        have hs21 : z21q = FAL (-1) (M 5 4).toNat (fC (-1) (fgT M)) (M 8) ((x3q.toNat : Nat) : Int) := by rw [hz21q]; show _ = FAL (-1) (M 5 4).toNat (fC (-1) (fgT M)) (M 8) ((x3q.toNat : Nat) : Int); rw [show ((x3q.toNat : Nat) : Int) = x3q by omega]; exact told_fal hfrM_1 hrnM_1 hNN
        refine aw_istore (loc2 := [(4, aI z21q), (0, aR 0), (1, aI x1q), (2, aI x2q), (3, aI x3q)]) cx dX6_liar_24 (by decide) rfl ?_
        refine aw_iload cx dX6_liar_26 0 rfl ?_
        refine aw_iload_n cx dX6_liar_28 rfl 3 rfl ?_
        refine aw_icmp_le (tgt := 37) cx dX6_liar_29 (by decide) (fun c29q => ?_) (fun c29q => ?_)
        · refine aw_iinc cx dX6_liar_37 4 rfl (by decide) (by omega) (fun z37q hz37q => ?_)
          refine aw_loc (loc2 := [(3, aI z37q), (4, aI z21q), (0, aR 0), (1, aI x1q), (2, aI x2q)]) rfl ?_
          refine aw_goto (tgt := 10) cx dX6_liar_40 (by decide) ?_
          refine aw_sub [2, 3, 4, 0] rfl ?_
          refine ih10q _ _ _  ?i_h0 ?i_hs ?i_m
          case i_h0 =>
            omega
          case i_hs =>
            rw [hz37q]; exact AMX_no h0q.1 hs (by rw [← hs21]; omega)
          case i_m =>
            omega
        · refine aw_iload_n cx dX6_liar_32 rfl 4 rfl ?_
          refine aw_istore_n (loc2 := [(1, aI x3q), (4, aI z21q), (0, aR 0), (2, aI x2q), (3, aI x3q)]) cx dX6_liar_33 rfl (by decide) rfl ?_
          refine aw_iload cx dX6_liar_34 1 rfl ?_
          refine aw_istore_n (loc2 := [(2, aI z21q), (1, aI x3q), (4, aI z21q), (0, aR 0), (3, aI x3q)]) cx dX6_liar_36 rfl (by decide) rfl ?_
          refine aw_iinc cx dX6_liar_37 4 rfl (by decide) (by omega) (fun z37q hz37q => ?_)
          refine aw_loc (loc2 := [(3, aI z37q), (2, aI z21q), (1, aI x3q), (4, aI z21q), (0, aR 0)]) rfl ?_
          refine aw_goto (tgt := 10) cx dX6_liar_40 (by decide) ?_
          refine aw_sub [4, 2, 1, 0] rfl ?_
          refine ih10q _ _ _  ?i_h0 ?i_hs ?i_m
          case i_h0 =>
            omega
          case i_hs =>
            rw [hz37q, hs21]; exact AMX_up h0q.1 hs (by rw [← hs21]; omega)
          case i_m =>
            omega
  refine aw_sub [3, 2, 1, 0] rfl ?_
  refine lp10q _ _ _ _  ?i_h0 ?i_hs (Nat.lt_succ_self _)
  case i_h0 =>
    omega
  case i_hs =>
    exact AMX_0 _ _
set_option maxHeartbeats 1000000 in
set_option maxRecDepth 100000 in
theorem ct_X6_best (tl : List CD) (M : Mem)  : Ct 5 mX6_best (LB ++ tl) [aR 0] M (fun r M1 => ∃ x, r = some (aI x) ∧ FR SC M M1 ∧ aBest (fgT M) x) := by
  refine Ct.of (own := RX6) rfl (by decide +kernel) (Nat.le_of_ble_eq_true rfl) (fun X cx rt => ?_)
  refine aw_eq (loc2 := [(0, aR 0)]) ?_ rfl rfl rfl rfl
  refine aw_ok (fun om => ?_)
  have hsz : 0 ≤ M 5 4 ∧ M 5 4 ≤ 12 := okF om (lb_5 tl) (j := 4) rfl (show (0 : Nat) ≠ 1 by decide)
  have hNN : ∀ j, 0 ≤ M 6 j := fun j => (okA om (lb_6 tl) j).1
  refine aw_aload_n cx dX6_best_0 rfl 0 rfl ?_
  refine aw_callV (as := []) (k := 0) (stk := []) cx dX6_best_1 ml_X6_143 mv_X6_hearAsTold rfl (lb_0 tl) (by decide) rfl rfl (Nat.le_of_ble_eq_true rfl) (ct_X6_hearAsTold tl M  ) (fun rr1q M_1q hp1q => ?_)
  obtain ⟨rfl, hfrM_1, hrnM_1, hkkM_1, htlM_1, hctM_1⟩ := hp1q
  refine aw_eq (stk2 := []) ?_ rfl rfl rfl rfl
  have hF := fX_eq (F := fgT M) (F' := fgT M) FGe.rf hNN hrnM_1
  have e5q := congrFun (hfrM_1 5 (by decide)) 4
  have e15q := congrFun (hfrM_1 15 (by decide)) 2
  have e12q := congrFun (hfrM_1 0 (by decide)) 12
  refine aw_iconst (n := (-1)) cx dX6_best_4 (by decide) ?_
  refine aw_istore_n (loc2 := [(1, aI ((-1))), (0, aR 0)]) cx dX6_best_5 rfl (by decide) rfl ?_
  refine aw_iconst (n := (-1)) cx dX6_best_6 (by decide) ?_
  refine aw_istore_n (loc2 := [(2, aI ((-1))), (1, aI ((-1))), (0, aR 0)]) cx dX6_best_7 rfl (by decide) rfl ?_
  refine aw_iconst (n := 0) cx dX6_best_8 (by decide) ?_
  refine aw_istore_n (loc2 := [(3, aI 0), (2, aI ((-1))), (1, aI ((-1))), (0, aR 0)]) cx dX6_best_9 rfl (by decide) rfl ?_
  have lp10q : ∀ (fu : Nat) (x1q : Int) (x2q : Int) (x3q : Int), (0 ≤ x3q ∧ x3q ≤ 8) → (AMX (fSTD (-1) (fgT M) 23) (-1) x3q.toNat x1q x2q) → ((8 - x3q).toNat) < fu → AW X (LB ++ tl) 5 10 [(0, aR 0), (1, aI x1q), (2, aI x2q), (3, aI x3q)] [] M_1q := by
    intro fu
    induction fu with
    | zero =>
      intro x1q x2q x3q h0q hs hm
      exact absurd hm (Nat.not_lt_zero _)
    | succ fu ih10q =>
      intro x1q x2q x3q h0q hs hm
      refine aw_iload_n cx dX6_best_10 rfl 3 rfl ?_
      refine aw_bipush (n := 8) cx dX6_best_11 (by decide) ?_
      refine aw_icmp_ge (tgt := 45) cx dX6_best_13 (by decide) (fun c13q => ?_) (fun c13q => ?_)
      · refine aw_iload_n cx dX6_best_45 rfl 1 rfl ?_
        refine aw_iret cx rt dX6_best_46 ?_
        exact ⟨x1q, rfl, hfrM_1.sc, x2q, by rw [show x3q = 8 by omega] at hs; exact hs⟩
      · refine aw_aload_n cx dX6_best_16 rfl 0 rfl ?_
        refine aw_getR (q := 22) cx dX6_best_17 fl_X6_50 (lb_0 tl) rfl rfl ?_
        refine aw_bipush (n := 23) cx dX6_best_20 (by decide) ?_
        refine aw_iload_n cx dX6_best_22 rfl 3 rfl ?_
        refine aw_callV (as := [aI 23, aI x3q]) (k := 22) (stk := []) cx dX6_best_23 ml_X6_156 mv_X0_standing rfl (lb_22 tl) (by decide) rfl rfl (Nat.le_of_ble_eq_true rfl) (ct_X0_standing tl M_1q 5 _ _ (Or.inl rfl) (htlM_1) (by omega) (by omega)) (fun rr23q M_23q hp23q => ?_)
        obtain ⟨rfl, rfl⟩ := hp23q
        refine aw_top (stk := []) (fun z23q hz23q => ?_)
        have hs23 : z23q = fSTD (-1) (fgT M) 23 x3q.toNat := by rw [hz23q]; exact told_stdI hfrM_1 hrnM_1 hkkM_1 hNN (by omega)
        refine aw_istore (loc2 := [(4, aI z23q), (0, aR 0), (1, aI x1q), (2, aI x2q), (3, aI x3q)]) cx dX6_best_26 (by decide) rfl ?_
        refine aw_iload cx dX6_best_28 0 rfl ?_
        refine aw_iload_n cx dX6_best_30 rfl 3 rfl ?_
        refine aw_icmp_le (tgt := 39) cx dX6_best_31 (by decide) (fun c31q => ?_) (fun c31q => ?_)
        · refine aw_iinc cx dX6_best_39 4 rfl (by decide) (by omega) (fun z39q hz39q => ?_)
          refine aw_loc (loc2 := [(3, aI z39q), (4, aI z23q), (0, aR 0), (1, aI x1q), (2, aI x2q)]) rfl ?_
          refine aw_goto (tgt := 10) cx dX6_best_42 (by decide) ?_
          refine aw_sub [2, 3, 4, 0] rfl ?_
          refine ih10q _ _ _  ?i_h0 ?i_hs ?i_m
          case i_h0 =>
            omega
          case i_hs =>
            rw [hz39q]; exact AMX_no h0q.1 hs (by rw [← hs23]; omega)
          case i_m =>
            omega
        · refine aw_iload_n cx dX6_best_34 rfl 4 rfl ?_
          refine aw_istore_n (loc2 := [(1, aI x3q), (4, aI z23q), (0, aR 0), (2, aI x2q), (3, aI x3q)]) cx dX6_best_35 rfl (by decide) rfl ?_
          refine aw_iload cx dX6_best_36 1 rfl ?_
          refine aw_istore_n (loc2 := [(2, aI z23q), (1, aI x3q), (4, aI z23q), (0, aR 0), (3, aI x3q)]) cx dX6_best_38 rfl (by decide) rfl ?_
          refine aw_iinc cx dX6_best_39 4 rfl (by decide) (by omega) (fun z39q hz39q => ?_)
          refine aw_loc (loc2 := [(3, aI z39q), (2, aI z23q), (1, aI x3q), (4, aI z23q), (0, aR 0)]) rfl ?_
          refine aw_goto (tgt := 10) cx dX6_best_42 (by decide) ?_
          refine aw_sub [4, 2, 1, 0] rfl ?_
          refine ih10q _ _ _  ?i_h0 ?i_hs ?i_m
          case i_h0 =>
            omega
          case i_hs =>
            rw [hz39q, hs23]; exact AMX_up h0q.1 hs (by rw [← hs23]; omega)
          case i_m =>
            omega
  refine aw_sub [3, 2, 1, 0] rfl ?_
  refine lp10q _ _ _ _  ?i_h0 ?i_hs (Nat.lt_succ_self _)
  case i_h0 =>
    omega
  case i_hs =>
    exact AMX_0 _ _
set_option maxHeartbeats 1000000 in
set_option maxRecDepth 100000 in
theorem ct_X6_where (tl : List CD) (M : Mem) (night : Int) : Ct 5 mX6_where (LB ++ tl) [aR 0, aI night] M (fun r M1 => ∃ x, r = some (aI x) ∧ FR SC M M1 ∧ aWhere (fgT M) night x) := by
  refine Ct.of (own := RX6) rfl (by decide +kernel) (Nat.le_of_ble_eq_true rfl) (fun X cx rt => ?_)
  refine aw_eq (loc2 := [(0, aR 0), (1, aI night)]) ?_ rfl rfl rfl rfl
  refine aw_rngL 1 rfl (fun rl_night rh_night => ?_)
  refine aw_ok (fun om => ?_)
  have hsz : 0 ≤ M 5 4 ∧ M 5 4 ≤ 12 := okF om (lb_5 tl) (j := 4) rfl (show (0 : Nat) ≠ 1 by decide)
  have hNN : ∀ j, 0 ≤ M 6 j := fun j => (okA om (lb_6 tl) j).1
  refine aw_iload_n cx dX6_where_0 rfl 1 rfl ?_
  refine aw_bipush (n := 24) cx dX6_where_1 (by decide) ?_
  refine aw_callS (as := [aI night, aI 24]) (stk := []) cx dX6_where_3 ml_X6_84 ms_X6_outside (by decide) rfl rfl (Nat.le_of_ble_eq_true rfl) (ct_X6_outside tl M _ _ ) (fun rr3q M_3q hp3q => ?_)
  obtain ⟨rfl, rfl⟩ := hp3q
  refine aw_top (stk := []) (fun z3q hz3q => ?_)
  refine aw_if_eq (tgt := 12) cx dX6_where_6 (by decide) (fun c6q => ?_) (fun c6q => ?_)
  · have d6q := b2_e0.mp (hz3q.symm.trans c6q)
    refine aw_aload_n cx dX6_where_12 rfl 0 rfl ?_
    refine aw_callV (as := []) (k := 0) (stk := []) cx dX6_where_13 ml_X6_143 mv_X6_hearAsTold rfl (lb_0 tl) (by decide) rfl rfl (Nat.le_of_ble_eq_true rfl) (ct_X6_hearAsTold tl M  ) (fun rr13q M_13q hp13q => ?_)
    obtain ⟨rfl, hfrM_13, hrnM_13, hkkM_13, htlM_13, hctM_13⟩ := hp13q
    refine aw_eq (stk2 := []) ?_ rfl rfl rfl rfl
    have hF := fX_eq (F := fgT M) (F' := fgT M) FGe.rf hNN hrnM_13
    have e5q := congrFun (hfrM_13 5 (by decide)) 4
    have e15q := congrFun (hfrM_13 15 (by decide)) 2
    have e12q := congrFun (hfrM_13 0 (by decide)) 12
    refine aw_aload_n cx dX6_where_16 rfl 0 rfl ?_
    refine aw_getR (q := 22) cx dX6_where_17 fl_X6_50 (lb_0 tl) rfl rfl ?_
    refine aw_iconst (n := 0) cx dX6_where_20 (by decide) ?_
    refine aw_callV (as := [aI 0]) (k := 22) (stk := []) cx dX6_where_21 ml_X6_196 mv_X0_swornTowns rfl (lb_22 tl) (by decide) rfl rfl (Nat.le_of_ble_eq_true rfl) (ct_X0_swornTowns tl M_13q 5 _ (Or.inl rfl) (htlM_13)) (fun rr21q M_21q hp21q => ?_)
    obtain ⟨rfl, rfl⟩ := hp21q
    refine aw_top (stk := []) (fun z21q hz21q => ?_)
    have hs21 : z21q = fSW (fgT M) 0 := by rw [hz21q]; exact told_sw hfrM_13 hrnM_13 hNN
    refine aw_istore_n (loc2 := [(2, aI z21q), (0, aR 0), (1, aI night)]) cx dX6_where_24 rfl (by decide) rfl ?_
    refine aw_iconst (n := 1) cx dX6_where_25 (by decide) ?_
    refine aw_istore_n (loc2 := [(3, aI 1), (2, aI z21q), (0, aR 0), (1, aI night)]) cx dX6_where_26 rfl (by decide) rfl ?_
    have lp27q : ∀ (fu : Nat) (x2q : Int) (x3q : Int), (1 ≤ x3q ∧ x3q ≤ night + 1) → (x2q = FWD (fSW (fgT M)) (x3q - 1).toNat) → ((night + 1 - x3q).toNat) < fu → AW X (LB ++ tl) 5 27 [(0, aR 0), (1, aI night), (2, aI x2q), (3, aI x3q)] [] M_13q := by
      intro fu
      induction fu with
      | zero =>
        intro x2q x3q h0q hs hm
        exact absurd hm (Nat.not_lt_zero _)
      | succ fu ih27q =>
        intro x2q x3q h0q hs hm
        refine aw_iload_n cx dX6_where_27 rfl 3 rfl ?_
        refine aw_iload_n cx dX6_where_28 rfl 1 rfl ?_
        refine aw_icmp_gt (tgt := 52) cx dX6_where_29 (by decide) (fun c29q => ?_) (fun c29q => ?_)
        · rw [show (x3q - 1).toNat = night.toNat by omega] at hs
          refine aw_aload_n cx dX6_where_52 rfl 0 rfl ?_
          refine aw_getR (q := 22) cx dX6_where_53 fl_X6_50 (lb_0 tl) rfl rfl ?_
          refine aw_bipush (n := 23) cx dX6_where_56 (by decide) ?_
          refine aw_callV (as := [aI 23]) (k := 22) (stk := []) cx dX6_where_58 ml_X6_196 mv_X0_swornTowns rfl (lb_22 tl) (by decide) rfl rfl (Nat.le_of_ble_eq_true rfl) (ct_X0_swornTowns tl M_13q 5 _ (Or.inl rfl) (htlM_13)) (fun rr58q M_58q hp58q => ?_)
          obtain ⟨rfl, rfl⟩ := hp58q
          refine aw_top (stk := []) (fun z58q hz58q => ?_)
          have hs58 : z58q = fSW (fgT M) 23 := by rw [hz58q]; exact told_sw hfrM_13 hrnM_13 hNN
          refine aw_istore_n (loc2 := [(3, aI z58q), (0, aR 0), (1, aI night), (2, aI x2q)]) cx dX6_where_61 rfl (by decide) rfl ?_
          refine aw_bipush (n := 22) cx dX6_where_62 (by decide) ?_
          refine aw_istore (loc2 := [(4, aI 22), (3, aI z58q), (0, aR 0), (1, aI night), (2, aI x2q)]) cx dX6_where_64 (by decide) rfl ?_
          have lp66q : ∀ (fu : Nat) (x3q : Int) (x4q : Int), (night - 1 ≤ x4q ∧ x4q ≤ 22) → (x3q = BWD (fSW (fgT M)) (22 - x4q).toNat) → ((x4q - night + 1).toNat) < fu → AW X (LB ++ tl) 5 66 [(0, aR 0), (1, aI night), (2, aI x2q), (3, aI x3q), (4, aI x4q)] [] M_13q := by
            intro fu
            induction fu with
            | zero =>
              intro x3q x4q h1q hb hm
              exact absurd hm (Nat.not_lt_zero _)
            | succ fu ih66q =>
              intro x3q x4q h1q hb hm
              refine aw_iload cx dX6_where_66 4 rfl ?_
              refine aw_iload_n cx dX6_where_68 rfl 1 rfl ?_
              refine aw_icmp_lt (tgt := 93) cx dX6_where_69 (by decide) (fun c69q => ?_) (fun c69q => ?_)
              · refine aw_iload_n cx dX6_where_93 rfl 2 rfl ?_
                refine aw_iload_n cx dX6_where_94 rfl 3 rfl ?_
                refine aw_iand cx dX6_where_95 (fun z95q hz95q => ?_)
                refine aw_iret cx rt dX6_where_96 ?_
                exact ⟨z95q, rfl, hfrM_13.sc, Or.inr ⟨by omega, by omega, by rw [hz95q, hs, hb, show 22 - x4q = 23 - night by omega]⟩⟩
              · refine aw_iload_n cx dX6_where_72 rfl 3 rfl ?_
                refine aw_callS (as := [aI x3q]) (stk := []) cx dX6_where_73 ml_X6_199 ms_X6_reach (by decide) rfl rfl (Nat.le_of_ble_eq_true rfl) (ct_X6_reach tl M_13q _ ) (fun rr73q M_73q hp73q => ?_)
                obtain ⟨rfl, rfl⟩ := hp73q
                refine aw_top (stk := []) (fun z73q hz73q => ?_)
                refine aw_aload_n cx dX6_where_76 rfl 0 rfl ?_
                refine aw_getR (q := 22) cx dX6_where_77 fl_X6_50 (lb_0 tl) rfl rfl ?_
                refine aw_iload cx dX6_where_80 4 rfl ?_
                refine aw_callV (as := [aI x4q]) (k := 22) (stk := [aI z73q]) cx dX6_where_82 ml_X6_196 mv_X0_swornTowns rfl (lb_22 tl) (by decide) rfl rfl (Nat.le_of_ble_eq_true rfl) (ct_X0_swornTowns tl M_13q 5 _ (Or.inl rfl) (htlM_13)) (fun rr82q M_82q hp82q => ?_)
                obtain ⟨rfl, rfl⟩ := hp82q
                refine aw_top (stk := [aI z73q]) (fun z82q hz82q => ?_)
                have hs82 : z82q = fSW (fgT M) x4q.toNat := by have q := told_sw (t := x4q.toNat) hfrM_13 hrnM_13 hNN; rw [show ((x4q.toNat : Nat) : Int) = x4q by omega] at q; rw [hz82q]; exact q
                refine aw_iand cx dX6_where_85 (fun z85q hz85q => ?_)
                refine aw_istore_n (loc2 := [(3, aI z85q), (0, aR 0), (1, aI night), (2, aI x2q), (4, aI x4q)]) cx dX6_where_86 rfl (by decide) rfl ?_
                refine aw_iinc cx dX6_where_87 4 rfl (by decide) (by omega) (fun z87q hz87q => ?_)
                refine aw_loc (loc2 := [(4, aI z87q), (3, aI z85q), (0, aR 0), (1, aI night), (2, aI x2q)]) rfl ?_
                refine aw_goto (tgt := 66) cx dX6_where_90 (by decide) ?_
                refine aw_sub [2, 3, 4, 1, 0] rfl ?_
                refine ih66q _ _  ?i_h1 ?i_hb ?i_m
                case i_h1 =>
                  omega
                case i_hb =>
                  rw [hz87q, show (22 - (x4q + -1)).toNat = (22 - x4q).toNat + 1 by omega, hz85q, hz73q, hs82, hb]; show _ = bAnd (RCH (BWD _ (22 - x4q).toNat)) (fSW (fgT M) (22 - (22 - x4q).toNat)); rw [show 22 - (22 - x4q).toNat = x4q.toNat by omega]
                case i_m =>
                  omega
          refine aw_sub [2, 3, 4, 1, 0] rfl ?_
          refine lp66q _ _ _  ?i_h1 ?i_hb (Nat.lt_succ_self _)
          case i_h1 =>
            omega
          case i_hb =>
            rw [hs58]; rfl
        · refine aw_iload_n cx dX6_where_32 rfl 2 rfl ?_
          refine aw_callS (as := [aI x2q]) (stk := []) cx dX6_where_33 ml_X6_199 ms_X6_reach (by decide) rfl rfl (Nat.le_of_ble_eq_true rfl) (ct_X6_reach tl M_13q _ ) (fun rr33q M_33q hp33q => ?_)
          obtain ⟨rfl, rfl⟩ := hp33q
          refine aw_top (stk := []) (fun z33q hz33q => ?_)
          refine aw_aload_n cx dX6_where_36 rfl 0 rfl ?_
          refine aw_getR (q := 22) cx dX6_where_37 fl_X6_50 (lb_0 tl) rfl rfl ?_
          refine aw_iload_n cx dX6_where_40 rfl 3 rfl ?_
          refine aw_callV (as := [aI x3q]) (k := 22) (stk := [aI z33q]) cx dX6_where_41 ml_X6_196 mv_X0_swornTowns rfl (lb_22 tl) (by decide) rfl rfl (Nat.le_of_ble_eq_true rfl) (ct_X0_swornTowns tl M_13q 5 _ (Or.inl rfl) (htlM_13)) (fun rr41q M_41q hp41q => ?_)
          obtain ⟨rfl, rfl⟩ := hp41q
          refine aw_top (stk := [aI z33q]) (fun z41q hz41q => ?_)
          have hs41 : z41q = fSW (fgT M) x3q.toNat := by have q := told_sw (t := x3q.toNat) hfrM_13 hrnM_13 hNN; rw [show ((x3q.toNat : Nat) : Int) = x3q by omega] at q; rw [hz41q]; exact q
          refine aw_iand cx dX6_where_44 (fun z44q hz44q => ?_)
          refine aw_istore_n (loc2 := [(2, aI z44q), (0, aR 0), (1, aI night), (3, aI x3q)]) cx dX6_where_45 rfl (by decide) rfl ?_
          refine aw_iinc cx dX6_where_46 3 rfl (by decide) (by omega) (fun z46q hz46q => ?_)
          refine aw_loc (loc2 := [(3, aI z46q), (2, aI z44q), (0, aR 0), (1, aI night)]) rfl ?_
          refine aw_goto (tgt := 27) cx dX6_where_49 (by decide) ?_
          refine aw_sub [2, 3, 1, 0] rfl ?_
          refine ih27q _ _  ?i_h0 ?i_hs ?i_m
          case i_h0 =>
            omega
          case i_hs =>
            rw [hz46q, show (x3q + 1 - 1 : Int) = (x3q - 1) + 1 by omega, FWD_i (by omega), ← hs, hz44q, hz33q, hs41, show x3q.toNat = (x3q - 1).toNat + 1 by omega]
          case i_m =>
            omega
    refine aw_sub [2, 3, 1, 0] rfl ?_
    refine lp27q _ _ _  ?i_h0 ?i_hs (Nat.lt_succ_self _)
    case i_h0 =>
      omega
    case i_hs =>
      rw [hs21]; rfl
  · have d6q := b2_y hz3q c6q
    refine aw_bipush (n := (-2)) cx dX6_where_9 (by decide) ?_
    refine aw_iret cx rt dX6_where_11 ?_
    exact ⟨-2, rfl, FR.rf, Or.inl ⟨by omega, rfl⟩⟩
set_option maxHeartbeats 1000000 in
set_option maxRecDepth 100000 in
theorem ct_X6_seen (tl : List CD) (M : Mem) (c is : Int) : Ct 1 mX6_seen (LB ++ tl) [aR 0, aI c, aI is] M (fun r M1 => ∃ x, r = some (aI x) ∧ (((c < 0 ∨ 7 < c ∨ is < 0 ∨ 1 < is) ∧ x = -2 ∧ M1 = M) ∨ ((0 ≤ c ∧ c ≤ 7 ∧ 0 ≤ is ∧ is ≤ 1) ∧ M 0 13 = 8 ∧ x = -4 ∧ M1 = M) ∨ ((0 ≤ c ∧ c ≤ 7 ∧ 0 ≤ is ∧ is ≤ 1) ∧ M 0 13 < 8 ∧ x = M 0 13 + 1 ∧ M1 = up (up (up M 27 (M 0 13).toNat c) 28 (M 0 13).toNat is) 0 13 (M 0 13 + 1)))) := by
  refine Ct.of (own := RX6) rfl (by decide +kernel) (Nat.le_of_ble_eq_true rfl) (fun X cx rt => ?_)
  refine aw_eq (loc2 := [(0, aR 0), (1, aI c), (2, aI is)]) ?_ rfl rfl rfl rfl
  refine aw_rngL 1 rfl (fun rl_c rh_c => ?_)
  refine aw_rngL 2 rfl (fun rl_is rh_is => ?_)
  refine aw_ok (fun om => ?_)
  have hss : 0 ≤ M 0 13 ∧ M 0 13 ≤ 8 := okF om (lb_0 tl) (j := 13) rfl (show (0 : Nat) ≠ 1 by decide)
  refine aw_iload_n cx dX6_seen_0 rfl 1 rfl ?_
  refine aw_bipush (n := 8) cx dX6_seen_1 (by decide) ?_
  refine aw_callS (as := [aI c, aI 8]) (stk := []) cx dX6_seen_3 ml_X6_84 ms_X6_outside (by decide) rfl rfl (Nat.le_of_ble_eq_true rfl) (ct_X6_outside tl M _ _ ) (fun rr3q M_3q hp3q => ?_)
  obtain ⟨rfl, rfl⟩ := hp3q
  refine aw_top (stk := []) (fun z3q hz3q => ?_)
  refine aw_if_ne (tgt := 17) cx dX6_seen_6 (by decide) (fun c6q => ?_) (fun c6q => ?_)
  · have d6q := b2_y hz3q c6q
    refine aw_bipush (n := (-2)) cx dX6_seen_17 (by decide) ?_
    refine aw_iret cx rt dX6_seen_19 ?_
    exact ⟨-2, rfl, Or.inl ⟨by omega, rfl, rfl⟩⟩
  · have d6q := b2_e0.mp (hz3q.symm.trans c6q)
    refine aw_iload_n cx dX6_seen_9 rfl 2 rfl ?_
    refine aw_iconst (n := 2) cx dX6_seen_10 (by decide) ?_
    refine aw_callS (as := [aI is, aI 2]) (stk := []) cx dX6_seen_11 ml_X6_84 ms_X6_outside (by decide) rfl rfl (Nat.le_of_ble_eq_true rfl) (ct_X6_outside tl M _ _ ) (fun rr11q M_11q hp11q => ?_)
    obtain ⟨rfl, rfl⟩ := hp11q
    refine aw_top (stk := []) (fun z11q hz11q => ?_)
    refine aw_if_eq (tgt := 20) cx dX6_seen_14 (by decide) (fun c14q => ?_) (fun c14q => ?_)
    · have d14q := b2_e0.mp (hz11q.symm.trans c14q)
      refine aw_aload_n cx dX6_seen_20 rfl 0 rfl ?_
      refine aw_getI cx dX6_seen_21 fl_X6_78 (lb_0 tl) rfl (fun z21q hz21q lo_z21q hi_z21q => ?_)
      refine aw_bipush (n := 8) cx dX6_seen_24 (by decide) ?_
      refine aw_icmp_lt (tgt := 32) cx dX6_seen_26 (by decide) (fun c26q => ?_) (fun c26q => ?_)
      · refine aw_aload_n cx dX6_seen_32 rfl 0 rfl ?_
        refine aw_getR (q := 27) cx dX6_seen_33 fl_X6_54 (lb_0 tl) rfl rfl ?_
        refine aw_aload_n cx dX6_seen_36 rfl 0 rfl ?_
        refine aw_getI cx dX6_seen_37 fl_X6_78 (lb_0 tl) rfl (fun z37q hz37q lo_z37q hi_z37q => ?_)
        refine aw_iload_n cx dX6_seen_40 rfl 1 rfl ?_
        refine aw_iast cx dX6_seen_41 (lb_27 tl) (⟨by omega, by omega⟩) (⟨by omega, by omega⟩) ?_
        obtain ⟨M_41q, hM_41q⟩ : ∃ q, q = up M 27 (Int.toNat (z37q)) (c) := ⟨_, rfl⟩
        rw [← hM_41q]
        refine aw_aload_n cx dX6_seen_42 rfl 0 rfl ?_
        refine aw_getR (q := 28) cx dX6_seen_43 fl_X6_58 (lb_0 tl) rfl rfl ?_
        refine aw_aload_n cx dX6_seen_46 rfl 0 rfl ?_
        refine aw_getI cx dX6_seen_47 fl_X6_78 (lb_0 tl) rfl (fun z47q hz47q lo_z47q hi_z47q => ?_)
        refine aw_iload_n cx dX6_seen_50 rfl 2 rfl ?_
        refine aw_iast cx dX6_seen_51 (lb_28 tl) (by rw [up_ne hM_41q (by omega)] at hz47q; exact ⟨by omega, by omega⟩) (⟨by omega, by omega⟩) ?_
        obtain ⟨M_51q, hM_51q⟩ : ∃ q, q = up M_41q 28 (Int.toNat (z47q)) (is) := ⟨_, rfl⟩
        rw [← hM_51q]
        refine aw_aload_n cx dX6_seen_52 rfl 0 rfl ?_
        refine aw_dup cx dX6_seen_53 rfl ?_
        refine aw_getI cx dX6_seen_54 fl_X6_78 (lb_0 tl) rfl (fun z54q hz54q lo_z54q hi_z54q => ?_)
        refine aw_iconst (n := 1) cx dX6_seen_57 (by decide) ?_
        refine aw_iadd cx dX6_seen_58 (by omega) (fun z58q hz58q => ?_)
        refine aw_putI cx dX6_seen_59 fl_X6_78 kt_X6 rfl rfl (lb_0 tl) rfl (by rw [up_ne hM_51q (by omega), up_ne hM_41q (by omega)] at hz54q; exact ⟨by omega, by omega⟩) ?_
        obtain ⟨M_59q, hM_59q⟩ : ∃ q, q = up M_51q 0 13 z58q := ⟨_, rfl⟩
        rw [← hM_59q]
        refine aw_aload_n cx dX6_seen_62 rfl 0 rfl ?_
        refine aw_getI cx dX6_seen_63 fl_X6_78 (lb_0 tl) rfl (fun z63q hz63q lo_z63q hi_z63q => ?_)
        refine aw_iret cx rt dX6_seen_66 ?_
        rw [up_ne hM_41q (by omega)] at hz47q
        rw [up_ne hM_51q (by omega), up_ne hM_41q (by omega)] at hz54q
        exact ⟨z63q, rfl, Or.inr (Or.inr ⟨by omega, by omega, by rw [hz63q, up_eq hM_59q]; omega, by rw [hM_59q, hM_51q, hM_41q, hz47q, hz37q, hz58q, hz54q]⟩)⟩
      · refine aw_bipush (n := (-4)) cx dX6_seen_29 (by decide) ?_
        refine aw_iret cx rt dX6_seen_31 ?_
        exact ⟨-4, rfl, Or.inr (Or.inl ⟨by omega, by omega, rfl, rfl⟩)⟩
    · have d14q := b2_y hz11q c14q
      refine aw_bipush (n := (-2)) cx dX6_seen_17 (by decide) ?_
      refine aw_iret cx rt dX6_seen_19 ?_
      exact ⟨-2, rfl, Or.inl ⟨by omega, rfl, rfl⟩⟩
set_option maxHeartbeats 1000000 in
set_option maxRecDepth 100000 in
theorem ct_X6_forget (tl : List CD) (M : Mem)  : Ct 0 mX6_forget (LB ++ tl) [aR 0] M (fun r M1 => ∃ x, r = some (aI x) ∧ x = M 0 13 ∧ M1 = up M 0 13 0) := by
  refine Ct.of (own := RX6) rfl (by decide +kernel) (Nat.le_of_ble_eq_true rfl) (fun X cx rt => ?_)
  refine aw_eq (loc2 := [(0, aR 0)]) ?_ rfl rfl rfl rfl
  refine aw_aload_n cx dX6_forget_0 rfl 0 rfl ?_
  refine aw_getI cx dX6_forget_1 fl_X6_78 (lb_0 tl) rfl (fun z1q hz1q lo_z1q hi_z1q => ?_)
  refine aw_istore_n (loc2 := [(1, aI z1q), (0, aR 0)]) cx dX6_forget_4 rfl (by decide) rfl ?_
  refine aw_aload_n cx dX6_forget_5 rfl 1 rfl ?_
  refine aw_iconst (n := 0) cx dX6_forget_6 (by decide) ?_
  refine aw_putI cx dX6_forget_7 fl_X6_78 kt_X6 rfl rfl (lb_0 tl) rfl (⟨by omega, by omega⟩) ?_
  obtain ⟨M_7q, hM_7q⟩ : ∃ q, q = up M 0 13 0 := ⟨_, rfl⟩
  rw [← hM_7q]
  refine aw_iload_n cx dX6_forget_10 rfl 0 rfl ?_
  refine aw_iret cx rt dX6_forget_11 ?_
  exact ⟨z1q, rfl, hz1q, hM_7q⟩
