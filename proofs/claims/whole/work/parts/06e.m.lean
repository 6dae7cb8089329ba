set_option maxHeartbeats 4000000 in
set_option maxRecDepth 100000 in
theorem ct_X4_takeOver (tl : List CD) (M : Mem) (tk : Nat) (i j : Int) (htk : TK tk) (hi : 0 ≤ i ∧ i < 12) (hj : 0 ≤ j ∧ j < 12) : Ct 0 mX4_takeOver (LB ++ tl) [aR 10, aI i, aR tk, aI j] M (fun r M1 => r = none ∧ FR [11, 12, 13, 14] M M1 ∧ M1 11 = up1 (M 11) i.toNat (M (tk + 1) j.toNat) ∧ M1 12 = up1 (M 12) i.toNat (M (tk + 2) j.toNat) ∧ M1 13 = up1 (M 13) i.toNat (M (tk + 3) j.toNat) ∧ M1 14 = up1 (M 14) i.toNat (M (tk + 4) j.toNat)) := by
  refine Ct.of (own := RX4) rfl (by decide +kernel) (Nat.le_of_ble_eq_true rfl) (fun X cx rt => ?_)
  refine aw_eq (loc2 := [(0, aR 10), (1, aI i), (2, aR tk), (3, aI j)]) ?_ rfl rfl rfl rfl
  refine aw_rngL 1 rfl (fun rl_i rh_i => ?_)
  refine aw_rngL 3 rfl (fun rl_j rh_j => ?_)
  have htk5 : tk = 5 ∨ tk = 10 := htk
  refine aw_aload_n cx dX4_takeOver_0 rfl 0 rfl ?_
  refine aw_getR (q := 11) cx dX4_takeOver_1 fl_X4_9 (lb_10 tl) rfl rfl ?_
  refine aw_iload_n cx dX4_takeOver_4 rfl 1 rfl ?_
  refine aw_aload_n cx dX4_takeOver_5 rfl 2 rfl ?_
  refine aw_getR (q := tk + 1) cx dX4_takeOver_6 fl_X4_9 (tkO htk tl) rfl rfl ?_
  refine aw_iload_n cx dX4_takeOver_9 rfl 3 rfl ?_
  refine aw_iald cx dX4_takeOver_10 (tk1 htk tl) (⟨by omega, by omega⟩) (fun z10q hz10q lo_z10q hi_z10q => ?_)
  refine aw_iast cx dX4_takeOver_11 (lb_11 tl) (⟨by omega, by omega⟩) (⟨by omega, by omega⟩) ?_
  obtain ⟨M_11q, hM_11q⟩ : ∃ q, q = up M 11 (Int.toNat (i)) (z10q) := ⟨_, rfl⟩
  rw [← hM_11q]
  refine aw_aload_n cx dX4_takeOver_12 rfl 0 rfl ?_
  refine aw_getR (q := 12) cx dX4_takeOver_13 fl_X4_15 (lb_10 tl) rfl rfl ?_
  refine aw_iload_n cx dX4_takeOver_16 rfl 1 rfl ?_
  refine aw_aload_n cx dX4_takeOver_17 rfl 2 rfl ?_
  refine aw_getR (q := tk + 2) cx dX4_takeOver_18 fl_X4_15 (tkO htk tl) rfl rfl ?_
  refine aw_iload_n cx dX4_takeOver_21 rfl 3 rfl ?_
  refine aw_iald cx dX4_takeOver_22 (tk2 htk tl) (⟨by omega, by omega⟩) (fun z22q hz22q lo_z22q hi_z22q => ?_)
  refine aw_iast cx dX4_takeOver_23 (lb_12 tl) (⟨by omega, by omega⟩) (⟨by omega, by omega⟩) ?_
  obtain ⟨M_23q, hM_23q⟩ : ∃ q, q = up M_11q 12 (Int.toNat (i)) (z22q) := ⟨_, rfl⟩
  rw [← hM_23q]
  refine aw_aload_n cx dX4_takeOver_24 rfl 0 rfl ?_
  refine aw_getR (q := 13) cx dX4_takeOver_25 fl_X4_18 (lb_10 tl) rfl rfl ?_
  refine aw_iload_n cx dX4_takeOver_28 rfl 1 rfl ?_
  refine aw_aload_n cx dX4_takeOver_29 rfl 2 rfl ?_
  refine aw_getR (q := tk + 3) cx dX4_takeOver_30 fl_X4_18 (tkO htk tl) rfl rfl ?_
  refine aw_iload_n cx dX4_takeOver_33 rfl 3 rfl ?_
  refine aw_iald cx dX4_takeOver_34 (tk3 htk tl) (⟨by omega, by omega⟩) (fun z34q hz34q lo_z34q hi_z34q => ?_)
  refine aw_iast cx dX4_takeOver_35 (lb_13 tl) (⟨by omega, by omega⟩) (⟨by omega, by omega⟩) ?_
  obtain ⟨M_35q, hM_35q⟩ : ∃ q, q = up M_23q 13 (Int.toNat (i)) (z34q) := ⟨_, rfl⟩
  rw [← hM_35q]
  refine aw_aload_n cx dX4_takeOver_36 rfl 0 rfl ?_
  refine aw_getR (q := 14) cx dX4_takeOver_37 fl_X4_21 (lb_10 tl) rfl rfl ?_
  refine aw_iload_n cx dX4_takeOver_40 rfl 1 rfl ?_
  refine aw_aload_n cx dX4_takeOver_41 rfl 2 rfl ?_
  refine aw_getR (q := tk + 4) cx dX4_takeOver_42 fl_X4_21 (tkO htk tl) rfl rfl ?_
  refine aw_iload_n cx dX4_takeOver_45 rfl 3 rfl ?_
  refine aw_iald cx dX4_takeOver_46 (tk4 htk tl) (⟨by omega, by omega⟩) (fun z46q hz46q lo_z46q hi_z46q => ?_)
  refine aw_iast cx dX4_takeOver_47 (lb_14 tl) (⟨by omega, by omega⟩) (⟨by omega, by omega⟩) ?_
  obtain ⟨M_47q, hM_47q⟩ : ∃ q, q = up M_35q 14 (Int.toNat (i)) (z46q) := ⟨_, rfl⟩
  rw [← hM_47q]
  refine aw_vret cx rt dX4_takeOver_48 ?_
  rw [up_ne hM_11q (by omega)] at hz22q
  rw [up_ne hM_23q (by omega), up_ne hM_11q (by omega)] at hz34q
  rw [up_ne hM_35q (by omega), up_ne hM_23q (by omega), up_ne hM_11q (by omega)] at hz46q
  refine ⟨rfl, (((FR.rf.put hM_11q (by decide)).put hM_23q (by decide)).put hM_35q (by decide)).put hM_47q (by decide), ?_, ?_, ?_, ?_⟩
  · rw [hM_47q, up_off (by decide), hM_35q, up_off (by decide), hM_23q, up_off (by decide), hM_11q, up_row, hz10q]
  · rw [hM_47q, up_off (by decide), hM_35q, up_off (by decide), hM_23q, up_row, hM_11q, up_off (by decide), hz22q]
  · rw [hM_47q, up_off (by decide), hM_35q, up_row, hM_23q, up_off (by decide), hM_11q, up_off (by decide), hz34q]
  · rw [hM_47q, up_row, hM_35q, up_off (by decide), hM_23q, up_off (by decide), hM_11q, up_off (by decide), hz46q]
set_option maxHeartbeats 4000000 in
set_option maxRecDepth 100000 in
theorem ct_X4_becomeLike (tl : List CD) (M : Mem)  : Ct 1 mX4_becomeLike (LB ++ tl) [aR 10, aR 5] M (fun r M1 => r = none ∧ FR [10, 11, 12, 13, 14] M M1 ∧ M1 10 4 = M 5 4 ∧ M1 10 5 = M 10 5 ∧ ∀ i, i < (M 5 4).toNat → M1 11 i = M 6 i ∧ M1 12 i = M 7 i ∧ M1 13 i = M 8 i ∧ M1 14 i = M 9 i) := by
  refine Ct.of (own := RX4) rfl (by decide +kernel) (Nat.le_of_ble_eq_true rfl) (fun X cx rt => ?_)
  refine aw_eq (loc2 := [(0, aR 10), (1, aR 5)]) ?_ rfl rfl rfl rfl
  refine aw_ok (fun om => ?_)
  have hsz : 0 ≤ M 5 4 ∧ M 5 4 ≤ 12 := okF om (lb_5 tl) (j := 4) rfl (show (0 : Nat) ≠ 1 by decide)
  refine aw_aload_n cx dX4_becomeLike_0 rfl 0 rfl ?_
  refine aw_aload_n cx dX4_becomeLike_1 rfl 1 rfl ?_
  refine aw_getI cx dX4_becomeLike_2 fl_X4_24 (lb_5 tl) rfl (fun z2q hz2q lo_z2q hi_z2q => ?_)
  refine aw_putI cx dX4_becomeLike_5 fl_X4_24 kt_X4 rfl rfl (lb_10 tl) rfl (⟨by omega, by omega⟩) ?_
  obtain ⟨M_5q, hM_5q⟩ : ∃ q, q = up M 10 4 z2q := ⟨_, rfl⟩
  rw [← hM_5q]
  refine aw_iconst (n := 0) cx dX4_becomeLike_8 (by decide) ?_
  refine aw_istore_n (loc2 := [(2, aI 0), (0, aR 10), (1, aR 5)]) cx dX4_becomeLike_9 rfl (by decide) rfl ?_
  have lp10q : ∀ (fu : Nat) (x2q : Int) (N10q : Mem), (0 ≤ x2q ∧ x2q ≤ M 5 4) → (FR [10, 11, 12, 13, 14] M N10q) → (N10q 10 4 = M 5 4) → (N10q 10 5 = M 10 5) → (∀ i, i < x2q.toNat → N10q 11 i = M 6 i ∧ N10q 12 i = M 7 i ∧ N10q 13 i = M 8 i ∧ N10q 14 i = M 9 i) → ((M 5 4 - x2q).toNat) < fu → AW X (LB ++ tl) 3 10 [(0, aR 10), (1, aR 5), (2, aI x2q)] [] N10q := by
    intro fu
    induction fu with
    | zero =>
      intro x2q N10q h0q hf hs hl ha hm
      exact absurd hm (Nat.not_lt_zero _)
    | succ fu ih10q =>
      intro x2q N10q h0q hf hs hl ha hm
      refine aw_iload_n cx dX4_becomeLike_10 rfl 2 rfl ?_
      refine aw_aload_n cx dX4_becomeLike_11 rfl 0 rfl ?_
      refine aw_getI cx dX4_becomeLike_12 fl_X4_24 (lb_10 tl) rfl (fun z12q hz12q lo_z12q hi_z12q => ?_)
      refine aw_icmp_ge (tgt := 31) cx dX4_becomeLike_15 (by decide) (fun c15q => ?_) (fun c15q => ?_)
      · refine aw_vret cx rt dX4_becomeLike_31 ?_
        exact ⟨rfl, hf, hs, hl, fun i hi => ha i (by omega)⟩
      · refine aw_aload_n cx dX4_becomeLike_18 rfl 0 rfl ?_
        refine aw_iload_n cx dX4_becomeLike_19 rfl 2 rfl ?_
        refine aw_aload_n cx dX4_becomeLike_20 rfl 1 rfl ?_
        refine aw_iload_n cx dX4_becomeLike_21 rfl 2 rfl ?_
        refine aw_callV (as := [aI x2q, aR 5, aI x2q]) (k := 10) (stk := []) cx dX4_becomeLike_22 ml_X4_47 mv_X4_takeOver rfl (lb_10 tl) (by decide) rfl rfl (Nat.le_of_ble_eq_true rfl) (ct_X4_takeOver tl N10q 5 _ _ (Or.inl rfl) (by first | assumption | omega) (by first | assumption | omega)) (fun rr22q M_22q hp22q => ?_)
        obtain ⟨rfl, hfrM_22, h11M_22, h12M_22, h13M_22, h14M_22⟩ := hp22q
        refine aw_eq (stk2 := []) ?_ rfl rfl rfl rfl
        refine aw_iinc cx dX4_becomeLike_25 2 rfl (by decide) (by omega) (fun z25q hz25q => ?_)
        refine aw_loc (loc2 := [(2, aI z25q), (0, aR 10), (1, aR 5)]) rfl ?_
        refine aw_goto (tgt := 10) cx dX4_becomeLike_28 (by decide) ?_
        refine aw_sub [1, 2, 0] rfl ?_
        refine ih10q _ _  ?i_h0 ?i_hf ?i_hs ?i_hl ?i_ha ?i_m
        case i_h0 =>
          omega
        case i_hf =>
          exact hf.tr hfrM_22 (by decide)
        case i_hs =>
          rw [hfrM_22 10 (by decide)]; exact hs
        case i_hl =>
          rw [hfrM_22 10 (by decide)]; exact hl
        case i_ha =>
          rw [hz25q]
          have k6 := congrFun (hf 6 (by decide)) x2q.toNat
          have k7 := congrFun (hf 7 (by decide)) x2q.toNat
          have k8 := congrFun (hf 8 (by decide)) x2q.toNat
          have k9 := congrFun (hf 9 (by decide)) x2q.toNat
          refine all_s (P := fun i => M_22q 11 i = M 6 i ∧ M_22q 12 i = M 7 i ∧ M_22q 13 i = M 8 i ∧ M_22q 14 i = M 9 i) h0q.1 (fun i hi => ?_) ?_
          · rw [h11M_22, h12M_22, h13M_22, h14M_22]
            have hne : ¬ i = x2q.toNat := by omega
            unfold up1
            rw [if_neg hne, if_neg hne, if_neg hne, if_neg hne]
            exact ha i hi
          · rw [h11M_22, h12M_22, h13M_22, h14M_22]
            unfold up1
            rw [if_pos rfl, if_pos rfl, if_pos rfl, if_pos rfl]
            exact ⟨k6, k7, k8, k9⟩
        case i_m =>
          omega
  refine aw_sub [1, 2, 0] rfl ?_
  refine lp10q _ _ _  ?i_h0 ?i_hf ?i_hs ?i_hl ?i_ha (Nat.lt_succ_self _)
  case i_h0 =>
    omega
  case i_hf =>
    exact FR.rf.put hM_5q (by decide)
  case i_hs =>
    rw [up_eq hM_5q, hz2q]
  case i_hl =>
    exact up_ne hM_5q (by omega)
  case i_ha =>
    exact all_0
set_option maxHeartbeats 4000000 in
set_option maxRecDepth 100000 in
theorem ct_X4_leaveOut (tl : List CD) (M : Mem) (g : Int) (hg : 0 ≤ g ∧ g < M 10 4) : Ct 1 mX4_leaveOut (LB ++ tl) [aR 10, aI g] M (fun r M1 => r = none ∧ FR [10, 11, 12, 13, 14] M M1 ∧ M1 10 4 = M 10 4 - 1 ∧ ∀ i : Nat, (i : Int) < M 10 4 - 1 → M1 11 i = M 11 (if (i : Int) < g then i else i + 1) ∧ M1 12 i = M 12 (if (i : Int) < g then i else i + 1) ∧ M1 13 i = M 13 (if (i : Int) < g then i else i + 1) ∧ M1 14 i = M 14 (if (i : Int) < g then i else i + 1)) := by
  refine Ct.of (own := RX4) rfl (by decide +kernel) (Nat.le_of_ble_eq_true rfl) (fun X cx rt => ?_)
  refine aw_eq (loc2 := [(0, aR 10), (1, aI g)]) ?_ rfl rfl rfl rfl
  refine aw_rngL 1 rfl (fun rl_g rh_g => ?_)
  refine aw_ok (fun om => ?_)
  have hsz : 0 ≤ M 10 4 ∧ M 10 4 ≤ 12 := okF om (lb_10 tl) (j := 4) rfl (show (0 : Nat) ≠ 1 by decide)
  refine aw_iload_n cx dX4_leaveOut_0 rfl 1 rfl ?_
  refine aw_istore_n (loc2 := [(2, aI g), (0, aR 10), (1, aI g)]) cx dX4_leaveOut_1 rfl (by decide) rfl ?_
  have lp2q : ∀ (fu : Nat) (x2q : Int) (N2q : Mem), (g ≤ x2q ∧ x2q ≤ M 10 4 - 1) → (FR [11, 12, 13, 14] M N2q) → (∀ i, i < x2q.toNat → N2q 11 i = M 11 (if (i : Int) < g then i else i + 1) ∧ N2q 12 i = M 12 (if (i : Int) < g then i else i + 1) ∧ N2q 13 i = M 13 (if (i : Int) < g then i else i + 1) ∧ N2q 14 i = M 14 (if (i : Int) < g then i else i + 1)) → (∀ i, x2q.toNat ≤ i → N2q 11 i = M 11 i ∧ N2q 12 i = M 12 i ∧ N2q 13 i = M 13 i ∧ N2q 14 i = M 14 i) → ((M 10 4 - x2q).toNat) < fu → AW X (LB ++ tl) 3 2 [(0, aR 10), (1, aI g), (2, aI x2q)] [] N2q := by
    intro fu
    induction fu with
    | zero =>
      intro x2q N2q h0q hf ha hb hm
      exact absurd hm (Nat.not_lt_zero _)
    | succ fu ih2q =>
      intro x2q N2q h0q hf ha hb hm
      have k4 := congrFun (hf 10 (by decide)) 4
      refine aw_iload_n cx dX4_leaveOut_2 rfl 2 rfl ?_
      refine aw_iconst (n := 1) cx dX4_leaveOut_3 (by decide) ?_
      refine aw_iadd cx dX4_leaveOut_4 (by omega) (fun z4q hz4q => ?_)
      refine aw_aload_n cx dX4_leaveOut_5 rfl 0 rfl ?_
      refine aw_getI cx dX4_leaveOut_6 fl_X4_24 (lb_10 tl) rfl (fun z6q hz6q lo_z6q hi_z6q => ?_)
      refine aw_icmp_ge (tgt := 27) cx dX4_leaveOut_9 (by decide) (fun c9q => ?_) (fun c9q => ?_)
      · refine aw_aload_n cx dX4_leaveOut_27 rfl 0 rfl ?_
        refine aw_dup cx dX4_leaveOut_28 rfl ?_
        refine aw_getI cx dX4_leaveOut_29 fl_X4_24 (lb_10 tl) rfl (fun z29q hz29q lo_z29q hi_z29q => ?_)
        refine aw_iconst (n := 1) cx dX4_leaveOut_32 (by decide) ?_
        refine aw_isub cx dX4_leaveOut_33 (by omega) (fun z33q hz33q => ?_)
        refine aw_putI cx dX4_leaveOut_34 fl_X4_24 kt_X4 rfl rfl (lb_10 tl) rfl (⟨by omega, by omega⟩) ?_
        obtain ⟨M_34q, hM_34q⟩ : ∃ q, q = up N2q 10 4 z33q := ⟨_, rfl⟩
        rw [← hM_34q]
        refine aw_vret cx rt dX4_leaveOut_37 ?_
        refine ⟨rfl, (hf.mono (by decide)).put hM_34q (by decide), by rw [up_eq hM_34q]; omega, fun i hi => ?_⟩
        rw [up_ne hM_34q (by omega), up_ne hM_34q (by omega), up_ne hM_34q (by omega), up_ne hM_34q (by omega)]
        exact ha i (by omega)
      · refine aw_aload_n cx dX4_leaveOut_12 rfl 0 rfl ?_
        refine aw_iload_n cx dX4_leaveOut_13 rfl 2 rfl ?_
        refine aw_aload_n cx dX4_leaveOut_14 rfl 0 rfl ?_
        refine aw_iload_n cx dX4_leaveOut_15 rfl 2 rfl ?_
        refine aw_iconst (n := 1) cx dX4_leaveOut_16 (by decide) ?_
        refine aw_iadd cx dX4_leaveOut_17 (by omega) (fun z17q hz17q => ?_)
        refine aw_callV (as := [aI x2q, aR 10, aI z17q]) (k := 10) (stk := []) cx dX4_leaveOut_18 ml_X4_47 mv_X4_takeOver rfl (lb_10 tl) (by decide) rfl rfl (Nat.le_of_ble_eq_true rfl) (ct_X4_takeOver tl N2q 10 _ _ (Or.inr rfl) (by first | assumption | omega) (by first | assumption | omega)) (fun rr18q M_18q hp18q => ?_)
        obtain ⟨rfl, hfrM_18, h11M_18, h12M_18, h13M_18, h14M_18⟩ := hp18q
        refine aw_eq (stk2 := []) ?_ rfl rfl rfl rfl
        refine aw_iinc cx dX4_leaveOut_21 2 rfl (by decide) (by omega) (fun z21q hz21q => ?_)
        refine aw_loc (loc2 := [(2, aI z21q), (0, aR 10), (1, aI g)]) rfl ?_
        refine aw_goto (tgt := 2) cx dX4_leaveOut_24 (by decide) ?_
        refine aw_sub [1, 2, 0] rfl ?_
        refine ih2q _ _  ?i_h0 ?i_hf ?i_ha ?i_hb ?i_m
        case i_h0 =>
          omega
        case i_hf =>
          exact hf.tr hfrM_18 (by decide)
        case i_ha =>
          rw [hz21q]
          refine all_s (P := fun i => M_18q 11 i = M 11 (if (i : Int) < g then i else i + 1) ∧ M_18q 12 i = M 12 (if (i : Int) < g then i else i + 1) ∧ M_18q 13 i = M 13 (if (i : Int) < g then i else i + 1) ∧ M_18q 14 i = M 14 (if (i : Int) < g then i else i + 1)) (by omega) (fun i hi => ?_) ?_
          · rw [h11M_18, h12M_18, h13M_18, h14M_18]
            have hne : ¬ i = x2q.toNat := by omega
            unfold up1
            rw [if_neg hne, if_neg hne, if_neg hne, if_neg hne]
            exact ha i hi
          · rw [h11M_18, h12M_18, h13M_18, h14M_18]
            unfold up1
            rw [if_pos rfl, if_pos rfl, if_pos rfl, if_pos rfl, if_neg (by omega), show z17q.toNat = x2q.toNat + 1 by omega]
            exact hb (x2q.toNat + 1) (by omega)
        case i_hb =>
          intro i hi
          rw [h11M_18, h12M_18, h13M_18, h14M_18]
          have hne : ¬ i = x2q.toNat := by omega
          unfold up1
          rw [if_neg hne, if_neg hne, if_neg hne, if_neg hne]
          exact hb i (by omega)
        case i_m =>
          omega
  refine aw_sub [1, 2, 0] rfl ?_
  refine lp2q _ _ _  ?i_h0 ?i_hf ?i_ha ?i_hb (Nat.lt_succ_self _)
  case i_h0 =>
    omega
  case i_hf =>
    exact FR.rf
  case i_ha =>
    intro i hi; rw [if_pos (by omega)]; exact ⟨rfl, rfl, rfl, rfl⟩
  case i_hb =>
    exact fun i _ => ⟨rfl, rfl, rfl, rfl⟩
set_option maxHeartbeats 4000000 in
set_option maxRecDepth 100000 in
theorem ct_X4_nextLot (tl : List CD) (M : Mem)  : Ct 0 mX4_nextLot (LB ++ tl) [aR 10] M (fun r M1 => ∃ x, r = some (aI x) ∧ FR [10] M M1 ∧ M1 10 4 = M 10 4 ∧ M1 10 5 = LCG (M 10 5) ∧ x = bUsh (LCG (M 10 5)) 16) := by
  refine Ct.of (own := RX4) rfl (by decide +kernel) (Nat.le_of_ble_eq_true rfl) (fun X cx rt => ?_)
  refine aw_eq (loc2 := [(0, aR 10)]) ?_ rfl rfl rfl rfl
  refine aw_aload_n cx dX4_nextLot_0 rfl 0 rfl ?_
  refine aw_ldc (x := 1103515245) cx dX4_nextLot_1 kc_X4_55 (by decide +kernel) ?_
  refine aw_aload_n cx dX4_nextLot_3 rfl 0 rfl ?_
  refine aw_getI cx dX4_nextLot_4 fl_X4_28 (lb_10 tl) rfl (fun z4q hz4q lo_z4q hi_z4q => ?_)
  refine aw_imulW cx dX4_nextLot_7 (fun z7q hz7q => ?_)
  refine aw_sipush (n := 12345) cx dX4_nextLot_8 (by decide) ?_
  refine aw_iaddW cx dX4_nextLot_11 (fun z11q hz11q => ?_)
  refine aw_putI cx dX4_nextLot_12 fl_X4_28 kt_X4 rfl rfl (lb_10 tl) rfl (by have := wr_in (z7q + 12345); omega) ?_
  obtain ⟨M_12q, hM_12q⟩ : ∃ q, q = up M 10 5 z11q := ⟨_, rfl⟩
  rw [← hM_12q]
  refine aw_aload_n cx dX4_nextLot_15 rfl 0 rfl ?_
  refine aw_getI cx dX4_nextLot_16 fl_X4_28 (lb_10 tl) rfl (fun z16q hz16q lo_z16q hi_z16q => ?_)
  refine aw_bipush (n := 16) cx dX4_nextLot_19 (by decide) ?_
  refine aw_iushr cx dX4_nextLot_21 (fun z21q hz21q => ?_)
  refine aw_iret cx rt dX4_nextLot_22 ?_
  have e5q : z16q = LCG (M 10 5) := by rw [hz16q, up_eq hM_12q, hz11q, hz7q, hz4q]; rfl
  exact ⟨z21q, rfl, FR.rf.put hM_12q (by decide), up_ne hM_12q (by omega), by rw [up_eq hM_12q, hz11q, hz7q, hz4q]; rfl, by rw [hz21q, e5q]⟩
set_option maxHeartbeats 4000000 in
set_option maxRecDepth 100000 in
theorem ct_X4_drawLots (tl : List CD) (M : Mem) (seed many : Int) (hm : 0 ≤ many ∧ many ≤ 12) : Ct 1 mX4_drawLots (LB ++ tl) [aR 10, aI seed, aI many] M (fun r M1 => r = none ∧ FR [10, 11, 12, 13, 14] M M1 ∧ M1 10 4 = many ∧ ∀ i, i < many.toNat → M1 11 i = bUsh (LSQ seed (4 * i + 1)) 16 % 24 ∧ M1 12 i = bUsh (LSQ seed (4 * i + 2)) 16 % 8 ∧ M1 13 i = bUsh (LSQ seed (4 * i + 3)) 16 % 10 ∧ M1 14 i = bUsh (LSQ seed (4 * i + 4)) 16 % 3) := by
  refine Ct.of (own := RX4) rfl (by decide +kernel) (Nat.le_of_ble_eq_true rfl) (fun X cx rt => ?_)
  refine aw_eq (loc2 := [(0, aR 10), (1, aI seed), (2, aI many)]) ?_ rfl rfl rfl rfl
  refine aw_rngL 1 rfl (fun rl_seed rh_seed => ?_)
  refine aw_rngL 2 rfl (fun rl_many rh_many => ?_)
  refine aw_aload_n cx dX4_drawLots_0 rfl 0 rfl ?_
  refine aw_iload_n cx dX4_drawLots_1 rfl 1 rfl ?_
  refine aw_putI cx dX4_drawLots_2 fl_X4_28 kt_X4 rfl rfl (lb_10 tl) rfl (⟨by omega, by omega⟩) ?_
  obtain ⟨M_2q, hM_2q⟩ : ∃ q, q = up M 10 5 seed := ⟨_, rfl⟩
  rw [← hM_2q]
  refine aw_aload_n cx dX4_drawLots_5 rfl 0 rfl ?_
  refine aw_iload_n cx dX4_drawLots_6 rfl 2 rfl ?_
  refine aw_putI cx dX4_drawLots_7 fl_X4_24 kt_X4 rfl rfl (lb_10 tl) rfl (⟨by omega, by omega⟩) ?_
  obtain ⟨M_7q, hM_7q⟩ : ∃ q, q = up M_2q 10 4 many := ⟨_, rfl⟩
  rw [← hM_7q]
  refine aw_iconst (n := 0) cx dX4_drawLots_10 (by decide) ?_
  refine aw_istore_n (loc2 := [(3, aI 0), (0, aR 10), (1, aI seed), (2, aI many)]) cx dX4_drawLots_11 rfl (by decide) rfl ?_
  have lp12q : ∀ (fu : Nat) (x3q : Int) (N12q : Mem), (0 ≤ x3q ∧ x3q ≤ many) → (FR [10, 11, 12, 13, 14] M N12q) → (N12q 10 4 = many) → (N12q 10 5 = LSQ seed (4 * x3q.toNat)) → (∀ i, i < x3q.toNat → N12q 11 i = bUsh (LSQ seed (4 * i + 1)) 16 % 24 ∧ N12q 12 i = bUsh (LSQ seed (4 * i + 2)) 16 % 8 ∧ N12q 13 i = bUsh (LSQ seed (4 * i + 3)) 16 % 10 ∧ N12q 14 i = bUsh (LSQ seed (4 * i + 4)) 16 % 3) → ((many - x3q).toNat) < fu → AW X (LB ++ tl) 4 12 [(0, aR 10), (1, aI seed), (2, aI many), (3, aI x3q)] [] N12q := by
    intro fu
    induction fu with
    | zero =>
      intro x3q N12q h0q hf hs hl ha hm
      exact absurd hm (Nat.not_lt_zero _)
    | succ fu ih12q =>
      intro x3q N12q h0q hf hs hl ha hm
      refine aw_iload_n cx dX4_drawLots_12 rfl 3 rfl ?_
      refine aw_aload_n cx dX4_drawLots_13 rfl 0 rfl ?_
      refine aw_getI cx dX4_drawLots_14 fl_X4_24 (lb_10 tl) rfl (fun z14q hz14q lo_z14q hi_z14q => ?_)
      refine aw_icmp_ge (tgt := 77) cx dX4_drawLots_17 (by decide) (fun c17q => ?_) (fun c17q => ?_)
      · refine aw_vret cx rt dX4_drawLots_77 ?_
        exact ⟨rfl, hf, hs, fun i hi => ha i (by omega)⟩
      · refine aw_aload_n cx dX4_drawLots_20 rfl 0 rfl ?_
        refine aw_getR (q := 11) cx dX4_drawLots_21 fl_X4_9 (lb_10 tl) rfl rfl ?_
        refine aw_iload_n cx dX4_drawLots_24 rfl 3 rfl ?_
        refine aw_aload_n cx dX4_drawLots_25 rfl 0 rfl ?_
        refine aw_callV (as := []) (k := 10) (stk := [aI x3q, aR 11]) cx dX4_drawLots_26 ml_X4_51 mv_X4_nextLot rfl (lb_10 tl) (by decide) rfl rfl (Nat.le_of_ble_eq_true rfl) (ct_X4_nextLot tl N12q  ) (fun rr26q M_26q hp26q => ?_)
        obtain ⟨z26q, rfl, hfrM_26, hs4M_26, hs5M_26, hxM_26⟩ := hp26q
        refine aw_eq (stk2 := [aI z26q, aI x3q, aR 11]) ?_ rfl rfl rfl rfl
        have hu := bUsh16 (LCG (N12q 10 5))
        refine aw_bipush (n := 24) cx dX4_drawLots_29 (by decide) ?_
        refine aw_irem cx dX4_drawLots_31 (by omega) (by omega) (fun z31q hz31q => ?_)
        refine aw_iast cx dX4_drawLots_32 (lb_11 tl) (⟨by omega, by omega⟩) (⟨by omega, by omega⟩) ?_
        obtain ⟨M_32q, hM_32q⟩ : ∃ q, q = up M_26q 11 (Int.toNat (x3q)) (z31q) := ⟨_, rfl⟩
        rw [← hM_32q]
        refine aw_aload_n cx dX4_drawLots_33 rfl 0 rfl ?_
        refine aw_getR (q := 12) cx dX4_drawLots_34 fl_X4_15 (lb_10 tl) rfl rfl ?_
        refine aw_iload_n cx dX4_drawLots_37 rfl 3 rfl ?_
        refine aw_aload_n cx dX4_drawLots_38 rfl 0 rfl ?_
        refine aw_callV (as := []) (k := 10) (stk := [aI x3q, aR 12]) cx dX4_drawLots_39 ml_X4_51 mv_X4_nextLot rfl (lb_10 tl) (by decide) rfl rfl (Nat.le_of_ble_eq_true rfl) (ct_X4_nextLot tl M_32q  ) (fun rr39q M_39q hp39q => ?_)
        obtain ⟨z39q, rfl, hfrM_39, hs4M_39, hs5M_39, hxM_39⟩ := hp39q
        refine aw_eq (stk2 := [aI z39q, aI x3q, aR 12]) ?_ rfl rfl rfl rfl
        have hu := bUsh16 (LCG (M_32q 10 5))
        refine aw_bipush (n := 8) cx dX4_drawLots_42 (by decide) ?_
        refine aw_irem cx dX4_drawLots_44 (by omega) (by omega) (fun z44q hz44q => ?_)
        refine aw_iast cx dX4_drawLots_45 (lb_12 tl) (⟨by omega, by omega⟩) (⟨by omega, by omega⟩) ?_
        obtain ⟨M_45q, hM_45q⟩ : ∃ q, q = up M_39q 12 (Int.toNat (x3q)) (z44q) := ⟨_, rfl⟩
        rw [← hM_45q]
        refine aw_aload_n cx dX4_drawLots_46 rfl 0 rfl ?_
        refine aw_getR (q := 13) cx dX4_drawLots_47 fl_X4_18 (lb_10 tl) rfl rfl ?_
        refine aw_iload_n cx dX4_drawLots_50 rfl 3 rfl ?_
        refine aw_aload_n cx dX4_drawLots_51 rfl 0 rfl ?_
        refine aw_callV (as := []) (k := 10) (stk := [aI x3q, aR 13]) cx dX4_drawLots_52 ml_X4_51 mv_X4_nextLot rfl (lb_10 tl) (by decide) rfl rfl (Nat.le_of_ble_eq_true rfl) (ct_X4_nextLot tl M_45q  ) (fun rr52q M_52q hp52q => ?_)
        obtain ⟨z52q, rfl, hfrM_52, hs4M_52, hs5M_52, hxM_52⟩ := hp52q
        refine aw_eq (stk2 := [aI z52q, aI x3q, aR 13]) ?_ rfl rfl rfl rfl
        have hu := bUsh16 (LCG (M_45q 10 5))
        refine aw_bipush (n := 10) cx dX4_drawLots_55 (by decide) ?_
        refine aw_irem cx dX4_drawLots_57 (by omega) (by omega) (fun z57q hz57q => ?_)
        refine aw_iast cx dX4_drawLots_58 (lb_13 tl) (⟨by omega, by omega⟩) (⟨by omega, by omega⟩) ?_
        obtain ⟨M_58q, hM_58q⟩ : ∃ q, q = up M_52q 13 (Int.toNat (x3q)) (z57q) := ⟨_, rfl⟩
        rw [← hM_58q]
        refine aw_aload_n cx dX4_drawLots_59 rfl 0 rfl ?_
        refine aw_getR (q := 14) cx dX4_drawLots_60 fl_X4_21 (lb_10 tl) rfl rfl ?_
        refine aw_iload_n cx dX4_drawLots_63 rfl 3 rfl ?_
        refine aw_aload_n cx dX4_drawLots_64 rfl 0 rfl ?_
        refine aw_callV (as := []) (k := 10) (stk := [aI x3q, aR 14]) cx dX4_drawLots_65 ml_X4_51 mv_X4_nextLot rfl (lb_10 tl) (by decide) rfl rfl (Nat.le_of_ble_eq_true rfl) (ct_X4_nextLot tl M_58q  ) (fun rr65q M_65q hp65q => ?_)
        obtain ⟨z65q, rfl, hfrM_65, hs4M_65, hs5M_65, hxM_65⟩ := hp65q
        refine aw_eq (stk2 := [aI z65q, aI x3q, aR 14]) ?_ rfl rfl rfl rfl
        have hu := bUsh16 (LCG (M_58q 10 5))
        refine aw_iconst (n := 3) cx dX4_drawLots_68 (by decide) ?_
        refine aw_irem cx dX4_drawLots_69 (by omega) (by omega) (fun z69q hz69q => ?_)
        refine aw_iast cx dX4_drawLots_70 (lb_14 tl) (⟨by omega, by omega⟩) (⟨by omega, by omega⟩) ?_
        obtain ⟨M_70q, hM_70q⟩ : ∃ q, q = up M_65q 14 (Int.toNat (x3q)) (z69q) := ⟨_, rfl⟩
        rw [← hM_70q]
        refine aw_iinc cx dX4_drawLots_71 3 rfl (by decide) (by omega) (fun z71q hz71q => ?_)
        refine aw_loc (loc2 := [(3, aI z71q), (0, aR 10), (1, aI seed), (2, aI many)]) rfl ?_
        refine aw_goto (tgt := 12) cx dX4_drawLots_74 (by decide) ?_
        refine aw_sub [1, 2, 3, 0] rfl ?_
        refine ih12q _ _  ?i_h0 ?i_hf ?i_hs ?i_hl ?i_ha ?i_m
        case i_h0 =>
          omega
        case i_hf =>
          exact (((((((hf.tr hfrM_26 (by decide)).put hM_32q (by decide)).tr hfrM_39 (by decide)).put hM_45q (by decide)).tr hfrM_52 (by decide)).put hM_58q (by decide)).tr hfrM_65 (by decide)).put hM_70q (by decide)
        case i_hs =>
          rw [up_ne hM_70q (by omega), hs4M_65, up_ne hM_58q (by omega), hs4M_52, up_ne hM_45q (by omega), hs4M_39, up_ne hM_32q (by omega), hs4M_26]; exact hs
        case i_hl =>
          rw [up_ne hM_70q (by omega), hs5M_65, up_ne hM_58q (by omega), hs5M_52, up_ne hM_45q (by omega), hs5M_39, up_ne hM_32q (by omega), hs5M_26, hl, hz71q, show 4 * (x3q + 1).toNat = 4 * x3q.toNat + 4 by omega]; rfl
        case i_ha =>
          have l1 : z26q = bUsh (LSQ seed (4 * x3q.toNat + 1)) 16 := by rw [hxM_26, hl]; rfl
          have l2 : z39q = bUsh (LSQ seed (4 * x3q.toNat + 2)) 16 := by rw [hxM_39, up_ne hM_32q (by omega), hs5M_26, hl]; rfl
          have l3 : z52q = bUsh (LSQ seed (4 * x3q.toNat + 3)) 16 := by rw [hxM_52, up_ne hM_45q (by omega), hs5M_39, up_ne hM_32q (by omega), hs5M_26, hl]; rfl
          have l4 : z65q = bUsh (LSQ seed (4 * x3q.toNat + 4)) 16 := by rw [hxM_65, up_ne hM_58q (by omega), hs5M_52, up_ne hM_45q (by omega), hs5M_39, up_ne hM_32q (by omega), hs5M_26, hl]; rfl
          rw [hz71q]
          refine all_s (P := fun i => M_70q 11 i = bUsh (LSQ seed (4 * i + 1)) 16 % 24 ∧ M_70q 12 i = bUsh (LSQ seed (4 * i + 2)) 16 % 8 ∧ M_70q 13 i = bUsh (LSQ seed (4 * i + 3)) 16 % 10 ∧ M_70q 14 i = bUsh (LSQ seed (4 * i + 4)) 16 % 3) h0q.1 (fun i hi => ?_) ?_
          · have q := ha i hi
            refine ⟨?_, ?_, ?_, ?_⟩
            · rw [up_ne hM_70q (by omega), hfrM_65 11 (by decide), up_ne hM_58q (by omega), hfrM_52 11 (by decide), up_ne hM_45q (by omega), hfrM_39 11 (by decide), up_ne hM_32q (by omega), hfrM_26 11 (by decide)]; exact q.1
            · rw [up_ne hM_70q (by omega), hfrM_65 12 (by decide), up_ne hM_58q (by omega), hfrM_52 12 (by decide), up_ne hM_45q (by omega), hfrM_39 12 (by decide), up_ne hM_32q (by omega), hfrM_26 12 (by decide)]; exact q.2.1
            · rw [up_ne hM_70q (by omega), hfrM_65 13 (by decide), up_ne hM_58q (by omega), hfrM_52 13 (by decide), up_ne hM_45q (by omega), hfrM_39 13 (by decide), up_ne hM_32q (by omega), hfrM_26 13 (by decide)]; exact q.2.2.1
            · rw [up_ne hM_70q (by omega), hfrM_65 14 (by decide), up_ne hM_58q (by omega), hfrM_52 14 (by decide), up_ne hM_45q (by omega), hfrM_39 14 (by decide), up_ne hM_32q (by omega), hfrM_26 14 (by decide)]; exact q.2.2.2
          · refine ⟨?_, ?_, ?_, ?_⟩
            · rw [up_ne hM_70q (by omega), hfrM_65 11 (by decide), up_ne hM_58q (by omega), hfrM_52 11 (by decide), up_ne hM_45q (by omega), hfrM_39 11 (by decide), up_eq hM_32q, hz31q, l1]
            · rw [up_ne hM_70q (by omega), hfrM_65 12 (by decide), up_ne hM_58q (by omega), hfrM_52 12 (by decide), up_eq hM_45q, hz44q, l2]
            · rw [up_ne hM_70q (by omega), hfrM_65 13 (by decide), up_eq hM_58q, hz57q, l3]
            · rw [up_eq hM_70q, hz69q, l4]
        case i_m =>
          omega
  refine aw_sub [1, 2, 3, 0] rfl ?_
  refine lp12q _ _ _  ?i_h0 ?i_hf ?i_hs ?i_hl ?i_ha (Nat.lt_succ_self _)
  case i_h0 =>
    omega
  case i_hf =>
    exact (FR.rf.put hM_2q (by decide)).put hM_7q (by decide)
  case i_hs =>
    exact up_eq hM_7q
  case i_hl =>
    rw [up_ne hM_7q (by omega), up_eq hM_2q]; rfl
  case i_ha =>
    exact all_0
set_option maxHeartbeats 4000000 in
set_option maxRecDepth 100000 in
theorem ct_X4_together (tl : List CD) (M : Mem) (bits : Int) (hb : 0 ≤ bits ∧ bits < 2147483648) : Ct 2 mX4_together (LB ++ tl) [aR 5, aI bits] M (fun r M1 => M = M1 ∧ ∃ x, r = some (aI x) ∧ (x = 0 ∨ x = 1) ∧ (x = 1 ↔ ∀ a, a < (M 5 4).toNat → ∀ b, b < a → ¬ (BT bits a ∧ BT bits b ∧ AP (M 8) (M 7) (M 6) a b))) := by
  refine Ct.of (own := RX4) rfl (by decide +kernel) (Nat.le_of_ble_eq_true rfl) (fun X cx rt => ?_)
  refine aw_eq (loc2 := [(0, aR 5), (1, aI bits)]) ?_ rfl rfl rfl rfl
  refine aw_rngL 1 rfl (fun rl_bits rh_bits => ?_)
  refine aw_ok (fun om => ?_)
  have hsz : 0 ≤ M 5 4 ∧ M 5 4 ≤ 12 := okF om (lb_5 tl) (j := 4) rfl (show (0 : Nat) ≠ 1 by decide)
  refine aw_iconst (n := 0) cx dX4_together_0 (by decide) ?_
  refine aw_istore_n (loc2 := [(2, aI 0), (0, aR 5), (1, aI bits)]) cx dX4_together_1 rfl (by decide) rfl ?_
  have lp2q : ∀ (fu : Nat) (x2q : Int), (0 ≤ x2q ∧ x2q ≤ M 5 4) → (∀ a, a < x2q.toNat → ∀ b, b < a → ¬ (BT bits a ∧ BT bits b ∧ AP (M 8) (M 7) (M 6) a b)) → ((M 5 4 - x2q).toNat) < fu → AW X (LB ++ tl) 4 2 [(0, aR 5), (1, aI bits), (2, aI x2q)] [] M := by
    intro fu
    induction fu with
    | zero =>
      intro x2q h0q ha hm
      exact absurd hm (Nat.not_lt_zero _)
    | succ fu ih2q =>
      intro x2q h0q ha hm
      refine aw_iload_n cx dX4_together_2 rfl 2 rfl ?_
      refine aw_aload_n cx dX4_together_3 rfl 0 rfl ?_
      refine aw_getI cx dX4_together_4 fl_X4_24 (lb_5 tl) rfl (fun z4q hz4q lo_z4q hi_z4q => ?_)
      refine aw_icmp_ge (tgt := 53) cx dX4_together_7 (by decide) (fun c7q => ?_) (fun c7q => ?_)
      · refine aw_iconst (n := 1) cx dX4_together_53 (by decide) ?_
        refine aw_zret cx rt dX4_together_54 (by decide) ?_
        exact ⟨rfl, 1, rfl, Or.inr rfl, ⟨fun _ a ha1 => ha a (by omega), fun _ => rfl⟩⟩
      · refine aw_iconst (n := 0) cx dX4_together_10 (by decide) ?_
        refine aw_istore_n (loc2 := [(3, aI 0), (0, aR 5), (1, aI bits), (2, aI x2q)]) cx dX4_together_11 rfl (by decide) rfl ?_
        have lp12q : ∀ (fu : Nat) (x3q : Int), (0 ≤ x3q ∧ x3q ≤ x2q) → (∀ b, b < x3q.toNat → ¬ (BT bits x2q.toNat ∧ BT bits b ∧ AP (M 8) (M 7) (M 6) x2q.toNat b)) → ((x2q - x3q).toNat) < fu → AW X (LB ++ tl) 4 12 [(0, aR 5), (1, aI bits), (2, aI x2q), (3, aI x3q)] [] M := by
          intro fu
          induction fu with
          | zero =>
            intro x3q h1q hi hm
            exact absurd hm (Nat.not_lt_zero _)
          | succ fu ih12q =>
            intro x3q h1q hi hm
            refine aw_iload_n cx dX4_together_12 rfl 3 rfl ?_
            refine aw_iload_n cx dX4_together_13 rfl 2 rfl ?_
            refine aw_icmp_ge (tgt := 47) cx dX4_together_14 (by decide) (fun c14q => ?_) (fun c14q => ?_)
            · refine aw_iinc cx dX4_together_47 2 rfl (by decide) (by omega) (fun z47q hz47q => ?_)
              refine aw_loc (loc2 := [(2, aI z47q), (0, aR 5), (1, aI bits), (3, aI x3q)]) rfl ?_
              refine aw_goto (tgt := 2) cx dX4_together_50 (by decide) ?_
              refine aw_sub [1, 2, 0] rfl ?_
              refine ih2q _  ?i_h0 ?i_ha ?i_m
              case i_h0 =>
                omega
              case i_ha =>
                rw [hz47q]; exact all_s h0q.1 ha (fun b hb2 => hi b (by omega))
              case i_m =>
                omega
            · refine aw_iload_n cx dX4_together_17 rfl 1 rfl ?_
              refine aw_iload_n cx dX4_together_18 rfl 2 rfl ?_
              refine aw_ishr cx dX4_together_19 (fun z19q hz19q => ?_)
              refine aw_iload_n cx dX4_together_20 rfl 1 rfl ?_
              refine aw_iload_n cx dX4_together_21 rfl 3 rfl ?_
              refine aw_ishr cx dX4_together_22 (fun z22q hz22q => ?_)
              refine aw_iand cx dX4_together_23 (fun z23q hz23q => ?_)
              refine aw_iconst (n := 1) cx dX4_together_24 (by decide) ?_
              refine aw_iand cx dX4_together_25 (fun z25q hz25q => ?_)
              have hv25 : z25q = b2 (BT bits x2q.toNat ∧ BT bits x3q.toNat) := by rw [hz25q, hz23q, hz22q, hz19q]; exact isbit2 hb (by omega) (by omega)
              refine aw_iconst (n := 1) cx dX4_together_26 (by decide) ?_
              refine aw_icmp_ne (tgt := 41) cx dX4_together_27 (by decide) (fun c27q => ?_) (fun c27q => ?_)
              · refine aw_iinc cx dX4_together_41 3 rfl (by decide) (by omega) (fun z41q hz41q => ?_)
                refine aw_loc (loc2 := [(3, aI z41q), (0, aR 5), (1, aI bits), (2, aI x2q)]) rfl ?_
                refine aw_goto (tgt := 12) cx dX4_together_44 (by decide) ?_
                refine aw_sub [1, 2, 3, 0] rfl ?_
                refine ih12q _  ?i_h1 ?i_hi ?i_m
                case i_h1 =>
                  omega
                case i_hi =>
                  rw [hz41q]; exact all_s h1q.1 hi (by rintro ⟨q1q, q2q, q3q⟩; rw [b2_t ⟨q1q, q2q⟩] at hv25; omega)
                case i_m =>
                  omega
              · refine aw_aload_n cx dX4_together_30 rfl 0 rfl ?_
                refine aw_iload_n cx dX4_together_31 rfl 2 rfl ?_
                refine aw_iload_n cx dX4_together_32 rfl 3 rfl ?_
                refine aw_callV (as := [aI x2q, aI x3q]) (k := 5) (stk := []) cx dX4_together_33 ml_X4_60 mv_X4_apart rfl (lb_5 tl) (by decide) rfl rfl (Nat.le_of_ble_eq_true rfl) (ct_X4_apart tl M 5 _ _ (Or.inl rfl) (by first | assumption | omega) (by first | assumption | omega)) (fun rr33q M_33q hp33q => ?_)
                obtain ⟨rfl, rfl⟩ := hp33q
                refine aw_top (stk := []) (fun z33q hz33q => ?_)
                have hz33q : z33q = b2 (AP (M 8) (M 7) (M 6) x2q.toNat x3q.toNat) := hz33q
                refine aw_if_eq (tgt := 41) cx dX4_together_36 (by decide) (fun c36q => ?_) (fun c36q => ?_)
                · refine aw_iinc cx dX4_together_41 3 rfl (by decide) (by omega) (fun z41q hz41q => ?_)
                  refine aw_loc (loc2 := [(3, aI z41q), (0, aR 5), (1, aI bits), (2, aI x2q)]) rfl ?_
                  refine aw_goto (tgt := 12) cx dX4_together_44 (by decide) ?_
                  refine aw_sub [1, 2, 3, 0] rfl ?_
                  refine ih12q _  ?i_h1 ?i_hi ?i_m
                  case i_h1 =>
                    omega
                  case i_hi =>
                    rw [hz41q]; exact all_s h1q.1 hi (by rintro ⟨q1q, q2q, q3q⟩; rw [b2_t q3q] at hz33q; omega)
                  case i_m =>
                    omega
                · refine aw_iconst (n := 0) cx dX4_together_39 (by decide) ?_
                  refine aw_zret cx rt dX4_together_40 (by decide) ?_
                  refine ⟨rfl, 0, rfl, Or.inl rfl, ⟨fun q => absurd q (by decide), fun q => ?_⟩⟩
                  have g := b2_e1.mp (show b2 (BT bits x2q.toNat ∧ BT bits x3q.toNat) = 1 by omega)
                  have g2 := b2_e1.mp (show b2 (AP (M 8) (M 7) (M 6) x2q.toNat x3q.toNat) = 1 by have := b2_in (AP (M 8) (M 7) (M 6) x2q.toNat x3q.toNat); omega)
                  exact absurd ⟨g.1, g.2, g2⟩ (q x2q.toNat (by omega) x3q.toNat (by omega))
        refine aw_sub [1, 2, 3, 0] rfl ?_
        refine lp12q _ _  ?i_h1 ?i_hi (Nat.lt_succ_self _)
        case i_h1 =>
          omega
        case i_hi =>
          exact all_0
  refine aw_sub [1, 2, 0] rfl ?_
  refine lp2q _ _  ?i_h0 ?i_ha (Nat.lt_succ_self _)
  case i_h0 =>
    omega
  case i_ha =>
    exact all_0
set_option maxHeartbeats 4000000 in
set_option maxRecDepth 100000 in
theorem ct_X1_takeFrom (tl : List CD) (M : Mem)  : Ct 3 mX1_takeFrom (LB ++ tl) [aR 15, aR 3] M (fun r M1 => r = none ∧ FR [15, 16, 17] M M1 ∧ CHAR (M 3 2).toNat (M 4) (M1 15 2) (M1 16) (M1 17)) := by
  refine Ct.of (own := RX1) rfl (by decide +kernel) (Nat.le_of_ble_eq_true rfl) (fun X cx rt => ?_)
  refine aw_eq (loc2 := [(0, aR 15), (1, aR 3)]) ?_ rfl rfl rfl rfl
  refine aw_ok (fun om => ?_)
  have hn : 0 ≤ M 3 2 ∧ M 3 2 ≤ 23 := okF om (lb_3 tl) (j := 2) rfl (show (0 : Nat) ≠ 1 by decide)
  refine aw_aload_n cx dX1_takeFrom_0 rfl 0 rfl ?_
  refine aw_aload_n cx dX1_takeFrom_1 rfl 1 rfl ?_
  refine aw_callV (as := []) (k := 3) (stk := [aR 15]) cx dX1_takeFrom_2 ml_X1_22 mv_X5_hasFault rfl (lb_3 tl) (by decide) rfl rfl (Nat.le_of_ble_eq_true rfl) (ct_X5_hasFault_c tl M  ) (fun rr2q M_2q hp2q => ?_)
  obtain ⟨rfl, z2q, rfl, hnfz2⟩ := hp2q
  refine aw_eq (stk2 := [aI z2q, aR 15]) ?_ rfl rfl rfl rfl
  refine aw_if_eq (tgt := 12) cx dX1_takeFrom_5 (by decide) (fun c5q => ?_) (fun c5q => ?_)
  · refine aw_bipush (n := 8) cx dX1_takeFrom_12 (by decide) ?_
    refine aw_aload_n cx dX1_takeFrom_14 rfl 1 rfl ?_
    refine aw_getI cx dX1_takeFrom_15 fl_X1_28 (lb_3 tl) rfl (fun z15q hz15q lo_z15q hi_z15q => ?_)
    refine aw_iconst (n := 1) cx dX1_takeFrom_18 (by decide) ?_
    refine aw_iadd cx dX1_takeFrom_19 (by omega) (fun z19q hz19q => ?_)
    refine aw_iconst (n := 3) cx dX1_takeFrom_20 (by decide) ?_
    refine aw_idiv cx dX1_takeFrom_21 (by omega) (by omega) (fun z21q hz21q => ?_)
    refine aw_mmin (stk := [aR 15]) cx dX1_takeFrom_22 ml_X1_29 (by decide) (Nat.le_of_ble_eq_true rfl) (fun z22q hz22q => ?_)
    refine aw_putI cx dX1_takeFrom_25 fl_X1_18 kt_X1 rfl rfl (lb_15 tl) rfl (⟨by omega, by omega⟩) ?_
    obtain ⟨M_25q, hM_25q⟩ : ∃ q, q = up M 15 2 z22q := ⟨_, rfl⟩
    rw [← hM_25q]
    obtain ⟨sz, hsz⟩ : ∃ q, q = M_25q 15 2 := ⟨_, rfl⟩
    have hsz2 := up_eq hM_25q
    refine aw_iconst (n := 0) cx dX1_takeFrom_28 (by decide) ?_
    refine aw_istore_n (loc2 := [(2, aI 0), (0, aR 15), (1, aR 3)]) cx dX1_takeFrom_29 rfl (by decide) rfl ?_
    have lp30q : ∀ (fu : Nat) (x2q : Int) (N30q : Mem), (0 ≤ x2q ∧ x2q ≤ sz) → (FR [15, 16, 17] M N30q) → (N30q 15 2 = sz) → (0 < sz → NF 3 (M 3 2).toNat (M 4) ∧ sz = ((((M 3 2).toNat + 1) / 3 : Nat) : Int)) → (¬ NF 3 (M 3 2).toNat (M 4) → sz = 0) → (NF 3 (M 3 2).toNat (M 4) → sz = ((((M 3 2).toNat + 1) / 3 : Nat) : Int)) → (∀ i : Nat, i < x2q.toNat → N30q 16 i = M 4 (3 * i) - 97 ∧ N30q 17 i = M 4 (3 * i + 1) - 48) → ((sz - x2q).toNat) < fu → AW X (LB ++ tl) 3 30 [(0, aR 15), (1, aR 3), (2, aI x2q)] [] N30q := by
      intro fu
      induction fu with
      | zero =>
        intro x2q N30q h0q hf hs hq hz hy ha hm
        exact absurd hm (Nat.not_lt_zero _)
      | succ fu ih30q =>
        intro x2q N30q h0q hf hs hq hz hy ha hm
        have e2q := congrFun (hf 4 (by decide))
        have e1q := congrFun (hf 3 (by decide)) 2
        refine aw_iload_n cx dX1_takeFrom_30 rfl 2 rfl ?_
        refine aw_aload_n cx dX1_takeFrom_31 rfl 0 rfl ?_
        refine aw_getI cx dX1_takeFrom_32 fl_X1_18 (lb_15 tl) rfl (fun z32q hz32q lo_z32q hi_z32q => ?_)
        refine aw_icmp_ge (tgt := 80) cx dX1_takeFrom_35 (by decide) (fun c35q => ?_) (fun c35q => ?_)
        · refine aw_vret cx rt dX1_takeFrom_80 ?_
          exact ⟨rfl, hf, ⟨fun q => by rw [hs]; exact hy q, fun q => by rw [hs]; exact hz q, fun i hi => ha i (by omega)⟩⟩
        · have hf3 := fit3 (hq (by omega)).1.1 (i := x2q.toNat) (by have q5q := (hq (by omega)).2; omega)
          have hj := (hq (by omega)).2
          refine aw_aload_n cx dX1_takeFrom_38 rfl 0 rfl ?_
          refine aw_getR (q := 16) cx dX1_takeFrom_39 fl_X1_9 (lb_15 tl) rfl rfl ?_
          refine aw_iload_n cx dX1_takeFrom_42 rfl 2 rfl ?_
          refine aw_aload_n cx dX1_takeFrom_43 rfl 1 rfl ?_
          refine aw_getR (q := 4) cx dX1_takeFrom_44 fl_X1_35 (lb_3 tl) rfl rfl ?_
          refine aw_iload_n cx dX1_takeFrom_47 rfl 2 rfl ?_
          refine aw_iconst (n := 3) cx dX1_takeFrom_48 (by decide) ?_
          refine aw_imul cx dX1_takeFrom_49 (by omega) (fun z49q hz49q => ?_)
          refine aw_iald cx dX1_takeFrom_50 (lb_4 tl) (⟨by omega, by omega⟩) (fun z50q hz50q lo_z50q hi_z50q => ?_)
          have hv50 : z50q = M 4 (3 * x2q.toNat) := by rw [hz50q, show z49q.toNat = 3 * x2q.toNat by omega]; exact e2q _
          refine aw_bipush (n := 97) cx dX1_takeFrom_51 (by decide) ?_
          refine aw_isub cx dX1_takeFrom_53 (by omega) (fun z53q hz53q => ?_)
          refine aw_iast cx dX1_takeFrom_54 (lb_16 tl) (⟨by omega, by omega⟩) (⟨by omega, by omega⟩) ?_
          obtain ⟨M_54q, hM_54q⟩ : ∃ q, q = up N30q 16 (Int.toNat (x2q)) (z53q) := ⟨_, rfl⟩
          rw [← hM_54q]
          refine aw_aload_n cx dX1_takeFrom_55 rfl 0 rfl ?_
          refine aw_getR (q := 17) cx dX1_takeFrom_56 fl_X1_15 (lb_15 tl) rfl rfl ?_
          refine aw_iload_n cx dX1_takeFrom_59 rfl 2 rfl ?_
          refine aw_aload_n cx dX1_takeFrom_60 rfl 1 rfl ?_
          refine aw_getR (q := 4) cx dX1_takeFrom_61 fl_X1_35 (lb_3 tl) rfl rfl ?_
          refine aw_iload_n cx dX1_takeFrom_64 rfl 2 rfl ?_
          refine aw_iconst (n := 3) cx dX1_takeFrom_65 (by decide) ?_
          refine aw_imul cx dX1_takeFrom_66 (by omega) (fun z66q hz66q => ?_)
          refine aw_iconst (n := 1) cx dX1_takeFrom_67 (by decide) ?_
          refine aw_iadd cx dX1_takeFrom_68 (by omega) (fun z68q hz68q => ?_)
          refine aw_iald cx dX1_takeFrom_69 (lb_4 tl) (⟨by omega, by omega⟩) (fun z69q hz69q lo_z69q hi_z69q => ?_)
          have hv69 : z69q = M 4 (3 * x2q.toNat + 1) := by rw [hz69q, show z68q.toNat = 3 * x2q.toNat + 1 by omega]; rw [up_ne hM_54q (by omega)]; exact e2q _
          refine aw_bipush (n := 48) cx dX1_takeFrom_70 (by decide) ?_
          refine aw_isub cx dX1_takeFrom_72 (by omega) (fun z72q hz72q => ?_)
          refine aw_iast cx dX1_takeFrom_73 (lb_17 tl) (⟨by omega, by omega⟩) (⟨by omega, by omega⟩) ?_
          obtain ⟨M_73q, hM_73q⟩ : ∃ q, q = up M_54q 17 (Int.toNat (x2q)) (z72q) := ⟨_, rfl⟩
          rw [← hM_73q]
          refine aw_iinc cx dX1_takeFrom_74 2 rfl (by decide) (by omega) (fun z74q hz74q => ?_)
          refine aw_loc (loc2 := [(2, aI z74q), (0, aR 15), (1, aR 3)]) rfl ?_
          refine aw_goto (tgt := 30) cx dX1_takeFrom_77 (by decide) ?_
          refine aw_sub [1, 2, 0] rfl ?_
          refine ih30q _ _  ?i_h0 ?i_hf ?i_hs ?i_hq ?i_hz ?i_hy ?i_ha ?i_m
          case i_h0 =>
            omega
          case i_hf =>
            exact (hf.put hM_54q (by decide)).put hM_73q (by decide)
          case i_hs =>
            rw [up_ne hM_73q (by omega), up_ne hM_54q (by omega)]; exact hs
          case i_hq =>
            exact hq
          case i_hz =>
            exact hz
          case i_hy =>
            exact hy
          case i_ha =>
            rw [hz74q]; refine all_s (P := fun i => M_73q 16 i = M 4 (3 * i) - 97 ∧ M_73q 17 i = M 4 (3 * i + 1) - 48) h0q.1 (fun i hi => ?_) ?_
            · have q := ha i hi
              refine ⟨?_, ?_⟩
              · rw [up_ne hM_73q (by omega), up_ne hM_54q (by omega)]; exact q.1
              · rw [up_ne hM_73q (by omega), up_ne hM_54q (by omega)]; exact q.2
            · refine ⟨?_, ?_⟩
              · rw [up_ne hM_73q (by omega), up_eq hM_54q]; omega
              · rw [up_eq hM_73q]; omega
          case i_m =>
            omega
    refine aw_sub [1, 2, 0] rfl ?_
    refine lp30q _ _ _  ?i_h0 ?i_hf ?i_hs ?i_hq ?i_hz ?i_hy ?i_ha (Nat.lt_succ_self _)
    case i_h0 =>
      omega
    case i_hf =>
      exact FR.rf.put hM_25q (by decide)
    case i_hs =>
      omega
    case i_hq =>
      intro q; first | omega | exact ⟨hnfz2.mp (by omega), by omega⟩
    case i_hz =>
      intro q; first | omega | exact absurd (hnfz2.mp (by omega)) q
    case i_hy =>
      intro q; have q2q := hnfz2.mpr q; omega
    case i_ha =>
      exact all_0
  · refine aw_iconst (n := 0) cx dX1_takeFrom_8 (by decide) ?_
    refine aw_goto (tgt := 25) cx dX1_takeFrom_9 (by decide) ?_
    refine aw_putI cx dX1_takeFrom_25 fl_X1_18 kt_X1 rfl rfl (lb_15 tl) rfl (⟨by omega, by omega⟩) ?_
    obtain ⟨M_25q, hM_25q⟩ : ∃ q, q = up M 15 2 0 := ⟨_, rfl⟩
    rw [← hM_25q]
    obtain ⟨sz, hsz⟩ : ∃ q, q = M_25q 15 2 := ⟨_, rfl⟩
    have hsz2 := up_eq hM_25q
    refine aw_iconst (n := 0) cx dX1_takeFrom_28 (by decide) ?_
    refine aw_istore_n (loc2 := [(2, aI 0), (0, aR 15), (1, aR 3)]) cx dX1_takeFrom_29 rfl (by decide) rfl ?_
    have lp30q : ∀ (fu : Nat) (x2q : Int) (N30q : Mem), (0 ≤ x2q ∧ x2q ≤ sz) → (FR [15, 16, 17] M N30q) → (N30q 15 2 = sz) → (0 < sz → NF 3 (M 3 2).toNat (M 4) ∧ sz = ((((M 3 2).toNat + 1) / 3 : Nat) : Int)) → (¬ NF 3 (M 3 2).toNat (M 4) → sz = 0) → (NF 3 (M 3 2).toNat (M 4) → sz = ((((M 3 2).toNat + 1) / 3 : Nat) : Int)) → (∀ i : Nat, i < x2q.toNat → N30q 16 i = M 4 (3 * i) - 97 ∧ N30q 17 i = M 4 (3 * i + 1) - 48) → ((sz - x2q).toNat) < fu → AW X (LB ++ tl) 3 30 [(0, aR 15), (1, aR 3), (2, aI x2q)] [] N30q := by
      intro fu
      induction fu with
      | zero =>
        intro x2q N30q h0q hf hs hq hz hy ha hm
        exact absurd hm (Nat.not_lt_zero _)
      | succ fu ih30q =>
        intro x2q N30q h0q hf hs hq hz hy ha hm
        have e2q := congrFun (hf 4 (by decide))
        have e1q := congrFun (hf 3 (by decide)) 2
        refine aw_iload_n cx dX1_takeFrom_30 rfl 2 rfl ?_
        refine aw_aload_n cx dX1_takeFrom_31 rfl 0 rfl ?_
        refine aw_getI cx dX1_takeFrom_32 fl_X1_18 (lb_15 tl) rfl (fun z32q hz32q lo_z32q hi_z32q => ?_)
        refine aw_icmp_ge (tgt := 80) cx dX1_takeFrom_35 (by decide) (fun c35q => ?_) (fun c35q => ?_)
        · refine aw_vret cx rt dX1_takeFrom_80 ?_
          exact ⟨rfl, hf, ⟨fun q => by rw [hs]; exact hy q, fun q => by rw [hs]; exact hz q, fun i hi => ha i (by omega)⟩⟩
        · have hf3 := fit3 (hq (by omega)).1.1 (i := x2q.toNat) (by have q5q := (hq (by omega)).2; omega)
          have hj := (hq (by omega)).2
          refine aw_aload_n cx dX1_takeFrom_38 rfl 0 rfl ?_
          refine aw_getR (q := 16) cx dX1_takeFrom_39 fl_X1_9 (lb_15 tl) rfl rfl ?_
          refine aw_iload_n cx dX1_takeFrom_42 rfl 2 rfl ?_
          refine aw_aload_n cx dX1_takeFrom_43 rfl 1 rfl ?_
          refine aw_getR (q := 4) cx dX1_takeFrom_44 fl_X1_35 (lb_3 tl) rfl rfl ?_
          refine aw_iload_n cx dX1_takeFrom_47 rfl 2 rfl ?_
          refine aw_iconst (n := 3) cx dX1_takeFrom_48 (by decide) ?_
          refine aw_imul cx dX1_takeFrom_49 (by omega) (fun z49q hz49q => ?_)
          refine aw_iald cx dX1_takeFrom_50 (lb_4 tl) (⟨by omega, by omega⟩) (fun z50q hz50q lo_z50q hi_z50q => ?_)
          have hv50 : z50q = M 4 (3 * x2q.toNat) := by rw [hz50q, show z49q.toNat = 3 * x2q.toNat by omega]; exact e2q _
          refine aw_bipush (n := 97) cx dX1_takeFrom_51 (by decide) ?_
          refine aw_isub cx dX1_takeFrom_53 (by omega) (fun z53q hz53q => ?_)
          refine aw_iast cx dX1_takeFrom_54 (lb_16 tl) (⟨by omega, by omega⟩) (⟨by omega, by omega⟩) ?_
          obtain ⟨M_54q, hM_54q⟩ : ∃ q, q = up N30q 16 (Int.toNat (x2q)) (z53q) := ⟨_, rfl⟩
          rw [← hM_54q]
          refine aw_aload_n cx dX1_takeFrom_55 rfl 0 rfl ?_
          refine aw_getR (q := 17) cx dX1_takeFrom_56 fl_X1_15 (lb_15 tl) rfl rfl ?_
          refine aw_iload_n cx dX1_takeFrom_59 rfl 2 rfl ?_
          refine aw_aload_n cx dX1_takeFrom_60 rfl 1 rfl ?_
          refine aw_getR (q := 4) cx dX1_takeFrom_61 fl_X1_35 (lb_3 tl) rfl rfl ?_
          refine aw_iload_n cx dX1_takeFrom_64 rfl 2 rfl ?_
          refine aw_iconst (n := 3) cx dX1_takeFrom_65 (by decide) ?_
          refine aw_imul cx dX1_takeFrom_66 (by omega) (fun z66q hz66q => ?_)
          refine aw_iconst (n := 1) cx dX1_takeFrom_67 (by decide) ?_
          refine aw_iadd cx dX1_takeFrom_68 (by omega) (fun z68q hz68q => ?_)
          refine aw_iald cx dX1_takeFrom_69 (lb_4 tl) (⟨by omega, by omega⟩) (fun z69q hz69q lo_z69q hi_z69q => ?_)
          have hv69 : z69q = M 4 (3 * x2q.toNat + 1) := by rw [hz69q, show z68q.toNat = 3 * x2q.toNat + 1 by omega]; rw [up_ne hM_54q (by omega)]; exact e2q _
          refine aw_bipush (n := 48) cx dX1_takeFrom_70 (by decide) ?_
          refine aw_isub cx dX1_takeFrom_72 (by omega) (fun z72q hz72q => ?_)
          refine aw_iast cx dX1_takeFrom_73 (lb_17 tl) (⟨by omega, by omega⟩) (⟨by omega, by omega⟩) ?_
          obtain ⟨M_73q, hM_73q⟩ : ∃ q, q = up M_54q 17 (Int.toNat (x2q)) (z72q) := ⟨_, rfl⟩
          rw [← hM_73q]
          refine aw_iinc cx dX1_takeFrom_74 2 rfl (by decide) (by omega) (fun z74q hz74q => ?_)
          refine aw_loc (loc2 := [(2, aI z74q), (0, aR 15), (1, aR 3)]) rfl ?_
          refine aw_goto (tgt := 30) cx dX1_takeFrom_77 (by decide) ?_
          refine aw_sub [1, 2, 0] rfl ?_
          refine ih30q _ _  ?i_h0 ?i_hf ?i_hs ?i_hq ?i_hz ?i_hy ?i_ha ?i_m
          case i_h0 =>
            omega
          case i_hf =>
            exact (hf.put hM_54q (by decide)).put hM_73q (by decide)
          case i_hs =>
            rw [up_ne hM_73q (by omega), up_ne hM_54q (by omega)]; exact hs
          case i_hq =>
            exact hq
          case i_hz =>
            exact hz
          case i_hy =>
            exact hy
          case i_ha =>
            rw [hz74q]; refine all_s (P := fun i => M_73q 16 i = M 4 (3 * i) - 97 ∧ M_73q 17 i = M 4 (3 * i + 1) - 48) h0q.1 (fun i hi => ?_) ?_
            · have q := ha i hi
              refine ⟨?_, ?_⟩
              · rw [up_ne hM_73q (by omega), up_ne hM_54q (by omega)]; exact q.1
              · rw [up_ne hM_73q (by omega), up_ne hM_54q (by omega)]; exact q.2
            · refine ⟨?_, ?_⟩
              · rw [up_ne hM_73q (by omega), up_eq hM_54q]; omega
              · rw [up_eq hM_73q]; omega
          case i_m =>
            omega
    refine aw_sub [1, 2, 0] rfl ?_
    refine lp30q _ _ _  ?i_h0 ?i_hf ?i_hs ?i_hq ?i_hz ?i_hy ?i_ha (Nat.lt_succ_self _)
    case i_h0 =>
      omega
    case i_hf =>
      exact FR.rf.put hM_25q (by decide)
    case i_hs =>
      omega
    case i_hq =>
      intro q; first | omega | exact ⟨hnfz2.mp (by omega), by omega⟩
    case i_hz =>
      intro q; first | omega | exact absurd (hnfz2.mp (by omega)) q
    case i_hy =>
      intro q; have q2q := hnfz2.mpr q; omega
    case i_ha =>
      exact all_0
set_option maxHeartbeats 4000000 in
set_option maxRecDepth 100000 in
theorem ct_X2_all (tl : List CD) (M : Mem)  : Ct 0 mX2_all (LB ++ tl) [aR 18] M (fun r M1 => M = M1 ∧ r = some (aI (bShl 1 (M 18 3) - 1))) := by
  refine Ct.of (own := RX2) rfl (by decide +kernel) (Nat.le_of_ble_eq_true rfl) (fun X cx rt => ?_)
  refine aw_eq (loc2 := [(0, aR 18)]) ?_ rfl rfl rfl rfl
  refine aw_ok (fun om => ?_)
  have hse : 0 ≤ M 18 3 ∧ M 18 3 ≤ 8 := okF om (lb_18 tl) (j := 3) rfl (show (0 : Nat) ≠ 1 by decide)
  have hal := all_bits hse
  refine aw_iconst (n := 1) cx dX2_all_0 (by decide) ?_
  refine aw_aload_n cx dX2_all_1 rfl 0 rfl ?_
  refine aw_getI cx dX2_all_2 fl_X2_21 (lb_18 tl) rfl (fun z2q hz2q lo_z2q hi_z2q => ?_)
  refine aw_ishl cx dX2_all_5 (fun z5q hz5q => ?_)
  rw [hz2q] at hz5q
  refine aw_iconst (n := 1) cx dX2_all_6 (by decide) ?_
  refine aw_isub cx dX2_all_7 (by omega) (fun z7q hz7q => ?_)
  refine aw_iret cx rt dX2_all_8 ?_
  exact ⟨rfl, congrArg (fun q => some (aI q)) (by rw [hz7q, hz5q])⟩
