set_option maxHeartbeats 4000000 in
set_option maxRecDepth 100000 in
theorem ct_X6_textOf_0 (tl : List CD) (M : Mem)  : Ct 0 mX6_textOf (LB ++ tl) [aR 0, aI 0] M (fun r M1 => M = M1 ∧ r = some (aR 1)) := by
  refine Ct.of (own := RX6) rfl (by decide +kernel) (Nat.le_of_ble_eq_true rfl) (fun X cx rt => ?_)
  refine aw_eq (loc2 := [(0, aR 0), (1, aI 0)]) ?_ rfl rfl rfl rfl
  refine aw_iload_n cx dX6_textOf_0 rfl 1 rfl ?_
  refine aw_if_ne (tgt := 11) cx dX6_textOf_1 (by decide) (fun c1q => ?_) (fun c1q => ?_)
  · exact absurd c1q (by decide)
  · refine aw_aload_n cx dX6_textOf_4 rfl 0 rfl ?_
    refine aw_getR (q := 1) cx dX6_textOf_5 fl_X6_14 (lb_0 tl) rfl rfl ?_
    refine aw_goto (tgt := 15) cx dX6_textOf_8 (by decide) ?_
    refine aw_aret cx rt dX6_textOf_15 ?_
    exact ⟨rfl, rfl⟩
set_option maxHeartbeats 4000000 in
set_option maxRecDepth 100000 in
theorem ct_X6_textOf_1 (tl : List CD) (M : Mem)  : Ct 0 mX6_textOf (LB ++ tl) [aR 0, aI 1] M (fun r M1 => M = M1 ∧ r = some (aR 3)) := by
  refine Ct.of (own := RX6) rfl (by decide +kernel) (Nat.le_of_ble_eq_true rfl) (fun X cx rt => ?_)
  refine aw_eq (loc2 := [(0, aR 0), (1, aI 1)]) ?_ rfl rfl rfl rfl
  refine aw_iload_n cx dX6_textOf_0 rfl 1 rfl ?_
  refine aw_if_ne (tgt := 11) cx dX6_textOf_1 (by decide) (fun c1q => ?_) (fun c1q => ?_)
  · refine aw_aload_n cx dX6_textOf_11 rfl 0 rfl ?_
    refine aw_getR (q := 3) cx dX6_textOf_12 fl_X6_18 (lb_0 tl) rfl rfl ?_
    refine aw_aret cx rt dX6_textOf_15 ?_
    exact ⟨rfl, rfl⟩
  · exact absurd c1q (by decide)
set_option maxHeartbeats 4000000 in
set_option maxRecDepth 100000 in
theorem ct_X6_tellAnew (tl : List CD) (M : Mem)  : Ct 4 mX6_tellAnew (LB ++ tl) [aR 0] M (fun r M1 => r = none ∧ FR [5, 6, 7, 8, 9, 15, 16, 17] M M1 ∧ PAR M1) := by
  refine Ct.of (own := RX6) rfl (by decide +kernel) (Nat.le_of_ble_eq_true rfl) (fun X cx rt => ?_)
  refine aw_eq (loc2 := [(0, aR 0)]) ?_ rfl rfl rfl rfl
  refine aw_aload_n cx dX6_tellAnew_0 rfl 0 rfl ?_
  refine aw_getR (q := 5) cx dX6_tellAnew_1 fl_X6_24 (lb_0 tl) rfl rfl ?_
  refine aw_aload_n cx dX6_tellAnew_4 rfl 0 rfl ?_
  refine aw_getR (q := 1) cx dX6_tellAnew_5 fl_X6_14 (lb_0 tl) rfl rfl ?_
  refine aw_callV (as := [aR 1]) (k := 5) (stk := []) cx dX6_tellAnew_8 ml_X6_337 mv_X4_takeFrom rfl (lb_5 tl) (by decide) rfl rfl (Nat.le_of_ble_eq_true rfl) (ct_X4_takeFrom tl M  ) (fun rr8q M_8q hp8q => ?_)
  obtain ⟨rfl, hfrM_8, htdM_8, hlsM_8⟩ := hp8q
  refine aw_eq (stk2 := []) ?_ rfl rfl rfl rfl
  refine aw_aload_n cx dX6_tellAnew_11 rfl 0 rfl ?_
  refine aw_getR (q := 15) cx dX6_tellAnew_12 fl_X6_34 (lb_0 tl) rfl rfl ?_
  refine aw_aload_n cx dX6_tellAnew_15 rfl 0 rfl ?_
  refine aw_getR (q := 3) cx dX6_tellAnew_16 fl_X6_18 (lb_0 tl) rfl rfl ?_
  refine aw_callV (as := [aR 3]) (k := 15) (stk := []) cx dX6_tellAnew_19 ml_X6_341 mv_X1_takeFrom rfl (lb_15 tl) (by decide) rfl rfl (Nat.le_of_ble_eq_true rfl) (ct_X1_takeFrom tl M_8q  ) (fun rr19q M_19q hp19q => ?_)
  obtain ⟨rfl, hfrM_19, htdM_19⟩ := hp19q
  refine aw_eq (stk2 := []) ?_ rfl rfl rfl rfl
  refine aw_vret cx rt dX6_tellAnew_22 ?_
  refine ⟨rfl, (hfrM_8.mono (by decide)).tr hfrM_19 (by decide), ?_, ?_⟩
  · rw [hfrM_19 1 (by decide), hfrM_19 2 (by decide), hfrM_19 5 (by decide), hfrM_19 6 (by decide), hfrM_19 7 (by decide), hfrM_19 8 (by decide), hfrM_19 9 (by decide), hfrM_8 1 (by decide), hfrM_8 2 (by decide)]; exact htdM_8
  · rw [hfrM_19 3 (by decide), hfrM_19 4 (by decide)]; exact htdM_19
set_option maxHeartbeats 4000000 in
set_option maxRecDepth 100000 in
theorem ct_X6_hearAsTold (tl : List CD) (M : Mem)  : Ct 4 mX6_hearAsTold (LB ++ tl) [aR 0] M (fun r M1 => r = none ∧ FR [22, 23, 24, 25, 26] M M1 ∧ RUNf (-1) (fgT M) (M1 23) (M1 24) (M1 25) ∧ (∀ e, e < (M 18 3).toNat → M1 26 e = M 19 e) ∧ M1 22 6 = ((5 : Nat) : Int) ∧ M1 22 2 = sm (M1 23) (M 5 4).toNat) := by
  refine Ct.of (own := RX6) rfl (by decide +kernel) (Nat.le_of_ble_eq_true rfl) (fun X cx rt => ?_)
  refine aw_eq (loc2 := [(0, aR 0)]) ?_ rfl rfl rfl rfl
  refine aw_ok (fun om => ?_)
  have hse : 0 ≤ M 18 3 ∧ M 18 3 ≤ 8 := okF om (lb_18 tl) (j := 3) rfl (show (0 : Nat) ≠ 1 by decide)
  have hal := all_bits hse
  refine aw_aload_n cx dX6_hearAsTold_0 rfl 0 rfl ?_
  refine aw_getR (q := 22) cx dX6_hearAsTold_1 fl_X6_50 (lb_0 tl) rfl rfl ?_
  refine aw_aload_n cx dX6_hearAsTold_4 rfl 0 rfl ?_
  refine aw_getR (q := 5) cx dX6_hearAsTold_5 fl_X6_24 (lb_0 tl) rfl rfl ?_
  refine aw_aload_n cx dX6_hearAsTold_8 rfl 0 rfl ?_
  refine aw_getR (q := 18) cx dX6_hearAsTold_9 fl_X6_41 (lb_0 tl) rfl rfl ?_
  refine aw_callV (as := []) (k := 18) (stk := [aR 5, aR 22]) cx dX6_hearAsTold_12 ml_X6_175 mv_X2_all rfl (lb_18 tl) (by decide) rfl rfl (Nat.le_of_ble_eq_true rfl) (ct_X2_all tl M  ) (fun rr12q M_12q hp12q => ?_)
  obtain ⟨rfl, rfl⟩ := hp12q
  refine aw_top (stk := [aR 5, aR 22]) (fun z12q hz12q => ?_)
  refine aw_callV (as := [aR 5, aI z12q]) (k := 22) (stk := []) cx dX6_hearAsTold_15 ml_X6_342 mv_X0_hear rfl (lb_22 tl) (by decide) rfl rfl (Nat.le_of_ble_eq_true rfl) (ct_X0_hear tl M 5 _ (Or.inl rfl) (by omega)) (fun rr15q M_15q hp15q => ?_)
  obtain ⟨rfl, hfrM_15, hhdM_15⟩ := hp15q
  refine aw_eq (stk2 := []) ?_ rfl rfl rfl rfl
  refine aw_ok (fun om6 => ?_)
  have h01q : ∀ i, M_15q 23 i = 0 ∨ M_15q 23 i = 1 := fun i => by have := okA om6 (lb_23 tl) i; omega
  have hr := HEARD_run (Or.inl rfl) hfrM_15 hhdM_15 h01q
  refine aw_vret cx rt dX6_hearAsTold_18 ?_
  exact ⟨rfl, hfrM_15, RUN_eq (F := fgH M 5 z12q) (by rw [hz12q]; exact fgH_all hse) hr.1, fun e he => by have := hr.2.1 e he; unfold KEF at this; rw [if_pos (by rw [hz12q]; exact (hal.2.2 e).mpr he)] at this; exact this, hr.2.2.2, hr.2.2.1⟩
set_option maxHeartbeats 4000000 in
set_option maxRecDepth 100000 in
theorem ct_X6_clearedBits (tl : List CD) (M : Mem) (tk : Nat) (held : Int) (htk : TK tk) (hh : 0 ≤ held ∧ held < 2147483648) : Ct 4 mX6_clearedBits (LB ++ tl) [aR 0, aR tk, aI held] M (fun r M1 => ∃ x, r = some (aI x) ∧ FR [22, 23, 24, 25, 26] M M1 ∧ x = fCB (-1) (fgH M tk held) (qgT M) ∧ (0 ≤ x ∧ x ≤ 255) ∧ M1 22 2 = sm (fC (-1) (fgH M tk held)) (M tk 4).toNat ∧ RUNf (-1) (fgH M tk held) (M1 23) (M1 24) (M1 25) ∧ (∀ e, e < (M 18 3).toNat → M1 26 e = KEF held (M 19) e) ∧ M1 22 6 = (tk : Int)) := by
  refine Ct.of (own := RX6) rfl (by decide +kernel) (Nat.le_of_ble_eq_true rfl) (fun X cx rt => ?_)
  refine aw_eq (loc2 := [(0, aR 0), (1, aR tk), (2, aI held)]) ?_ rfl rfl rfl rfl
  refine aw_rngL 2 rfl (fun rl_held rh_held => ?_)
  have htk5 : tk = 5 ∨ tk = 10 := htk
  refine aw_ok (fun om => ?_)
  have hcz : 0 ≤ M 15 2 ∧ M 15 2 ≤ 8 := okF om (lb_15 tl) (j := 2) rfl (show (0 : Nat) ≠ 1 by decide)
  have hNN : ∀ j, 0 ≤ M (tk + 1) j := fun j => (okA om (tk1 htk tl) j).1
  refine aw_aload_n cx dX6_clearedBits_0 rfl 0 rfl ?_
  refine aw_getR (q := 22) cx dX6_clearedBits_1 fl_X6_50 (lb_0 tl) rfl rfl ?_
  refine aw_aload_n cx dX6_clearedBits_4 rfl 1 rfl ?_
  refine aw_iload_n cx dX6_clearedBits_5 rfl 2 rfl ?_
  refine aw_callV (as := [aR tk, aI held]) (k := 22) (stk := []) cx dX6_clearedBits_6 ml_X6_342 mv_X0_hear rfl (lb_22 tl) (by decide) rfl rfl (Nat.le_of_ble_eq_true rfl) (ct_X0_hear tl M _ _ (by first | assumption | omega) (by first | assumption | omega)) (fun rr6q M_6q hp6q => ?_)
  obtain ⟨rfl, hfrM_6, hhdM_6⟩ := hp6q
  refine aw_eq (stk2 := []) ?_ rfl rfl rfl rfl
  have hf := hfrM_6
  have et := hf tk (by rcases htk with rfl | rfl <;> decide)
  have et1 := hf (tk + 1) (by rcases htk with rfl | rfl <;> decide)
  have et2 := hf (tk + 2) (by rcases htk with rfl | rfl <;> decide)
  have et3 := hf (tk + 3) (by rcases htk with rfl | rfl <;> decide)
  have et4 := hf (tk + 4) (by rcases htk with rfl | rfl <;> decide)
  have e18q := hf 18 (by decide)
  have e19q := hf 19 (by decide)
  have e20q := hf 20 (by decide)
  have e21q := hf 21 (by decide)
  have etz := congrFun et 4
  have e183q := congrFun e18q 3
  have e15q := hf 15 (by decide)
  have e16q := hf 16 (by decide)
  have e17q := hf 17 (by decide)
  have e0q := hf 0 (by decide)
  have e152q := congrFun e15q 2
  have e012q := congrFun e0q 12
  refine aw_ok (fun om6 => ?_)
  have h01q : ∀ i, M_6q 23 i = 0 ∨ M_6q 23 i = 1 := fun i => by have := okA om6 (lb_23 tl) i; omega
  have hr := HEARD_run htk hfrM_6 hhdM_6 h01q
  refine aw_iconst (n := 0) cx dX6_clearedBits_9 (by decide) ?_
  refine aw_istore_n (loc2 := [(3, aI 0), (0, aR 0), (1, aR tk), (2, aI held)]) cx dX6_clearedBits_10 rfl (by decide) rfl ?_
  refine aw_iconst (n := 0) cx dX6_clearedBits_11 (by decide) ?_
  refine aw_istore (loc2 := [(4, aI 0), (3, aI 0), (0, aR 0), (1, aR tk), (2, aI held)]) cx dX6_clearedBits_12 (by decide) rfl ?_
  have lp14q : ∀ (fu : Nat) (x3q : Int) (x4q : Int), (0 ≤ x4q ∧ x4q ≤ M 15 2) → (BTS (fun c => M 0 12 ≤ BLF (M tk 4).toNat (M 18 3).toNat (M_6q 25) (M_6q 24) (M (tk + 1)) (M (tk + 2)) (KEF held (M 19)) (M 20) (M 21) (M 16 c) (M 17 c)) x4q.toNat x3q) → ((M 15 2 - x4q).toNat) < fu → AW X (LB ++ tl) 5 14 [(0, aR 0), (1, aR tk), (2, aI held), (3, aI x3q), (4, aI x4q)] [] M_6q := by
    intro fu
    induction fu with
    | zero =>
      intro x3q x4q h0q hs hm
      exact absurd hm (Nat.not_lt_zero _)
    | succ fu ih14q =>
      intro x3q x4q h0q hs hm
      refine aw_iload cx dX6_clearedBits_14 4 rfl ?_
      refine aw_aload_n cx dX6_clearedBits_16 rfl 0 rfl ?_
      refine aw_getR (q := 15) cx dX6_clearedBits_17 fl_X6_34 (lb_0 tl) rfl rfl ?_
      refine aw_getI cx dX6_clearedBits_20 fl_X6_118 (lb_15 tl) rfl (fun z20q hz20q lo_z20q hi_z20q => ?_)
      refine aw_icmp_ge (tgt := 73) cx dX6_clearedBits_23 (by decide) (fun c23q => ?_) (fun c23q => ?_)
      · refine aw_iload_n cx dX6_clearedBits_73 rfl 3 rfl ?_
        refine aw_iret cx rt dX6_clearedBits_74 ?_
        rw [show x4q = M 15 2 by omega] at hs
        have hl8 := BTS_le hs (show (M 15 2).toNat ≤ 8 by omega)
        refine ⟨x3q, rfl, hfrM_6, fCB_e (F := fgH M tk held) (Q := qgT M) FGe.rf QGe.rf hNN (show (M 15 2).toNat ≤ 8 by omega) hr.1 hs, ⟨hl8.1, by omega⟩, ?_, hr.1, hr.2.1, hr.2.2.2⟩
        rw [hr.2.2.1]
        exact sm_c (fX_eq (F := fgH M tk held) (F' := fgH M tk held) FGe.rf hNN hr.1).1
      · refine aw_aload_n cx dX6_clearedBits_26 rfl 0 rfl ?_
        refine aw_getR (q := 22) cx dX6_clearedBits_27 fl_X6_50 (lb_0 tl) rfl rfl ?_
        refine aw_aload_n cx dX6_clearedBits_30 rfl 0 rfl ?_
        refine aw_getR (q := 15) cx dX6_clearedBits_31 fl_X6_34 (lb_0 tl) rfl rfl ?_
        refine aw_getR (q := 16) cx dX6_clearedBits_34 fl_X6_119 (lb_15 tl) rfl rfl ?_
        refine aw_iload cx dX6_clearedBits_37 4 rfl ?_
        refine aw_iald cx dX6_clearedBits_39 (lb_16 tl) (⟨by omega, by omega⟩) (fun z39q hz39q lo_z39q hi_z39q => ?_)
        refine aw_aload_n cx dX6_clearedBits_40 rfl 0 rfl ?_
        refine aw_getR (q := 15) cx dX6_clearedBits_41 fl_X6_34 (lb_0 tl) rfl rfl ?_
        refine aw_getR (q := 17) cx dX6_clearedBits_44 fl_X6_120 (lb_15 tl) rfl rfl ?_
        refine aw_iload cx dX6_clearedBits_47 4 rfl ?_
        refine aw_iald cx dX6_clearedBits_49 (lb_17 tl) (⟨by omega, by omega⟩) (fun z49q hz49q lo_z49q hi_z49q => ?_)
        refine aw_callV (as := [aI z39q, aI z49q]) (k := 22) (stk := []) cx dX6_clearedBits_50 ml_X6_169 mv_X0_trust rfl (lb_22 tl) (by decide) rfl rfl (Nat.le_of_ble_eq_true rfl) (ct_X0_trust tl M_6q _ _ _ (by first | assumption | omega) (hhdM_6.1) (by first | assumption | omega) (by first | assumption | omega)) (fun rr50q M_50q hp50q => ?_)
        obtain ⟨rfl, rfl⟩ := hp50q
        refine aw_top (stk := []) (fun z50q hz50q => ?_)
        have hb50 : z50q = BLF (M tk 4).toNat (M 18 3).toNat (M_6q 25) (M_6q 24) (M (tk + 1)) (M (tk + 2)) (KEF held (M 19)) (M 20) (M 21) (M 16 x4q.toNat) (M 17 x4q.toNat) := by rw [hz50q, hz39q, hz49q, et, e18q, et1, et2, e20q, e21q, e16q, e17q]; exact BLF_c (fun _ _ => rfl) (fun _ _ => ⟨rfl, rfl, rfl⟩) (fun e he => ⟨hr.2.1 e he, rfl, rfl⟩)
        refine aw_aload_n cx dX6_clearedBits_53 rfl 0 rfl ?_
        refine aw_getI cx dX6_clearedBits_54 fl_X6_74 (lb_0 tl) rfl (fun z54q hz54q lo_z54q hi_z54q => ?_)
        refine aw_icmp_lt (tgt := 67) cx dX6_clearedBits_57 (by decide) (fun c57q => ?_) (fun c57q => ?_)
        · refine aw_iinc cx dX6_clearedBits_67 4 rfl (by decide) (by omega) (fun z67q hz67q => ?_)
          refine aw_loc (loc2 := [(4, aI z67q), (0, aR 0), (1, aR tk), (2, aI held), (3, aI x3q)]) rfl ?_
          refine aw_goto (tgt := 14) cx dX6_clearedBits_70 (by decide) ?_
          refine aw_sub [1, 2, 3, 4, 0] rfl ?_
          refine ih14q _ _  ?i_h0 ?i_hs ?i_m
          case i_h0 =>
            omega
          case i_hs =>
            rw [hz67q]; exact BTS_n (by omega) hs (by omega)
          case i_m =>
            omega
        · refine aw_iload_n cx dX6_clearedBits_60 rfl 3 rfl ?_
          refine aw_iconst (n := 1) cx dX6_clearedBits_61 (by decide) ?_
          refine aw_iload cx dX6_clearedBits_62 4 rfl ?_
          refine aw_ishl cx dX6_clearedBits_64 (fun z64q hz64q => ?_)
          refine aw_ior cx dX6_clearedBits_65 (fun z65q hz65q => ?_)
          refine aw_istore_n (loc2 := [(3, aI z65q), (0, aR 0), (1, aR tk), (2, aI held), (4, aI x4q)]) cx dX6_clearedBits_66 rfl (by decide) rfl ?_
          refine aw_iinc cx dX6_clearedBits_67 4 rfl (by decide) (by omega) (fun z67q hz67q => ?_)
          refine aw_loc (loc2 := [(4, aI z67q), (3, aI z65q), (0, aR 0), (1, aR tk), (2, aI held)]) rfl ?_
          refine aw_goto (tgt := 14) cx dX6_clearedBits_70 (by decide) ?_
          refine aw_sub [2, 3, 4, 1, 0] rfl ?_
          refine ih14q _ _  ?i_h0 ?i_hs ?i_m
          case i_h0 =>
            omega
          case i_hs =>
            rw [hz67q, hz65q, hz64q]; exact BTS_y (by omega) hs (by omega)
          case i_m =>
            omega
  refine aw_sub [2, 3, 4, 1, 0] rfl ?_
  refine lp14q _ _ _  ?i_h0 ?i_hs (Nat.lt_succ_self _)
  case i_h0 =>
    omega
  case i_hs =>
    exact BTS_0
set_option maxHeartbeats 4000000 in
set_option maxRecDepth 100000 in
theorem ct_X6_comesOutSo (tl : List CD) (M : Mem) (x : Int) (hx : 0 ≤ x ∧ x < 2147483648) : Ct 0 mX6_comesOutSo (LB ++ tl) [aR 0, aI x] M (fun r M1 => M = M1 ∧ ∃ y, r = some (aI y) ∧ (y = 0 ∨ y = 1) ∧ (y = 1 ↔ ∀ j, j < (M 0 13).toNat → (M 27 j < M 15 2 ∧ (BT x (M 27 j).toNat ↔ M 28 j = 1)))) := by
  refine Ct.of (own := RX6) rfl (by decide +kernel) (Nat.le_of_ble_eq_true rfl) (fun X cx rt => ?_)
  refine aw_eq (loc2 := [(0, aR 0), (1, aI x)]) ?_ rfl rfl rfl rfl
  refine aw_rngL 1 rfl (fun rl_x rh_x => ?_)
  refine aw_ok (fun om => ?_)
  have hcz : 0 ≤ M 0 13 ∧ M 0 13 ≤ 8 := okF om (lb_0 tl) (j := 13) rfl (show (0 : Nat) ≠ 1 by decide)
  refine aw_iconst (n := 0) cx dX6_comesOutSo_0 (by decide) ?_
  refine aw_istore_n (loc2 := [(2, aI 0), (0, aR 0), (1, aI x)]) cx dX6_comesOutSo_1 rfl (by decide) rfl ?_
  have lp2q : ∀ (fu : Nat) (x2q : Int), (0 ≤ x2q ∧ x2q ≤ M 0 13) → (∀ j, j < x2q.toNat → (M 27 j < M 15 2 ∧ (BT x (M 27 j).toNat ↔ M 28 j = 1))) → ((M 0 13 - x2q).toNat) < fu → AW X (LB ++ tl) 3 2 [(0, aR 0), (1, aI x), (2, aI x2q)] [] M := by
    intro fu
    induction fu with
    | zero =>
      intro x2q h0q ha hm
      exact absurd hm (Nat.not_lt_zero _)
    | succ fu ih2q =>
      intro x2q h0q ha hm
      refine aw_iload_n cx dX6_comesOutSo_2 rfl 2 rfl ?_
      refine aw_aload_n cx dX6_comesOutSo_3 rfl 0 rfl ?_
      refine aw_getI cx dX6_comesOutSo_4 fl_X6_78 (lb_0 tl) rfl (fun z4q hz4q lo_z4q hi_z4q => ?_)
      refine aw_icmp_ge (tgt := 53) cx dX6_comesOutSo_7 (by decide) (fun c7q => ?_) (fun c7q => ?_)
      · refine aw_iconst (n := 1) cx dX6_comesOutSo_53 (by decide) ?_
        refine aw_zret cx rt dX6_comesOutSo_54 (by decide) ?_
        exact ⟨rfl, 1, rfl, Or.inr rfl, ⟨fun _ j hj => ha j (by omega), fun _ => rfl⟩⟩
      · refine aw_aload_n cx dX6_comesOutSo_10 rfl 0 rfl ?_
        refine aw_getR (q := 27) cx dX6_comesOutSo_11 fl_X6_54 (lb_0 tl) rfl rfl ?_
        refine aw_iload_n cx dX6_comesOutSo_14 rfl 2 rfl ?_
        refine aw_iald cx dX6_comesOutSo_15 (lb_27 tl) (⟨by omega, by omega⟩) (fun z15q hz15q lo_z15q hi_z15q => ?_)
        refine aw_aload_n cx dX6_comesOutSo_16 rfl 0 rfl ?_
        refine aw_getR (q := 15) cx dX6_comesOutSo_17 fl_X6_34 (lb_0 tl) rfl rfl ?_
        refine aw_getI cx dX6_comesOutSo_20 fl_X6_118 (lb_15 tl) rfl (fun z20q hz20q lo_z20q hi_z20q => ?_)
        refine aw_icmp_ge (tgt := 45) cx dX6_comesOutSo_23 (by decide) (fun c23q => ?_) (fun c23q => ?_)
        · refine aw_iconst (n := 0) cx dX6_comesOutSo_45 (by decide) ?_
          refine aw_zret cx rt dX6_comesOutSo_46 (by decide) ?_
          exact ⟨rfl, 0, rfl, Or.inl rfl, ⟨fun q => absurd q (by decide), fun q => by have := (q x2q.toNat (by omega)).1; omega⟩⟩
        · refine aw_iload_n cx dX6_comesOutSo_26 rfl 1 rfl ?_
          refine aw_aload_n cx dX6_comesOutSo_27 rfl 0 rfl ?_
          refine aw_getR (q := 27) cx dX6_comesOutSo_28 fl_X6_54 (lb_0 tl) rfl rfl ?_
          refine aw_iload_n cx dX6_comesOutSo_31 rfl 2 rfl ?_
          refine aw_iald cx dX6_comesOutSo_32 (lb_27 tl) (⟨by omega, by omega⟩) (fun z32q hz32q lo_z32q hi_z32q => ?_)
          refine aw_ishr cx dX6_comesOutSo_33 (fun z33q hz33q => ?_)
          refine aw_iconst (n := 1) cx dX6_comesOutSo_34 (by decide) ?_
          refine aw_iand cx dX6_comesOutSo_35 (fun z35q hz35q => ?_)
          have hb35 : z35q = b2 (BT x z32q.toNat) := by rw [hz35q, hz33q]; exact isbit hx (by omega)
          have hb35i := b2_in (BT x z32q.toNat)
          refine aw_aload_n cx dX6_comesOutSo_36 rfl 0 rfl ?_
          refine aw_getR (q := 28) cx dX6_comesOutSo_37 fl_X6_58 (lb_0 tl) rfl rfl ?_
          refine aw_iload_n cx dX6_comesOutSo_40 rfl 2 rfl ?_
          refine aw_iald cx dX6_comesOutSo_41 (lb_28 tl) (⟨by omega, by omega⟩) (fun z41q hz41q lo_z41q hi_z41q => ?_)
          refine aw_icmp_eq (tgt := 47) cx dX6_comesOutSo_42 (by decide) (fun c42q => ?_) (fun c42q => ?_)
          · refine aw_iinc cx dX6_comesOutSo_47 2 rfl (by decide) (by omega) (fun z47q hz47q => ?_)
            refine aw_loc (loc2 := [(2, aI z47q), (0, aR 0), (1, aI x)]) rfl ?_
            refine aw_goto (tgt := 2) cx dX6_comesOutSo_50 (by decide) ?_
            refine aw_sub [1, 2, 0] rfl ?_
            refine ih2q _  ?i_h0 ?i_ha ?i_m
            case i_h0 =>
              omega
            case i_ha =>
              rw [hz47q]; exact all_s h0q.1 ha ⟨by omega, by rw [← hz32q, ← hz41q, ← b2_e1 (p := BT x z32q.toNat), ← hb35]; omega⟩
            case i_m =>
              omega
          · refine aw_iconst (n := 0) cx dX6_comesOutSo_45 (by decide) ?_
            refine aw_zret cx rt dX6_comesOutSo_46 (by decide) ?_
            exact ⟨rfl, 0, rfl, Or.inl rfl, ⟨fun q => absurd q (by decide), fun q => by have g := (q x2q.toNat (by omega)).2; rw [← hz32q, ← hz41q, ← b2_e1 (p := BT x z32q.toNat), ← hb35] at g; omega⟩⟩
  refine aw_sub [1, 2, 0] rfl ?_
  refine lp2q _ _  ?i_h0 ?i_ha (Nat.lt_succ_self _)
  case i_h0 =>
    omega
  case i_ha =>
    exact all_0
set_option maxHeartbeats 4000000 in
set_option maxRecDepth 100000 in
theorem ct_X6_reach (tl : List CD) (M : Mem) (x : Int) : Ct 0 mX6_reach (LB ++ tl) [aI x] M (fun r M1 => M = M1 ∧ r = some (aI (RCH x))) := by
  refine Ct.of (own := RX6) rfl (by decide +kernel) (Nat.le_of_ble_eq_true rfl) (fun X cx rt => ?_)
  refine aw_eq (loc2 := [(0, aI x)]) ?_ rfl rfl rfl rfl
  refine aw_rngL 0 rfl (fun rl_x rh_x => ?_)
  refine aw_iload_n cx dX6_reach_0 rfl 0 rfl ?_
  refine aw_iload_n cx dX6_reach_1 rfl 0 rfl ?_
  refine aw_iconst (n := 1) cx dX6_reach_2 (by decide) ?_
  refine aw_ishl cx dX6_reach_3 (fun z3q hz3q => ?_)
  refine aw_ior cx dX6_reach_4 (fun z4q hz4q => ?_)
  refine aw_iload_n cx dX6_reach_5 rfl 0 rfl ?_
  refine aw_iconst (n := 1) cx dX6_reach_6 (by decide) ?_
  refine aw_ishr cx dX6_reach_7 (fun z7q hz7q => ?_)
  refine aw_ior cx dX6_reach_8 (fun z8q hz8q => ?_)
  refine aw_sipush (n := 255) cx dX6_reach_9 (by decide) ?_
  refine aw_iand cx dX6_reach_12 (fun z12q hz12q => ?_)
  refine aw_iret cx rt dX6_reach_13 ?_
  exact ⟨rfl, congrArg (fun q => some (aI q)) (by unfold RCH; rw [hz12q, hz8q, hz4q, hz7q, hz3q])⟩
set_option maxHeartbeats 4000000 in
set_option maxRecDepth 100000 in
theorem ct_X6_finding (tl : List CD) (M : Mem) (k : Int) (hk : 1 ≤ k ∧ k ≤ 5) : Ct 0 mX6_finding (LB ++ tl) [aR 0, aI k] M (fun r M1 => ∃ x, r = some (aI x) ∧ M1 = up M 0 14 k ∧ x = -10 - k) := by
  refine Ct.of (own := RX6) rfl (by decide +kernel) (Nat.le_of_ble_eq_true rfl) (fun X cx rt => ?_)
  refine aw_eq (loc2 := [(0, aR 0), (1, aI k)]) ?_ rfl rfl rfl rfl
  refine aw_rngL 1 rfl (fun rl_k rh_k => ?_)
  refine aw_aload_n cx dX6_finding_0 rfl 0 rfl ?_
  refine aw_iload_n cx dX6_finding_1 rfl 1 rfl ?_
  refine aw_putI cx dX6_finding_2 fl_X6_81 kt_X6 rfl rfl (lb_0 tl) rfl (⟨by omega, by omega⟩) ?_
  obtain ⟨M_2q, hM_2q⟩ : ∃ q, q = up M 0 14 k := ⟨_, rfl⟩
  rw [← hM_2q]
  refine aw_bipush (n := (-10)) cx dX6_finding_5 (by decide) ?_
  refine aw_iload_n cx dX6_finding_7 rfl 1 rfl ?_
  refine aw_isub cx dX6_finding_8 (by omega) (fun z8q hz8q => ?_)
  refine aw_iret cx rt dX6_finding_9 ?_
  exact ⟨z8q, rfl, hM_2q, hz8q⟩
set_option maxHeartbeats 4000000 in
set_option maxRecDepth 100000 in
theorem ct_X6_findingAsLeast (tl : List CD) (M : Mem) (k : Int) (hk : 1 ≤ k ∧ k ≤ 5) : Ct 0 mX6_findingAsLeast (LB ++ tl) [aR 0, aI k] M (fun r M1 => ∃ x, r = some (aI x) ∧ M1 = up M 0 14 k ∧ x = -2147483648) := by
  refine Ct.of (own := RX6) rfl (by decide +kernel) (Nat.le_of_ble_eq_true rfl) (fun X cx rt => ?_)
  refine aw_eq (loc2 := [(0, aR 0), (1, aI k)]) ?_ rfl rfl rfl rfl
  refine aw_rngL 1 rfl (fun rl_k rh_k => ?_)
  refine aw_aload_n cx dX6_findingAsLeast_0 rfl 0 rfl ?_
  refine aw_iload_n cx dX6_findingAsLeast_1 rfl 1 rfl ?_
  refine aw_putI cx dX6_findingAsLeast_2 fl_X6_81 kt_X6 rfl rfl (lb_0 tl) rfl (⟨by omega, by omega⟩) ?_
  obtain ⟨M_2q, hM_2q⟩ : ∃ q, q = up M 0 14 k := ⟨_, rfl⟩
  rw [← hM_2q]
  refine aw_ldc (x := (-2147483648)) cx dX6_findingAsLeast_5 kc_X6_168 (by decide +kernel) ?_
  refine aw_iret cx rt dX6_findingAsLeast_7 ?_
  exact ⟨_, rfl, hM_2q, rfl⟩
set_option maxHeartbeats 4000000 in
set_option maxRecDepth 100000 in
theorem ct_X6_type_0 (tl : List CD) (M : Mem) (b : Int) : Ct 5 mX6_type (LB ++ tl) [aR 0, aI 0, aI b] M (fun r M1 => ∃ x, r = some (aI x) ∧ (((b < 0 ∨ 255 < b) ∧ x = -2 ∧ M1 = M) ∨ (0 ≤ b ∧ b ≤ 255 ∧ M 1 2 = 59 ∧ x = -4 ∧ M1 = M) ∨ (0 ≤ b ∧ b ≤ 255 ∧ M 1 2 < 59 ∧ x = M 1 2 + 1 ∧ FR [1, 2, 5, 6, 7, 8, 9, 15, 16, 17] M M1 ∧ PAR M1 ∧ M1 1 2 = M 1 2 + 1 ∧ M1 2 = up1 (M 2) (M 1 2).toNat b))) := by
  refine Ct.of (own := RX6) rfl (by decide +kernel) (Nat.le_of_ble_eq_true rfl) (fun X cx rt => ?_)
  refine aw_eq (loc2 := [(0, aR 0), (1, aI 0), (2, aI b)]) ?_ rfl rfl rfl rfl
  refine aw_rngL 2 rfl (fun rl_b rh_b => ?_)
  refine aw_ok (fun om => ?_)
  have hn : 0 ≤ M 1 2 ∧ M 1 2 ≤ 59 := okF om (lb_1 tl) (j := 2) rfl (show (0 : Nat) ≠ 1 by decide)
  refine aw_iload_n cx dX6_type_0 rfl 1 rfl ?_
  refine aw_iconst (n := 2) cx dX6_type_1 (by decide) ?_
  refine aw_callS (as := [aI 0, aI 2]) (stk := []) cx dX6_type_2 ml_X6_84 ms_X6_outside (by decide) rfl rfl (Nat.le_of_ble_eq_true rfl) (ct_X6_outside tl M _ _ ) (fun rr2q M_2q hp2q => ?_)
  obtain ⟨rfl, rfl⟩ := hp2q
  refine aw_top (stk := []) (fun z2q hz2q => ?_)
  refine aw_if_ne (tgt := 18) cx dX6_type_5 (by decide) (fun c5q => ?_) (fun c5q => ?_)
  · exfalso
    have d5q := b2_y hz2q c5q
    omega
  · have d5q := b2_e0.mp (hz2q.symm.trans c5q)
    refine aw_iload_n cx dX6_type_8 rfl 2 rfl ?_
    refine aw_sipush (n := 256) cx dX6_type_9 (by decide) ?_
    refine aw_callS (as := [aI b, aI 256]) (stk := []) cx dX6_type_12 ml_X6_84 ms_X6_outside (by decide) rfl rfl (Nat.le_of_ble_eq_true rfl) (ct_X6_outside tl M _ _ ) (fun rr12q M_12q hp12q => ?_)
    obtain ⟨rfl, rfl⟩ := hp12q
    refine aw_top (stk := []) (fun z12q hz12q => ?_)
    refine aw_if_eq (tgt := 21) cx dX6_type_15 (by decide) (fun c15q => ?_) (fun c15q => ?_)
    · have d15q := b2_e0.mp (hz12q.symm.trans c15q)
      refine aw_aload_n cx dX6_type_21 rfl 0 rfl ?_
      refine aw_iload_n cx dX6_type_22 rfl 1 rfl ?_
      refine aw_callV (as := [aI 0]) (k := 0) (stk := []) cx dX6_type_23 ml_X6_88 mv_X6_textOf rfl (lb_0 tl) (by decide) rfl rfl (Nat.le_of_ble_eq_true rfl) (ct_X6_textOf_0 tl M  ) (fun rr23q M_23q hp23q => ?_)
      obtain ⟨rfl, rfl⟩ := hp23q
      refine aw_eq (stk2 := [aR 1]) ?_ rfl rfl (rfl) rfl
      refine aw_astore_n (loc2 := [(3, aR 1), (0, aR 0), (1, aI 0), (2, aI b)]) cx dX6_type_26 rfl (by decide) rfl ?_
      refine aw_aload_n cx dX6_type_27 rfl 0 rfl ?_
      refine aw_getI cx dX6_type_28 fl_X6_92 (lb_1 tl) rfl (fun z28q hz28q lo_z28q hi_z28q => ?_)
      refine aw_aload_n cx dX6_type_31 rfl 0 rfl ?_
      refine aw_getR (q := 2) cx dX6_type_32 fl_X6_95 (lb_1 tl) rfl rfl ?_
      refine aw_alen cx dX6_type_35 (lb_2 tl) ?_
      refine aw_icmp_lt (tgt := 42) cx dX6_type_36 (by decide) (fun c36q => ?_) (fun c36q => ?_)
      · refine aw_aload_n cx dX6_type_42 rfl 0 rfl ?_
        refine aw_getR (q := 2) cx dX6_type_43 fl_X6_95 (lb_1 tl) rfl rfl ?_
        refine aw_aload_n cx dX6_type_46 rfl 0 rfl ?_
        refine aw_getI cx dX6_type_47 fl_X6_92 (lb_1 tl) rfl (fun z47q hz47q lo_z47q hi_z47q => ?_)
        refine aw_iload_n cx dX6_type_50 rfl 3 rfl ?_
        refine aw_iast cx dX6_type_51 (lb_2 tl) (⟨by omega, by omega⟩) (⟨by omega, by omega⟩) ?_
        obtain ⟨M_51q, hM_51q⟩ : ∃ q, q = up M 2 (Int.toNat (z47q)) (b) := ⟨_, rfl⟩
        rw [← hM_51q]
        refine aw_aload_n cx dX6_type_52 rfl 0 rfl ?_
        refine aw_dup cx dX6_type_53 rfl ?_
        refine aw_getI cx dX6_type_54 fl_X6_92 (lb_1 tl) rfl (fun z54q hz54q lo_z54q hi_z54q => ?_)
        refine aw_iconst (n := 1) cx dX6_type_57 (by decide) ?_
        refine aw_iadd cx dX6_type_58 (by omega) (fun z58q hz58q => ?_)
        refine aw_putI cx dX6_type_59 fl_X6_92 kt_X5 rfl rfl (lb_1 tl) rfl (by rw [up_ne hM_51q (by omega)] at hz54q; exact ⟨by omega, by omega⟩) ?_
        obtain ⟨M_59q, hM_59q⟩ : ∃ q, q = up M_51q 1 2 z58q := ⟨_, rfl⟩
        rw [← hM_59q]
        refine aw_aload_n cx dX6_type_62 rfl 1 rfl ?_
        refine aw_callV (as := []) (k := 0) (stk := []) cx dX6_type_63 ml_X6_98 mv_X6_tellAnew rfl (lb_0 tl) (by decide) rfl rfl (Nat.le_of_ble_eq_true rfl) (ct_X6_tellAnew tl M_59q  ) (fun rr63q M_63q hp63q => ?_)
        obtain ⟨rfl, hfrM_63, hpaM_63⟩ := hp63q
        refine aw_eq (stk2 := []) ?_ rfl rfl rfl rfl
        refine aw_aload_n cx dX6_type_66 rfl 0 rfl ?_
        refine aw_getI cx dX6_type_67 fl_X6_92 (lb_1 tl) rfl (fun z67q hz67q lo_z67q hi_z67q => ?_)
        refine aw_iret cx rt dX6_type_70 ?_
        have q1q : M_63q 1 2 = M 1 2 + 1 := by rw [hfrM_63 1 (by decide), up_eq hM_59q]; rw [up_ne hM_51q (by omega)] at hz54q; omega
        refine ⟨z67q, rfl, Or.inr (Or.inr ⟨by omega, by omega, by omega, by omega, ?_, hpaM_63, q1q, ?_⟩)⟩
        · exact (((FR.rf.put hM_51q (by decide)).put hM_59q (by decide)).tr hfrM_63 (by decide) : FR [1, 2, 5, 6, 7, 8, 9, 15, 16, 17] M M_63q)
        · rw [hfrM_63 2 (by decide), hM_59q, up_off (by decide), hM_51q, up_row, hz47q]
      · refine aw_bipush (n := (-4)) cx dX6_type_39 (by decide) ?_
        refine aw_iret cx rt dX6_type_41 ?_
        exact ⟨-4, rfl, Or.inr (Or.inl ⟨by omega, by omega, by omega, rfl, rfl⟩)⟩
    · have d15q := b2_y hz12q c15q
      refine aw_bipush (n := (-2)) cx dX6_type_18 (by decide) ?_
      refine aw_iret cx rt dX6_type_20 ?_
      exact ⟨-2, rfl, Or.inl ⟨by omega, rfl, rfl⟩⟩
set_option maxHeartbeats 4000000 in
set_option maxRecDepth 100000 in
theorem ct_X6_wipe_0 (tl : List CD) (M : Mem)  : Ct 5 mX6_wipe (LB ++ tl) [aR 0, aI 0] M (fun r M1 => ∃ x, r = some (aI x) ∧ x = M 1 2 ∧ FR [1, 2, 5, 6, 7, 8, 9, 15, 16, 17] M M1 ∧ PAR M1 ∧ M1 1 2 = 0 ∧ M1 2 = M 2) := by
  refine Ct.of (own := RX6) rfl (by decide +kernel) (Nat.le_of_ble_eq_true rfl) (fun X cx rt => ?_)
  refine aw_eq (loc2 := [(0, aR 0), (1, aI 0)]) ?_ rfl rfl rfl rfl
  refine aw_iload_n cx dX6_wipe_0 rfl 1 rfl ?_
  refine aw_iconst (n := 2) cx dX6_wipe_1 (by decide) ?_
  refine aw_callS (as := [aI 0, aI 2]) (stk := []) cx dX6_wipe_2 ml_X6_84 ms_X6_outside (by decide) rfl rfl (Nat.le_of_ble_eq_true rfl) (ct_X6_outside tl M _ _ ) (fun rr2q M_2q hp2q => ?_)
  obtain ⟨rfl, rfl⟩ := hp2q
  refine aw_top (stk := []) (fun z2q hz2q => ?_)
  refine aw_if_eq (tgt := 11) cx dX6_wipe_5 (by decide) (fun c5q => ?_) (fun c5q => ?_)
  · have d5q := b2_e0.mp (hz2q.symm.trans c5q)
    refine aw_aload_n cx dX6_wipe_11 rfl 0 rfl ?_
    refine aw_iload_n cx dX6_wipe_12 rfl 1 rfl ?_
    refine aw_callV (as := [aI 0]) (k := 0) (stk := []) cx dX6_wipe_13 ml_X6_88 mv_X6_textOf rfl (lb_0 tl) (by decide) rfl rfl (Nat.le_of_ble_eq_true rfl) (ct_X6_textOf_0 tl M  ) (fun rr13q M_13q hp13q => ?_)
    obtain ⟨rfl, rfl⟩ := hp13q
    refine aw_eq (stk2 := [aR 1]) ?_ rfl rfl (rfl) rfl
    refine aw_astore_n (loc2 := [(2, aR 1), (0, aR 0), (1, aI 0)]) cx dX6_wipe_16 rfl (by decide) rfl ?_
    refine aw_aload_n cx dX6_wipe_17 rfl 0 rfl ?_
    refine aw_getI cx dX6_wipe_18 fl_X6_92 (lb_1 tl) rfl (fun z18q hz18q lo_z18q hi_z18q => ?_)
    refine aw_istore_n (loc2 := [(3, aI z18q), (2, aR 1), (0, aR 0), (1, aI 0)]) cx dX6_wipe_21 rfl (by decide) rfl ?_
    refine aw_aload_n cx dX6_wipe_22 rfl 1 rfl ?_
    refine aw_iconst (n := 0) cx dX6_wipe_23 (by decide) ?_
    refine aw_putI cx dX6_wipe_24 fl_X6_92 kt_X5 rfl rfl (lb_1 tl) rfl (⟨by omega, by omega⟩) ?_
    obtain ⟨M_24q, hM_24q⟩ : ∃ q, q = up M 1 2 0 := ⟨_, rfl⟩
    rw [← hM_24q]
    refine aw_aload_n cx dX6_wipe_27 rfl 2 rfl ?_
    refine aw_callV (as := []) (k := 0) (stk := []) cx dX6_wipe_28 ml_X6_98 mv_X6_tellAnew rfl (lb_0 tl) (by decide) rfl rfl (Nat.le_of_ble_eq_true rfl) (ct_X6_tellAnew tl M_24q  ) (fun rr28q M_28q hp28q => ?_)
    obtain ⟨rfl, hfrM_28, hpaM_28⟩ := hp28q
    refine aw_eq (stk2 := []) ?_ rfl rfl rfl rfl
    refine aw_iload_n cx dX6_wipe_31 rfl 0 rfl ?_
    refine aw_iret cx rt dX6_wipe_32 ?_
    exact ⟨z18q, rfl, hz18q, ((FR.rf.put hM_24q (by decide)).tr hfrM_28 (by decide) : FR [1, 2, 5, 6, 7, 8, 9, 15, 16, 17] M M_28q), hpaM_28, by rw [hfrM_28 1 (by decide), up_eq hM_24q], by rw [hfrM_28 2 (by decide), hM_24q, up_off (by decide)]⟩
  · exfalso
    have d5q := b2_y hz2q c5q
    omega
set_option maxHeartbeats 4000000 in
set_option maxRecDepth 100000 in
theorem ct_X6_undo_0 (tl : List CD) (M : Mem)  : Ct 5 mX6_undo (LB ++ tl) [aR 0, aI 0] M (fun r M1 => ∃ x, r = some (aI x) ∧ ((M 1 2 = 0 ∧ x = -3 ∧ M1 = M) ∨ (0 < M 1 2 ∧ x = M 1 2 - 1 ∧ FR [1, 2, 5, 6, 7, 8, 9, 15, 16, 17] M M1 ∧ PAR M1 ∧ M1 1 2 = M 1 2 - 1 ∧ M1 2 = M 2))) := by
  refine Ct.of (own := RX6) rfl (by decide +kernel) (Nat.le_of_ble_eq_true rfl) (fun X cx rt => ?_)
  refine aw_eq (loc2 := [(0, aR 0), (1, aI 0)]) ?_ rfl rfl rfl rfl
  refine aw_ok (fun om => ?_)
  have hn : 0 ≤ M 1 2 ∧ M 1 2 ≤ 59 := okF om (lb_1 tl) (j := 2) rfl (show (0 : Nat) ≠ 1 by decide)
  refine aw_iload_n cx dX6_undo_0 rfl 1 rfl ?_
  refine aw_iconst (n := 2) cx dX6_undo_1 (by decide) ?_
  refine aw_callS (as := [aI 0, aI 2]) (stk := []) cx dX6_undo_2 ml_X6_84 ms_X6_outside (by decide) rfl rfl (Nat.le_of_ble_eq_true rfl) (ct_X6_outside tl M _ _ ) (fun rr2q M_2q hp2q => ?_)
  obtain ⟨rfl, rfl⟩ := hp2q
  refine aw_top (stk := []) (fun z2q hz2q => ?_)
  refine aw_if_eq (tgt := 11) cx dX6_undo_5 (by decide) (fun c5q => ?_) (fun c5q => ?_)
  · have d5q := b2_e0.mp (hz2q.symm.trans c5q)
    refine aw_aload_n cx dX6_undo_11 rfl 0 rfl ?_
    refine aw_iload_n cx dX6_undo_12 rfl 1 rfl ?_
    refine aw_callV (as := [aI 0]) (k := 0) (stk := []) cx dX6_undo_13 ml_X6_88 mv_X6_textOf rfl (lb_0 tl) (by decide) rfl rfl (Nat.le_of_ble_eq_true rfl) (ct_X6_textOf_0 tl M  ) (fun rr13q M_13q hp13q => ?_)
    obtain ⟨rfl, rfl⟩ := hp13q
    refine aw_eq (stk2 := [aR 1]) ?_ rfl rfl (rfl) rfl
    refine aw_astore_n (loc2 := [(2, aR 1), (0, aR 0), (1, aI 0)]) cx dX6_undo_16 rfl (by decide) rfl ?_
    refine aw_aload_n cx dX6_undo_17 rfl 0 rfl ?_
    refine aw_getI cx dX6_undo_18 fl_X6_92 (lb_1 tl) rfl (fun z18q hz18q lo_z18q hi_z18q => ?_)
    refine aw_if_ne (tgt := 27) cx dX6_undo_21 (by decide) (fun c21q => ?_) (fun c21q => ?_)
    · refine aw_aload_n cx dX6_undo_27 rfl 0 rfl ?_
      refine aw_dup cx dX6_undo_28 rfl ?_
      refine aw_getI cx dX6_undo_29 fl_X6_92 (lb_1 tl) rfl (fun z29q hz29q lo_z29q hi_z29q => ?_)
      refine aw_iconst (n := 1) cx dX6_undo_32 (by decide) ?_
      refine aw_isub cx dX6_undo_33 (by omega) (fun z33q hz33q => ?_)
      refine aw_putI cx dX6_undo_34 fl_X6_92 kt_X5 rfl rfl (lb_1 tl) rfl (⟨by omega, by omega⟩) ?_
      obtain ⟨M_34q, hM_34q⟩ : ∃ q, q = up M 1 2 z33q := ⟨_, rfl⟩
      rw [← hM_34q]
      refine aw_aload_n cx dX6_undo_37 rfl 1 rfl ?_
      refine aw_callV (as := []) (k := 0) (stk := []) cx dX6_undo_38 ml_X6_98 mv_X6_tellAnew rfl (lb_0 tl) (by decide) rfl rfl (Nat.le_of_ble_eq_true rfl) (ct_X6_tellAnew tl M_34q  ) (fun rr38q M_38q hp38q => ?_)
      obtain ⟨rfl, hfrM_38, hpaM_38⟩ := hp38q
      refine aw_eq (stk2 := []) ?_ rfl rfl rfl rfl
      refine aw_aload_n cx dX6_undo_41 rfl 0 rfl ?_
      refine aw_getI cx dX6_undo_42 fl_X6_92 (lb_1 tl) rfl (fun z42q hz42q lo_z42q hi_z42q => ?_)
      refine aw_iret cx rt dX6_undo_45 ?_
      have q1q : M_38q 1 2 = M 1 2 - 1 := by rw [hfrM_38 1 (by decide), up_eq hM_34q]; omega
      exact ⟨z42q, rfl, Or.inr ⟨by omega, by omega, ((FR.rf.put hM_34q (by decide)).tr hfrM_38 (by decide) : FR [1, 2, 5, 6, 7, 8, 9, 15, 16, 17] M M_38q), hpaM_38, q1q, by rw [hfrM_38 2 (by decide), hM_34q, up_off (by decide)]⟩⟩
    · refine aw_bipush (n := (-3)) cx dX6_undo_24 (by decide) ?_
      refine aw_iret cx rt dX6_undo_26 ?_
      exact ⟨-3, rfl, Or.inl ⟨by omega, rfl, rfl⟩⟩
  · exfalso
    have d5q := b2_y hz2q c5q
    omega
set_option maxHeartbeats 4000000 in
set_option maxRecDepth 100000 in
theorem ct_X6_fault_0 (tl : List CD) (M : Mem)  : Ct 2 mX6_fault (LB ++ tl) [aR 0, aI 0] M (fun r M1 => M = M1 ∧ ∃ x, r = some (aI x) ∧ FLT 5 (M 1 2).toNat (M 2) x) := by
  refine Ct.of (own := RX6) rfl (by decide +kernel) (Nat.le_of_ble_eq_true rfl) (fun X cx rt => ?_)
  refine aw_eq (loc2 := [(0, aR 0), (1, aI 0)]) ?_ rfl rfl rfl rfl
  refine aw_iload_n cx dX6_fault_0 rfl 1 rfl ?_
  refine aw_iconst (n := 2) cx dX6_fault_1 (by decide) ?_
  refine aw_callS (as := [aI 0, aI 2]) (stk := []) cx dX6_fault_2 ml_X6_84 ms_X6_outside (by decide) rfl rfl (Nat.le_of_ble_eq_true rfl) (ct_X6_outside tl M _ _ ) (fun rr2q M_2q hp2q => ?_)
  obtain ⟨rfl, rfl⟩ := hp2q
  refine aw_top (stk := []) (fun z2q hz2q => ?_)
  refine aw_if_eq (tgt := 13) cx dX6_fault_5 (by decide) (fun c5q => ?_) (fun c5q => ?_)
  · have d5q := b2_e0.mp (hz2q.symm.trans c5q)
    refine aw_aload_n cx dX6_fault_13 rfl 0 rfl ?_
    refine aw_iload_n cx dX6_fault_14 rfl 1 rfl ?_
    refine aw_callV (as := [aI 0]) (k := 0) (stk := []) cx dX6_fault_15 ml_X6_88 mv_X6_textOf rfl (lb_0 tl) (by decide) rfl rfl (Nat.le_of_ble_eq_true rfl) (ct_X6_textOf_0 tl M  ) (fun rr15q M_15q hp15q => ?_)
    obtain ⟨rfl, rfl⟩ := hp15q
    refine aw_eq (stk2 := [aR 1]) ?_ rfl rfl (rfl) rfl
    refine aw_callV (as := []) (k := 1) (stk := []) cx dX6_fault_18 ml_X6_101 mv_X5_faultPlace rfl (lb_1 tl) (by decide) rfl rfl (Nat.le_of_ble_eq_true rfl) (ct_X5_faultPlace_a tl M  ) (fun rr18q M_18q hp18q => ?_)
    obtain ⟨rfl, z18q, rfl, hflz18⟩ := hp18q
    refine aw_eq (stk2 := [aI z18q]) ?_ rfl rfl rfl rfl
    refine aw_iret cx rt dX6_fault_21 ?_
    exact ⟨rfl, z18q, rfl, hflz18⟩
  · exfalso
    have d5q := b2_y hz2q c5q
    omega
set_option maxHeartbeats 4000000 in
set_option maxRecDepth 100000 in
theorem ct_X6_type_1 (tl : List CD) (M : Mem) (b : Int) : Ct 5 mX6_type (LB ++ tl) [aR 0, aI 1, aI b] M (fun r M1 => ∃ x, r = some (aI x) ∧ (((b < 0 ∨ 255 < b) ∧ x = -2 ∧ M1 = M) ∨ (0 ≤ b ∧ b ≤ 255 ∧ M 3 2 = 23 ∧ x = -4 ∧ M1 = M) ∨ (0 ≤ b ∧ b ≤ 255 ∧ M 3 2 < 23 ∧ x = M 3 2 + 1 ∧ FR [3, 4, 5, 6, 7, 8, 9, 15, 16, 17] M M1 ∧ PAR M1 ∧ M1 3 2 = M 3 2 + 1 ∧ M1 4 = up1 (M 4) (M 3 2).toNat b))) := by
  refine Ct.of (own := RX6) rfl (by decide +kernel) (Nat.le_of_ble_eq_true rfl) (fun X cx rt => ?_)
  refine aw_eq (loc2 := [(0, aR 0), (1, aI 1), (2, aI b)]) ?_ rfl rfl rfl rfl
  refine aw_rngL 2 rfl (fun rl_b rh_b => ?_)
  refine aw_ok (fun om => ?_)
  have hn : 0 ≤ M 3 2 ∧ M 3 2 ≤ 23 := okF om (lb_3 tl) (j := 2) rfl (show (0 : Nat) ≠ 1 by decide)
  refine aw_iload_n cx dX6_type_0 rfl 1 rfl ?_
  refine aw_iconst (n := 2) cx dX6_type_1 (by decide) ?_
  refine aw_callS (as := [aI 1, aI 2]) (stk := []) cx dX6_type_2 ml_X6_84 ms_X6_outside (by decide) rfl rfl (Nat.le_of_ble_eq_true rfl) (ct_X6_outside tl M _ _ ) (fun rr2q M_2q hp2q => ?_)
  obtain ⟨rfl, rfl⟩ := hp2q
  refine aw_top (stk := []) (fun z2q hz2q => ?_)
  refine aw_if_ne (tgt := 18) cx dX6_type_5 (by decide) (fun c5q => ?_) (fun c5q => ?_)
  · exfalso
    have d5q := b2_y hz2q c5q
    omega
  · have d5q := b2_e0.mp (hz2q.symm.trans c5q)
    refine aw_iload_n cx dX6_type_8 rfl 2 rfl ?_
    refine aw_sipush (n := 256) cx dX6_type_9 (by decide) ?_
    refine aw_callS (as := [aI b, aI 256]) (stk := []) cx dX6_type_12 ml_X6_84 ms_X6_outside (by decide) rfl rfl (Nat.le_of_ble_eq_true rfl) (ct_X6_outside tl M _ _ ) (fun rr12q M_12q hp12q => ?_)
    obtain ⟨rfl, rfl⟩ := hp12q
    refine aw_top (stk := []) (fun z12q hz12q => ?_)
    refine aw_if_eq (tgt := 21) cx dX6_type_15 (by decide) (fun c15q => ?_) (fun c15q => ?_)
    · have d15q := b2_e0.mp (hz12q.symm.trans c15q)
      refine aw_aload_n cx dX6_type_21 rfl 0 rfl ?_
      refine aw_iload_n cx dX6_type_22 rfl 1 rfl ?_
      refine aw_callV (as := [aI 1]) (k := 0) (stk := []) cx dX6_type_23 ml_X6_88 mv_X6_textOf rfl (lb_0 tl) (by decide) rfl rfl (Nat.le_of_ble_eq_true rfl) (ct_X6_textOf_1 tl M  ) (fun rr23q M_23q hp23q => ?_)
      obtain ⟨rfl, rfl⟩ := hp23q
      refine aw_eq (stk2 := [aR 3]) ?_ rfl rfl (rfl) rfl
      refine aw_astore_n (loc2 := [(3, aR 3), (0, aR 0), (1, aI 1), (2, aI b)]) cx dX6_type_26 rfl (by decide) rfl ?_
      refine aw_aload_n cx dX6_type_27 rfl 0 rfl ?_
      refine aw_getI cx dX6_type_28 fl_X6_92 (lb_3 tl) rfl (fun z28q hz28q lo_z28q hi_z28q => ?_)
      refine aw_aload_n cx dX6_type_31 rfl 0 rfl ?_
      refine aw_getR (q := 4) cx dX6_type_32 fl_X6_95 (lb_3 tl) rfl rfl ?_
      refine aw_alen cx dX6_type_35 (lb_4 tl) ?_
      refine aw_icmp_lt (tgt := 42) cx dX6_type_36 (by decide) (fun c36q => ?_) (fun c36q => ?_)
      · refine aw_aload_n cx dX6_type_42 rfl 0 rfl ?_
        refine aw_getR (q := 4) cx dX6_type_43 fl_X6_95 (lb_3 tl) rfl rfl ?_
        refine aw_aload_n cx dX6_type_46 rfl 0 rfl ?_
        refine aw_getI cx dX6_type_47 fl_X6_92 (lb_3 tl) rfl (fun z47q hz47q lo_z47q hi_z47q => ?_)
        refine aw_iload_n cx dX6_type_50 rfl 3 rfl ?_
        refine aw_iast cx dX6_type_51 (lb_4 tl) (⟨by omega, by omega⟩) (⟨by omega, by omega⟩) ?_
        obtain ⟨M_51q, hM_51q⟩ : ∃ q, q = up M 4 (Int.toNat (z47q)) (b) := ⟨_, rfl⟩
        rw [← hM_51q]
        refine aw_aload_n cx dX6_type_52 rfl 0 rfl ?_
        refine aw_dup cx dX6_type_53 rfl ?_
        refine aw_getI cx dX6_type_54 fl_X6_92 (lb_3 tl) rfl (fun z54q hz54q lo_z54q hi_z54q => ?_)
        refine aw_iconst (n := 1) cx dX6_type_57 (by decide) ?_
        refine aw_iadd cx dX6_type_58 (by omega) (fun z58q hz58q => ?_)
        refine aw_putI cx dX6_type_59 fl_X6_92 kt_X5 rfl rfl (lb_3 tl) rfl (by rw [up_ne hM_51q (by omega)] at hz54q; exact ⟨by omega, by omega⟩) ?_
        obtain ⟨M_59q, hM_59q⟩ : ∃ q, q = up M_51q 3 2 z58q := ⟨_, rfl⟩
        rw [← hM_59q]
        refine aw_aload_n cx dX6_type_62 rfl 1 rfl ?_
        refine aw_callV (as := []) (k := 0) (stk := []) cx dX6_type_63 ml_X6_98 mv_X6_tellAnew rfl (lb_0 tl) (by decide) rfl rfl (Nat.le_of_ble_eq_true rfl) (ct_X6_tellAnew tl M_59q  ) (fun rr63q M_63q hp63q => ?_)
        obtain ⟨rfl, hfrM_63, hpaM_63⟩ := hp63q
        refine aw_eq (stk2 := []) ?_ rfl rfl rfl rfl
        refine aw_aload_n cx dX6_type_66 rfl 0 rfl ?_
        refine aw_getI cx dX6_type_67 fl_X6_92 (lb_3 tl) rfl (fun z67q hz67q lo_z67q hi_z67q => ?_)
        refine aw_iret cx rt dX6_type_70 ?_
        have q1q : M_63q 3 2 = M 3 2 + 1 := by rw [hfrM_63 3 (by decide), up_eq hM_59q]; rw [up_ne hM_51q (by omega)] at hz54q; omega
        refine ⟨z67q, rfl, Or.inr (Or.inr ⟨by omega, by omega, by omega, by omega, ?_, hpaM_63, q1q, ?_⟩)⟩
        · exact (((FR.rf.put hM_51q (by decide)).put hM_59q (by decide)).tr hfrM_63 (by decide) : FR [3, 4, 5, 6, 7, 8, 9, 15, 16, 17] M M_63q)
        · rw [hfrM_63 4 (by decide), hM_59q, up_off (by decide), hM_51q, up_row, hz47q]
      · refine aw_bipush (n := (-4)) cx dX6_type_39 (by decide) ?_
        refine aw_iret cx rt dX6_type_41 ?_
        exact ⟨-4, rfl, Or.inr (Or.inl ⟨by omega, by omega, by omega, rfl, rfl⟩)⟩
    · have d15q := b2_y hz12q c15q
      refine aw_bipush (n := (-2)) cx dX6_type_18 (by decide) ?_
      refine aw_iret cx rt dX6_type_20 ?_
      exact ⟨-2, rfl, Or.inl ⟨by omega, rfl, rfl⟩⟩
set_option maxHeartbeats 4000000 in
set_option maxRecDepth 100000 in
theorem ct_X6_wipe_1 (tl : List CD) (M : Mem)  : Ct 5 mX6_wipe (LB ++ tl) [aR 0, aI 1] M (fun r M1 => ∃ x, r = some (aI x) ∧ x = M 3 2 ∧ FR [3, 4, 5, 6, 7, 8, 9, 15, 16, 17] M M1 ∧ PAR M1 ∧ M1 3 2 = 0 ∧ M1 4 = M 4) := by
  refine Ct.of (own := RX6) rfl (by decide +kernel) (Nat.le_of_ble_eq_true rfl) (fun X cx rt => ?_)
  refine aw_eq (loc2 := [(0, aR 0), (1, aI 1)]) ?_ rfl rfl rfl rfl
  refine aw_iload_n cx dX6_wipe_0 rfl 1 rfl ?_
  refine aw_iconst (n := 2) cx dX6_wipe_1 (by decide) ?_
  refine aw_callS (as := [aI 1, aI 2]) (stk := []) cx dX6_wipe_2 ml_X6_84 ms_X6_outside (by decide) rfl rfl (Nat.le_of_ble_eq_true rfl) (ct_X6_outside tl M _ _ ) (fun rr2q M_2q hp2q => ?_)
  obtain ⟨rfl, rfl⟩ := hp2q
  refine aw_top (stk := []) (fun z2q hz2q => ?_)
  refine aw_if_eq (tgt := 11) cx dX6_wipe_5 (by decide) (fun c5q => ?_) (fun c5q => ?_)
  · have d5q := b2_e0.mp (hz2q.symm.trans c5q)
    refine aw_aload_n cx dX6_wipe_11 rfl 0 rfl ?_
    refine aw_iload_n cx dX6_wipe_12 rfl 1 rfl ?_
    refine aw_callV (as := [aI 1]) (k := 0) (stk := []) cx dX6_wipe_13 ml_X6_88 mv_X6_textOf rfl (lb_0 tl) (by decide) rfl rfl (Nat.le_of_ble_eq_true rfl) (ct_X6_textOf_1 tl M  ) (fun rr13q M_13q hp13q => ?_)
    obtain ⟨rfl, rfl⟩ := hp13q
    refine aw_eq (stk2 := [aR 3]) ?_ rfl rfl (rfl) rfl
    refine aw_astore_n (loc2 := [(2, aR 3), (0, aR 0), (1, aI 1)]) cx dX6_wipe_16 rfl (by decide) rfl ?_
    refine aw_aload_n cx dX6_wipe_17 rfl 0 rfl ?_
    refine aw_getI cx dX6_wipe_18 fl_X6_92 (lb_3 tl) rfl (fun z18q hz18q lo_z18q hi_z18q => ?_)
    refine aw_istore_n (loc2 := [(3, aI z18q), (2, aR 3), (0, aR 0), (1, aI 1)]) cx dX6_wipe_21 rfl (by decide) rfl ?_
    refine aw_aload_n cx dX6_wipe_22 rfl 1 rfl ?_
    refine aw_iconst (n := 0) cx dX6_wipe_23 (by decide) ?_
    refine aw_putI cx dX6_wipe_24 fl_X6_92 kt_X5 rfl rfl (lb_3 tl) rfl (⟨by omega, by omega⟩) ?_
    obtain ⟨M_24q, hM_24q⟩ : ∃ q, q = up M 3 2 0 := ⟨_, rfl⟩
    rw [← hM_24q]
    refine aw_aload_n cx dX6_wipe_27 rfl 2 rfl ?_
    refine aw_callV (as := []) (k := 0) (stk := []) cx dX6_wipe_28 ml_X6_98 mv_X6_tellAnew rfl (lb_0 tl) (by decide) rfl rfl (Nat.le_of_ble_eq_true rfl) (ct_X6_tellAnew tl M_24q  ) (fun rr28q M_28q hp28q => ?_)
    obtain ⟨rfl, hfrM_28, hpaM_28⟩ := hp28q
    refine aw_eq (stk2 := []) ?_ rfl rfl rfl rfl
    refine aw_iload_n cx dX6_wipe_31 rfl 0 rfl ?_
    refine aw_iret cx rt dX6_wipe_32 ?_
    exact ⟨z18q, rfl, hz18q, ((FR.rf.put hM_24q (by decide)).tr hfrM_28 (by decide) : FR [3, 4, 5, 6, 7, 8, 9, 15, 16, 17] M M_28q), hpaM_28, by rw [hfrM_28 3 (by decide), up_eq hM_24q], by rw [hfrM_28 4 (by decide), hM_24q, up_off (by decide)]⟩
  · exfalso
    have d5q := b2_y hz2q c5q
    omega
set_option maxHeartbeats 4000000 in
set_option maxRecDepth 100000 in
theorem ct_X6_undo_1 (tl : List CD) (M : Mem)  : Ct 5 mX6_undo (LB ++ tl) [aR 0, aI 1] M (fun r M1 => ∃ x, r = some (aI x) ∧ ((M 3 2 = 0 ∧ x = -3 ∧ M1 = M) ∨ (0 < M 3 2 ∧ x = M 3 2 - 1 ∧ FR [3, 4, 5, 6, 7, 8, 9, 15, 16, 17] M M1 ∧ PAR M1 ∧ M1 3 2 = M 3 2 - 1 ∧ M1 4 = M 4))) := by
  refine Ct.of (own := RX6) rfl (by decide +kernel) (Nat.le_of_ble_eq_true rfl) (fun X cx rt => ?_)
  refine aw_eq (loc2 := [(0, aR 0), (1, aI 1)]) ?_ rfl rfl rfl rfl
  refine aw_ok (fun om => ?_)
  have hn : 0 ≤ M 3 2 ∧ M 3 2 ≤ 23 := okF om (lb_3 tl) (j := 2) rfl (show (0 : Nat) ≠ 1 by decide)
  refine aw_iload_n cx dX6_undo_0 rfl 1 rfl ?_
  refine aw_iconst (n := 2) cx dX6_undo_1 (by decide) ?_
  refine aw_callS (as := [aI 1, aI 2]) (stk := []) cx dX6_undo_2 ml_X6_84 ms_X6_outside (by decide) rfl rfl (Nat.le_of_ble_eq_true rfl) (ct_X6_outside tl M _ _ ) (fun rr2q M_2q hp2q => ?_)
  obtain ⟨rfl, rfl⟩ := hp2q
  refine aw_top (stk := []) (fun z2q hz2q => ?_)
  refine aw_if_eq (tgt := 11) cx dX6_undo_5 (by decide) (fun c5q => ?_) (fun c5q => ?_)
  · have d5q := b2_e0.mp (hz2q.symm.trans c5q)
    refine aw_aload_n cx dX6_undo_11 rfl 0 rfl ?_
    refine aw_iload_n cx dX6_undo_12 rfl 1 rfl ?_
    refine aw_callV (as := [aI 1]) (k := 0) (stk := []) cx dX6_undo_13 ml_X6_88 mv_X6_textOf rfl (lb_0 tl) (by decide) rfl rfl (Nat.le_of_ble_eq_true rfl) (ct_X6_textOf_1 tl M  ) (fun rr13q M_13q hp13q => ?_)
    obtain ⟨rfl, rfl⟩ := hp13q
    refine aw_eq (stk2 := [aR 3]) ?_ rfl rfl (rfl) rfl
    refine aw_astore_n (loc2 := [(2, aR 3), (0, aR 0), (1, aI 1)]) cx dX6_undo_16 rfl (by decide) rfl ?_
    refine aw_aload_n cx dX6_undo_17 rfl 0 rfl ?_
    refine aw_getI cx dX6_undo_18 fl_X6_92 (lb_3 tl) rfl (fun z18q hz18q lo_z18q hi_z18q => ?_)
    refine aw_if_ne (tgt := 27) cx dX6_undo_21 (by decide) (fun c21q => ?_) (fun c21q => ?_)
    · refine aw_aload_n cx dX6_undo_27 rfl 0 rfl ?_
      refine aw_dup cx dX6_undo_28 rfl ?_
      refine aw_getI cx dX6_undo_29 fl_X6_92 (lb_3 tl) rfl (fun z29q hz29q lo_z29q hi_z29q => ?_)
      refine aw_iconst (n := 1) cx dX6_undo_32 (by decide) ?_
      refine aw_isub cx dX6_undo_33 (by omega) (fun z33q hz33q => ?_)
      refine aw_putI cx dX6_undo_34 fl_X6_92 kt_X5 rfl rfl (lb_3 tl) rfl (⟨by omega, by omega⟩) ?_
      obtain ⟨M_34q, hM_34q⟩ : ∃ q, q = up M 3 2 z33q := ⟨_, rfl⟩
      rw [← hM_34q]
      refine aw_aload_n cx dX6_undo_37 rfl 1 rfl ?_
      refine aw_callV (as := []) (k := 0) (stk := []) cx dX6_undo_38 ml_X6_98 mv_X6_tellAnew rfl (lb_0 tl) (by decide) rfl rfl (Nat.le_of_ble_eq_true rfl) (ct_X6_tellAnew tl M_34q  ) (fun rr38q M_38q hp38q => ?_)
      obtain ⟨rfl, hfrM_38, hpaM_38⟩ := hp38q
      refine aw_eq (stk2 := []) ?_ rfl rfl rfl rfl
      refine aw_aload_n cx dX6_undo_41 rfl 0 rfl ?_
      refine aw_getI cx dX6_undo_42 fl_X6_92 (lb_3 tl) rfl (fun z42q hz42q lo_z42q hi_z42q => ?_)
      refine aw_iret cx rt dX6_undo_45 ?_
      have q1q : M_38q 3 2 = M 3 2 - 1 := by rw [hfrM_38 3 (by decide), up_eq hM_34q]; omega
      exact ⟨z42q, rfl, Or.inr ⟨by omega, by omega, ((FR.rf.put hM_34q (by decide)).tr hfrM_38 (by decide) : FR [3, 4, 5, 6, 7, 8, 9, 15, 16, 17] M M_38q), hpaM_38, q1q, by rw [hfrM_38 4 (by decide), hM_34q, up_off (by decide)]⟩⟩
    · refine aw_bipush (n := (-3)) cx dX6_undo_24 (by decide) ?_
      refine aw_iret cx rt dX6_undo_26 ?_
      exact ⟨-3, rfl, Or.inl ⟨by omega, rfl, rfl⟩⟩
  · exfalso
    have d5q := b2_y hz2q c5q
    omega
set_option maxHeartbeats 4000000 in
set_option maxRecDepth 100000 in
theorem ct_X6_fault_1 (tl : List CD) (M : Mem)  : Ct 2 mX6_fault (LB ++ tl) [aR 0, aI 1] M (fun r M1 => M = M1 ∧ ∃ x, r = some (aI x) ∧ FLT 3 (M 3 2).toNat (M 4) x) := by
  refine Ct.of (own := RX6) rfl (by decide +kernel) (Nat.le_of_ble_eq_true rfl) (fun X cx rt => ?_)
  refine aw_eq (loc2 := [(0, aR 0), (1, aI 1)]) ?_ rfl rfl rfl rfl
  refine aw_iload_n cx dX6_fault_0 rfl 1 rfl ?_
  refine aw_iconst (n := 2) cx dX6_fault_1 (by decide) ?_
  refine aw_callS (as := [aI 1, aI 2]) (stk := []) cx dX6_fault_2 ml_X6_84 ms_X6_outside (by decide) rfl rfl (Nat.le_of_ble_eq_true rfl) (ct_X6_outside tl M _ _ ) (fun rr2q M_2q hp2q => ?_)
  obtain ⟨rfl, rfl⟩ := hp2q
  refine aw_top (stk := []) (fun z2q hz2q => ?_)
  refine aw_if_eq (tgt := 13) cx dX6_fault_5 (by decide) (fun c5q => ?_) (fun c5q => ?_)
  · have d5q := b2_e0.mp (hz2q.symm.trans c5q)
    refine aw_aload_n cx dX6_fault_13 rfl 0 rfl ?_
    refine aw_iload_n cx dX6_fault_14 rfl 1 rfl ?_
    refine aw_callV (as := [aI 1]) (k := 0) (stk := []) cx dX6_fault_15 ml_X6_88 mv_X6_textOf rfl (lb_0 tl) (by decide) rfl rfl (Nat.le_of_ble_eq_true rfl) (ct_X6_textOf_1 tl M  ) (fun rr15q M_15q hp15q => ?_)
    obtain ⟨rfl, rfl⟩ := hp15q
    refine aw_eq (stk2 := [aR 3]) ?_ rfl rfl (rfl) rfl
    refine aw_callV (as := []) (k := 3) (stk := []) cx dX6_fault_18 ml_X6_101 mv_X5_faultPlace rfl (lb_3 tl) (by decide) rfl rfl (Nat.le_of_ble_eq_true rfl) (ct_X5_faultPlace_c tl M  ) (fun rr18q M_18q hp18q => ?_)
    obtain ⟨rfl, z18q, rfl, hflz18⟩ := hp18q
    refine aw_eq (stk2 := [aI z18q]) ?_ rfl rfl rfl rfl
    refine aw_iret cx rt dX6_fault_21 ?_
    exact ⟨rfl, z18q, rfl, hflz18⟩
  · exfalso
    have d5q := b2_y hz2q c5q
    omega
set_option maxHeartbeats 4000000 in
set_option maxRecDepth 100000 in
theorem ct_X6_type_x (tl : List CD) (M : Mem) (text b : Int) (htx : text < 0 ∨ 1 < text) : Ct 5 mX6_type (LB ++ tl) [aR 0, aI text, aI b] M (fun r M1 => M = M1 ∧ r = some (aI (-2))) := by
  refine Ct.of (own := RX6) rfl (by decide +kernel) (Nat.le_of_ble_eq_true rfl) (fun X cx rt => ?_)
  refine aw_eq (loc2 := [(0, aR 0), (1, aI text), (2, aI b)]) ?_ rfl rfl rfl rfl
  refine aw_rngL 1 rfl (fun rl_text rh_text => ?_)
  refine aw_rngL 2 rfl (fun rl_b rh_b => ?_)
  refine aw_iload_n cx dX6_type_0 rfl 1 rfl ?_
  refine aw_iconst (n := 2) cx dX6_type_1 (by decide) ?_
  refine aw_callS (as := [aI text, aI 2]) (stk := []) cx dX6_type_2 ml_X6_84 ms_X6_outside (by decide) rfl rfl (Nat.le_of_ble_eq_true rfl) (ct_X6_outside tl M _ _ ) (fun rr2q M_2q hp2q => ?_)
  obtain ⟨rfl, rfl⟩ := hp2q
  refine aw_top (stk := []) (fun z2q hz2q => ?_)
  refine aw_if_ne (tgt := 18) cx dX6_type_5 (by decide) (fun c5q => ?_) (fun c5q => ?_)
  · have d5q := b2_y hz2q c5q
    refine aw_bipush (n := (-2)) cx dX6_type_18 (by decide) ?_
    refine aw_iret cx rt dX6_type_20 ?_
    exact ⟨rfl, rfl⟩
  · exfalso
    have d5q := b2_e0.mp (hz2q.symm.trans c5q)
    omega
set_option maxHeartbeats 4000000 in
set_option maxRecDepth 100000 in
theorem ct_X6_wipe_x (tl : List CD) (M : Mem) (text : Int) (htx : text < 0 ∨ 1 < text) : Ct 5 mX6_wipe (LB ++ tl) [aR 0, aI text] M (fun r M1 => M = M1 ∧ r = some (aI (-2))) := by
  refine Ct.of (own := RX6) rfl (by decide +kernel) (Nat.le_of_ble_eq_true rfl) (fun X cx rt => ?_)
  refine aw_eq (loc2 := [(0, aR 0), (1, aI text)]) ?_ rfl rfl rfl rfl
  refine aw_rngL 1 rfl (fun rl_text rh_text => ?_)
  refine aw_iload_n cx dX6_wipe_0 rfl 1 rfl ?_
  refine aw_iconst (n := 2) cx dX6_wipe_1 (by decide) ?_
  refine aw_callS (as := [aI text, aI 2]) (stk := []) cx dX6_wipe_2 ml_X6_84 ms_X6_outside (by decide) rfl rfl (Nat.le_of_ble_eq_true rfl) (ct_X6_outside tl M _ _ ) (fun rr2q M_2q hp2q => ?_)
  obtain ⟨rfl, rfl⟩ := hp2q
  refine aw_top (stk := []) (fun z2q hz2q => ?_)
  refine aw_if_eq (tgt := 11) cx dX6_wipe_5 (by decide) (fun c5q => ?_) (fun c5q => ?_)
  · exfalso
    have d5q := b2_e0.mp (hz2q.symm.trans c5q)
    omega
  · have d5q := b2_y hz2q c5q
    refine aw_bipush (n := (-2)) cx dX6_wipe_8 (by decide) ?_
    refine aw_iret cx rt dX6_wipe_10 ?_
    exact ⟨rfl, rfl⟩
set_option maxHeartbeats 4000000 in
set_option maxRecDepth 100000 in
theorem ct_X6_undo_x (tl : List CD) (M : Mem) (text : Int) (htx : text < 0 ∨ 1 < text) : Ct 5 mX6_undo (LB ++ tl) [aR 0, aI text] M (fun r M1 => M = M1 ∧ r = some (aI (-2))) := by
  refine Ct.of (own := RX6) rfl (by decide +kernel) (Nat.le_of_ble_eq_true rfl) (fun X cx rt => ?_)
  refine aw_eq (loc2 := [(0, aR 0), (1, aI text)]) ?_ rfl rfl rfl rfl
  refine aw_rngL 1 rfl (fun rl_text rh_text => ?_)
  refine aw_iload_n cx dX6_undo_0 rfl 1 rfl ?_
  refine aw_iconst (n := 2) cx dX6_undo_1 (by decide) ?_
  refine aw_callS (as := [aI text, aI 2]) (stk := []) cx dX6_undo_2 ml_X6_84 ms_X6_outside (by decide) rfl rfl (Nat.le_of_ble_eq_true rfl) (ct_X6_outside tl M _ _ ) (fun rr2q M_2q hp2q => ?_)
  obtain ⟨rfl, rfl⟩ := hp2q
  refine aw_top (stk := []) (fun z2q hz2q => ?_)
  refine aw_if_eq (tgt := 11) cx dX6_undo_5 (by decide) (fun c5q => ?_) (fun c5q => ?_)
  · exfalso
    have d5q := b2_e0.mp (hz2q.symm.trans c5q)
    omega
  · have d5q := b2_y hz2q c5q
    refine aw_bipush (n := (-2)) cx dX6_undo_8 (by decide) ?_
    refine aw_iret cx rt dX6_undo_10 ?_
    exact ⟨rfl, rfl⟩
set_option maxHeartbeats 4000000 in
set_option maxRecDepth 100000 in
theorem ct_X6_fault_x (tl : List CD) (M : Mem) (text : Int) (htx : text < 0 ∨ 1 < text) : Ct 2 mX6_fault (LB ++ tl) [aR 0, aI text] M (fun r M1 => M = M1 ∧ r = some (aI (-2))) := by
  refine Ct.of (own := RX6) rfl (by decide +kernel) (Nat.le_of_ble_eq_true rfl) (fun X cx rt => ?_)
  refine aw_eq (loc2 := [(0, aR 0), (1, aI text)]) ?_ rfl rfl rfl rfl
  refine aw_rngL 1 rfl (fun rl_text rh_text => ?_)
  refine aw_iload_n cx dX6_fault_0 rfl 1 rfl ?_
  refine aw_iconst (n := 2) cx dX6_fault_1 (by decide) ?_
  refine aw_callS (as := [aI text, aI 2]) (stk := []) cx dX6_fault_2 ml_X6_84 ms_X6_outside (by decide) rfl rfl (Nat.le_of_ble_eq_true rfl) (ct_X6_outside tl M _ _ ) (fun rr2q M_2q hp2q => ?_)
  obtain ⟨rfl, rfl⟩ := hp2q
  refine aw_top (stk := []) (fun z2q hz2q => ?_)
  refine aw_if_eq (tgt := 13) cx dX6_fault_5 (by decide) (fun c5q => ?_) (fun c5q => ?_)
  · exfalso
    have d5q := b2_e0.mp (hz2q.symm.trans c5q)
    omega
  · have d5q := b2_y hz2q c5q
    refine aw_bipush (n := (-2)) cx dX6_fault_8 (by decide) ?_
    refine aw_goto (tgt := 21) cx dX6_fault_10 (by decide) ?_
    refine aw_iret cx rt dX6_fault_21 ?_
    exact ⟨rfl, rfl⟩
